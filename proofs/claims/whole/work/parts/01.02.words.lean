/-! The words of the tables that a run keeps, one by one. -/
def UW : List Cond := lw_tbl.filter goodWord
theorem UW_in {w : Cond} (h : w ∈ lw_tbl) (hg : goodWord w = true) : w ∈ UW := List.mem_filter.mpr ⟨h, hg⟩
theorem UW_good {w : Cond} (h : w ∈ UW) : w ∈ lw_tbl ∧ goodWord w = true := List.mem_filter.mp h
theorem UW_GoodIn {c : Cond} : GoodIn (c :: UW) UW := fun w h => ⟨List.mem_cons_of_mem _ h, good_of_word (UW_good h).2⟩
theorem lw_in1 {w : Cond} (h : w ∈ tables_1) : w ∈ lw_tbl := List.mem_append_right _ h
theorem lw_i1 {w : Cond} (h : w ∈ tables_1_1) : w ∈ lw_tbl := lw_in1 (List.mem_append_left _ h)
theorem lw_i2 {w : Cond} (h : w ∈ tables_1_2) : w ∈ lw_tbl := lw_in1 (List.mem_append_right _ (List.mem_append_left _ h))
theorem lw_i3 {w : Cond} (h : w ∈ tables_1_3) : w ∈ lw_tbl := lw_in1 (List.mem_append_right _ (List.mem_append_right _ (List.mem_append_left _ h)))
theorem lw_i4 {w : Cond} (h : w ∈ tables_1_4) : w ∈ lw_tbl := lw_in1 (List.mem_append_right _ (List.mem_append_right _ (List.mem_append_right _ (List.mem_append_left _ h))))
theorem lw_i5 {w : Cond} (h : w ∈ tables_1_5) : w ∈ lw_tbl := lw_in1 (List.mem_append_right _ (List.mem_append_right _ (List.mem_append_right _ (List.mem_append_right _ (List.mem_append_left _ h)))))
theorem lw_i6 {w : Cond} (h : w ∈ tables_1_6) : w ∈ lw_tbl := lw_in1 (List.mem_append_right _ (List.mem_append_right _ (List.mem_append_right _ (List.mem_append_right _ (List.mem_append_right _ (List.mem_append_left _ h))))))
theorem lw_i7 {w : Cond} (h : w ∈ tables_1_7) : w ∈ lw_tbl := lw_in1 (List.mem_append_right _ (List.mem_append_right _ (List.mem_append_right _ (List.mem_append_right _ (List.mem_append_right _ (List.mem_append_right _ (h)))))))
theorem mw_1_0 : (Cond.initialized "FaultTestsLaw") ∈ UW := UW_in (lw_i1 (List.mem_of_getElem? (i := 0) rfl)) rfl
theorem mw_1_1 : (Cond.initialized "FaultTests") ∈ UW := UW_in (lw_i1 (List.mem_of_getElem? (i := 1) rfl)) rfl
theorem mw_1_2 : (Cond.initialized "FaultTests$SetupReader") ∈ UW := UW_in (lw_i1 (List.mem_of_getElem? (i := 2) rfl)) rfl
theorem mw_1_3 : (Cond.initialized "FaultTests$Setup") ∈ UW := UW_in (lw_i1 (List.mem_of_getElem? (i := 3) rfl)) rfl
theorem mw_1_4 : (Cond.initialized "FaultTests$Circuit") ∈ UW := UW_in (lw_i1 (List.mem_of_getElem? (i := 4) rfl)) rfl
theorem mw_1_5 : (Cond.initialized "FaultTests$TestList") ∈ UW := UW_in (lw_i1 (List.mem_of_getElem? (i := 5) rfl)) rfl
theorem mw_1_6 : (Cond.initialized "FaultTests$History") ∈ UW := UW_in (lw_i1 (List.mem_of_getElem? (i := 6) rfl)) rfl
theorem mw_1_7 : (Cond.initialized "FaultTests$Rows") ∈ UW := UW_in (lw_i1 (List.mem_of_getElem? (i := 7) rfl)) rfl
theorem mw_1_8 : (Cond.initialized "FaultTests$Lanes") ∈ UW := UW_in (lw_i1 (List.mem_of_getElem? (i := 8) rfl)) rfl
theorem mw_1_9 : (Cond.initialized "FaultTestsModel") ∈ UW := UW_in (lw_i1 (List.mem_of_getElem? (i := 9) rfl)) rfl
theorem mw_1_10 : (Cond.initialized "java/lang/Throwable") ∈ UW := UW_in (lw_i1 (List.mem_of_getElem? (i := 10) rfl)) rfl
theorem mw_1_11 : (Cond.initialized "java/lang/Exception") ∈ UW := UW_in (lw_i1 (List.mem_of_getElem? (i := 11) rfl)) rfl
theorem mw_1_12 : (Cond.initialized "java/lang/RuntimeException") ∈ UW := UW_in (lw_i1 (List.mem_of_getElem? (i := 12) rfl)) rfl
theorem mw_1_13 : (Cond.initialized "java/lang/IllegalArgumentException") ∈ UW := UW_in (lw_i1 (List.mem_of_getElem? (i := 13) rfl)) rfl
theorem mw_1_14 : (Cond.initialized "java/lang/Math") ∈ UW := UW_in (lw_i1 (List.mem_of_getElem? (i := 14) rfl)) rfl
theorem mw_1_15 : (Cond.initialized "java/lang/String") ∈ UW := UW_in (lw_i1 (List.mem_of_getElem? (i := 15) rfl)) rfl
theorem mw_1_16 : (Cond.initialized "java/lang/StringLatin1") ∈ UW := UW_in (lw_i1 (List.mem_of_getElem? (i := 16) rfl)) rfl
theorem mw_1_17 : (Cond.initialized "jdk/internal/util/Preconditions") ∈ UW := UW_in (lw_i1 (List.mem_of_getElem? (i := 17) rfl)) rfl
theorem mw_1_18 : (Cond.initialized "java/lang/StringUTF16") ∈ UW := UW_in (lw_i1 (List.mem_of_getElem? (i := 18) rfl)) rfl
theorem mw_1_19 : (Cond.initialized "java/lang/System") ∈ UW := UW_in (lw_i1 (List.mem_of_getElem? (i := 19) rfl)) rfl
theorem mw_1_20 : (Cond.initialized "java/lang/Integer") ∈ UW := UW_in (lw_i1 (List.mem_of_getElem? (i := 20) rfl)) rfl
theorem mw_1_21 : (Cond.initialized "java/lang/Long") ∈ UW := UW_in (lw_i1 (List.mem_of_getElem? (i := 21) rfl)) rfl
theorem mw_1_22 : (Cond.initialized "java/lang/IndexOutOfBoundsException") ∈ UW := UW_in (lw_i1 (List.mem_of_getElem? (i := 22) rfl)) rfl
theorem mw_1_23 : (Cond.initialized "java/util/NoSuchElementException") ∈ UW := UW_in (lw_i1 (List.mem_of_getElem? (i := 23) rfl)) rfl
theorem mw_1_24 : (Cond.initialized "java/lang/IllegalStateException") ∈ UW := UW_in (lw_i1 (List.mem_of_getElem? (i := 24) rfl)) rfl
theorem mw_1_25 : (Cond.classLink "FaultTestsLaw" 8 "FaultTests") ∈ UW := UW_in (lw_i1 (List.mem_of_getElem? (i := 25) rfl)) rfl
theorem mw_1_26 : (Cond.instantiable "FaultTests" 12) ∈ UW := UW_in (lw_i1 (List.mem_of_getElem? (i := 26) rfl)) rfl
theorem mw_1_27 : (Cond.methodLink "FaultTestsLaw" 72 ⟨"FaultTests", "<init>", "()V"⟩) ∈ UW := UW_in (lw_i1 (List.mem_of_getElem? (i := 27) rfl)) rfl
theorem mw_1_28 : (Cond.instanceMethod ⟨"FaultTests", "<init>", "()V"⟩) ∈ UW := UW_in (lw_i1 (List.mem_of_getElem? (i := 28) rfl)) rfl
theorem mw_1_29 : (Cond.code ⟨"FaultTests", "<init>", "()V"⟩ prog_1_method_1_code 1 none) ∈ UW := UW_in (lw_i1 (List.mem_of_getElem? (i := 29) rfl)) rfl
theorem mw_1_30 : (Cond.methodLink "FaultTests" 3 ⟨"java/lang/Object", "<init>", "()V"⟩) ∈ UW := UW_in (lw_i1 (List.mem_of_getElem? (i := 30) rfl)) rfl
theorem mw_1_31 : (Cond.instanceMethod ⟨"java/lang/Object", "<init>", "()V"⟩) ∈ UW := UW_in (lw_i1 (List.mem_of_getElem? (i := 31) rfl)) rfl
theorem mw_1_32 : (Cond.code ⟨"java/lang/Object", "<init>", "()V"⟩ object_method_1_code 1 none) ∈ UW := UW_in (lw_i1 (List.mem_of_getElem? (i := 32) rfl)) rfl
theorem mw_1_33 : (Cond.classLink "FaultTests" 9 "FaultTests$SetupReader") ∈ UW := UW_in (lw_i1 (List.mem_of_getElem? (i := 33) rfl)) rfl
theorem mw_1_34 : (Cond.instantiable "FaultTests$SetupReader" 10) ∈ UW := UW_in (lw_i1 (List.mem_of_getElem? (i := 34) rfl)) rfl
theorem mw_1_36 : (Cond.instanceMethod ⟨"FaultTests$SetupReader", "<init>", "()V"⟩) ∈ UW := UW_in (lw_i1 (List.mem_of_getElem? (i := 36) rfl)) rfl
theorem mw_1_37 : (Cond.code ⟨"FaultTests$SetupReader", "<init>", "()V"⟩ prog_7_method_1_code 1 none) ∈ UW := UW_in (lw_i1 (List.mem_of_getElem? (i := 37) rfl)) rfl
theorem mw_1_38 : (Cond.methodLink "FaultTests$SetupReader" 3 ⟨"java/lang/Object", "<init>", "()V"⟩) ∈ UW := UW_in (lw_i1 (List.mem_of_getElem? (i := 38) rfl)) rfl
theorem mw_1_39 : (Cond.classLink "FaultTests$SetupReader" 9 "FaultTests$Setup") ∈ UW := UW_in (lw_i1 (List.mem_of_getElem? (i := 39) rfl)) rfl
theorem mw_1_40 : (Cond.instantiable "FaultTests$Setup" 2) ∈ UW := UW_in (lw_i1 (List.mem_of_getElem? (i := 40) rfl)) rfl
theorem mw_1_42 : (Cond.instanceMethod ⟨"FaultTests$Setup", "<init>", "()V"⟩) ∈ UW := UW_in (lw_i1 (List.mem_of_getElem? (i := 42) rfl)) rfl
theorem mw_1_43 : (Cond.code ⟨"FaultTests$Setup", "<init>", "()V"⟩ prog_6_method_1_code 1 none) ∈ UW := UW_in (lw_i1 (List.mem_of_getElem? (i := 43) rfl)) rfl
theorem mw_1_44 : (Cond.methodLink "FaultTests$Setup" 1 ⟨"java/lang/Object", "<init>", "()V"⟩) ∈ UW := UW_in (lw_i1 (List.mem_of_getElem? (i := 44) rfl)) rfl
theorem mw_1_45 : (Cond.classLink "FaultTests$Setup" 7 "FaultTests$Circuit") ∈ UW := UW_in (lw_i1 (List.mem_of_getElem? (i := 45) rfl)) rfl
theorem mw_1_46 : (Cond.instantiable "FaultTests$Circuit" 14) ∈ UW := UW_in (lw_i1 (List.mem_of_getElem? (i := 46) rfl)) rfl
theorem mw_1_47 : (Cond.methodLink "FaultTests$Setup" 9 ⟨"FaultTests$Circuit", "<init>", "()V"⟩) ∈ UW := UW_in (lw_i1 (List.mem_of_getElem? (i := 47) rfl)) rfl
theorem mw_1_48 : (Cond.instanceMethod ⟨"FaultTests$Circuit", "<init>", "()V"⟩) ∈ UW := UW_in (lw_i1 (List.mem_of_getElem? (i := 48) rfl)) rfl
theorem mw_1_49 : (Cond.code ⟨"FaultTests$Circuit", "<init>", "()V"⟩ prog_2_method_1_code 1 none) ∈ UW := UW_in (lw_i1 (List.mem_of_getElem? (i := 49) rfl)) rfl
theorem mw_1_50 : (Cond.methodLink "FaultTests$Circuit" 3 ⟨"java/lang/Object", "<init>", "()V"⟩) ∈ UW := UW_in (lw_i1 (List.mem_of_getElem? (i := 50) rfl)) rfl
theorem mw_1_51 : (Cond.methodLink "FaultTests$Circuit" 42 ⟨"FaultTests$Circuit", "clear", "(I)V"⟩) ∈ UW := UW_in (lw_i1 (List.mem_of_getElem? (i := 51) rfl)) rfl
theorem mw_1_52 : (Cond.instanceMethod ⟨"FaultTests$Circuit", "clear", "(I)V"⟩) ∈ UW := UW_in (lw_i1 (List.mem_of_getElem? (i := 52) rfl)) rfl
theorem mw_1_53 : (Cond.selects "FaultTests$Circuit" ⟨"FaultTests$Circuit", "clear", "(I)V"⟩ ⟨"FaultTests$Circuit", "clear", "(I)V"⟩) ∈ UW := UW_in (lw_i1 (List.mem_of_getElem? (i := 53) rfl)) rfl
theorem mw_1_54 : (Cond.code ⟨"FaultTests$Circuit", "clear", "(I)V"⟩ prog_2_method_2_code 3 none) ∈ UW := UW_in (lw_i1 (List.mem_of_getElem? (i := 54) rfl)) rfl
theorem mw_1_55 : (Cond.fieldLink "FaultTests$Circuit" 46 "FaultTests$Circuit" "inputs" "I") ∈ UW := UW_in (lw_i1 (List.mem_of_getElem? (i := 55) rfl)) rfl
theorem mw_1_56 : (Cond.fieldLink "FaultTests$Lanes" 46 "FaultTests$Circuit" "inputs" "I") ∈ UW := UW_in (lw_i1 (List.mem_of_getElem? (i := 56) rfl)) rfl
theorem mw_1_57 : (Cond.fieldLink "FaultTests" 109 "FaultTests$Circuit" "inputs" "I") ∈ UW := UW_in (lw_i1 (List.mem_of_getElem? (i := 57) rfl)) rfl
theorem mw_1_58 : (Cond.fieldLink "FaultTests$SetupReader" 163 "FaultTests$Circuit" "inputs" "I") ∈ UW := UW_in (lw_i1 (List.mem_of_getElem? (i := 58) rfl)) rfl
theorem mw_1_59 : (Cond.fieldLink "FaultTests$Circuit" 50 "FaultTests$Circuit" "wires" "I") ∈ UW := UW_in (lw_i1 (List.mem_of_getElem? (i := 59) rfl)) rfl
theorem mw_1_60 : (Cond.fieldLink "FaultTests" 101 "FaultTests$Circuit" "wires" "I") ∈ UW := UW_in (lw_i1 (List.mem_of_getElem? (i := 60) rfl)) rfl
theorem mw_1_61 : (Cond.fieldLink "FaultTests$Lanes" 49 "FaultTests$Circuit" "wires" "I") ∈ UW := UW_in (lw_i1 (List.mem_of_getElem? (i := 61) rfl)) rfl
theorem mw_1_62 : (Cond.fieldLink "FaultTests$SetupReader" 118 "FaultTests$Circuit" "wires" "I") ∈ UW := UW_in (lw_i1 (List.mem_of_getElem? (i := 62) rfl)) rfl
theorem mw_1_63 : (Cond.fieldLink "FaultTests$Circuit" 53 "FaultTests$Circuit" "outputs" "I") ∈ UW := UW_in (lw_i1 (List.mem_of_getElem? (i := 63) rfl)) rfl
theorem mw_1_64 : (Cond.fieldLink "FaultTests$Rows" 50 "FaultTests$Circuit" "outputs" "I") ∈ UW := UW_in (lw_i1 (List.mem_of_getElem? (i := 64) rfl)) rfl
theorem mw_1_65 : (Cond.fieldLink "FaultTests" 112 "FaultTests$Circuit" "outputs" "I") ∈ UW := UW_in (lw_i1 (List.mem_of_getElem? (i := 65) rfl)) rfl
theorem mw_1_66 : (Cond.fieldLink "FaultTests$Circuit" 56 "FaultTests$Circuit" "bridges" "I") ∈ UW := UW_in (lw_i1 (List.mem_of_getElem? (i := 66) rfl)) rfl
theorem mw_1_67 : (Cond.fieldLink "FaultTests" 119 "FaultTests$Circuit" "bridges" "I") ∈ UW := UW_in (lw_i1 (List.mem_of_getElem? (i := 67) rfl)) rfl
theorem mw_1_68 : (Cond.fieldLink "FaultTests$Circuit" 9 "FaultTests$Circuit" "kind" "[I") ∈ UW := UW_in (lw_i1 (List.mem_of_getElem? (i := 68) rfl)) rfl
theorem mw_1_69 : (Cond.fieldLink "FaultTests" 152 "FaultTests$Circuit" "kind" "[I") ∈ UW := UW_in (lw_i1 (List.mem_of_getElem? (i := 69) rfl)) rfl
theorem mw_1_70 : (Cond.fieldLink "FaultTests$Lanes" 72 "FaultTests$Circuit" "kind" "[I") ∈ UW := UW_in (lw_i1 (List.mem_of_getElem? (i := 70) rfl)) rfl
theorem mw_1_71 : (Cond.fieldLink "FaultTests$Circuit" 15 "FaultTests$Circuit" "operandCount" "[I") ∈ UW := UW_in (lw_i1 (List.mem_of_getElem? (i := 71) rfl)) rfl
theorem mw_1_72 : (Cond.fieldLink "FaultTests" 155 "FaultTests$Circuit" "operandCount" "[I") ∈ UW := UW_in (lw_i1 (List.mem_of_getElem? (i := 72) rfl)) rfl
theorem mw_1_73 : (Cond.fieldLink "FaultTests$Lanes" 78 "FaultTests$Circuit" "operandCount" "[I") ∈ UW := UW_in (lw_i1 (List.mem_of_getElem? (i := 73) rfl)) rfl
theorem mw_1_74 : (Cond.fieldLink "FaultTests$Circuit" 18 "FaultTests$Circuit" "operand" "[I") ∈ UW := UW_in (lw_i1 (List.mem_of_getElem? (i := 74) rfl)) rfl
theorem mw_1_75 : (Cond.fieldLink "FaultTests" 172 "FaultTests$Circuit" "operand" "[I") ∈ UW := UW_in (lw_i1 (List.mem_of_getElem? (i := 75) rfl)) rfl
theorem mw_1_76 : (Cond.fieldLink "FaultTests$Lanes" 75 "FaultTests$Circuit" "operand" "[I") ∈ UW := UW_in (lw_i1 (List.mem_of_getElem? (i := 76) rfl)) rfl
theorem mw_1_77 : (Cond.fieldLink "FaultTests$Circuit" 21 "FaultTests$Circuit" "level" "[I") ∈ UW := UW_in (lw_i1 (List.mem_of_getElem? (i := 77) rfl)) rfl
theorem mw_1_78 : (Cond.fieldLink "FaultTests" 158 "FaultTests$Circuit" "level" "[I") ∈ UW := UW_in (lw_i1 (List.mem_of_getElem? (i := 78) rfl)) rfl
theorem mw_1_79 : (Cond.fieldLink "FaultTests$Circuit" 24 "FaultTests$Circuit" "uses" "[I") ∈ UW := UW_in (lw_i1 (List.mem_of_getElem? (i := 79) rfl)) rfl
theorem mw_1_80 : (Cond.fieldLink "FaultTests" 161 "FaultTests$Circuit" "uses" "[I") ∈ UW := UW_in (lw_i1 (List.mem_of_getElem? (i := 80) rfl)) rfl
theorem mw_1_81 : (Cond.fieldLink "FaultTests$Circuit" 27 "FaultTests$Circuit" "below" "[I") ∈ UW := UW_in (lw_i1 (List.mem_of_getElem? (i := 81) rfl)) rfl
theorem mw_1_82 : (Cond.fieldLink "FaultTests$Lanes" 60 "FaultTests$Circuit" "below" "[I") ∈ UW := UW_in (lw_i1 (List.mem_of_getElem? (i := 82) rfl)) rfl
theorem mw_1_83 : (Cond.fieldLink "FaultTests$Circuit" 30 "FaultTests$Circuit" "outputWire" "[I") ∈ UW := UW_in (lw_i1 (List.mem_of_getElem? (i := 83) rfl)) rfl
theorem mw_1_84 : (Cond.fieldLink "FaultTests$Rows" 58 "FaultTests$Circuit" "outputWire" "[I") ∈ UW := UW_in (lw_i1 (List.mem_of_getElem? (i := 84) rfl)) rfl
theorem mw_1_85 : (Cond.fieldLink "FaultTests$Circuit" 33 "FaultTests$Circuit" "bridgeFirst" "[I") ∈ UW := UW_in (lw_i1 (List.mem_of_getElem? (i := 85) rfl)) rfl
theorem mw_1_86 : (Cond.fieldLink "FaultTests$Lanes" 63 "FaultTests$Circuit" "bridgeFirst" "[I") ∈ UW := UW_in (lw_i1 (List.mem_of_getElem? (i := 86) rfl)) rfl
theorem mw_1_87 : (Cond.fieldLink "FaultTests$Circuit" 36 "FaultTests$Circuit" "bridgeSecond" "[I") ∈ UW := UW_in (lw_i1 (List.mem_of_getElem? (i := 87) rfl)) rfl
theorem mw_1_88 : (Cond.fieldLink "FaultTests$Lanes" 66 "FaultTests$Circuit" "bridgeSecond" "[I") ∈ UW := UW_in (lw_i1 (List.mem_of_getElem? (i := 88) rfl)) rfl
theorem mw_1_89 : (Cond.fieldLink "FaultTests$Circuit" 39 "FaultTests$Circuit" "bridgeKind" "[I") ∈ UW := UW_in (lw_i1 (List.mem_of_getElem? (i := 89) rfl)) rfl
theorem mw_1_90 : (Cond.fieldLink "FaultTests$Lanes" 69 "FaultTests$Circuit" "bridgeKind" "[I") ∈ UW := UW_in (lw_i1 (List.mem_of_getElem? (i := 90) rfl)) rfl
theorem mw_1_91 : (Cond.lays "FaultTests$Circuit" "FaultTests$Circuit" "inputs" "I") ∈ UW := UW_in (lw_i1 (List.mem_of_getElem? (i := 91) rfl)) rfl
theorem mw_1_93 : (Cond.lays "FaultTests$Circuit" "FaultTests$Circuit" "wires" "I") ∈ UW := UW_in (lw_i1 (List.mem_of_getElem? (i := 93) rfl)) rfl
theorem mw_1_95 : (Cond.lays "FaultTests$Circuit" "FaultTests$Circuit" "outputs" "I") ∈ UW := UW_in (lw_i1 (List.mem_of_getElem? (i := 95) rfl)) rfl
theorem mw_1_97 : (Cond.lays "FaultTests$Circuit" "FaultTests$Circuit" "bridges" "I") ∈ UW := UW_in (lw_i1 (List.mem_of_getElem? (i := 97) rfl)) rfl
theorem mw_1_99 : (Cond.laysFinal "FaultTests$Circuit" "FaultTests$Circuit" "kind" "[I") ∈ UW := UW_in (lw_i1 (List.mem_of_getElem? (i := 99) rfl)) rfl
theorem mw_1_101 : (Cond.laysFinal "FaultTests$Circuit" "FaultTests$Circuit" "operandCount" "[I") ∈ UW := UW_in (lw_i1 (List.mem_of_getElem? (i := 101) rfl)) rfl
theorem mw_1_103 : (Cond.laysFinal "FaultTests$Circuit" "FaultTests$Circuit" "operand" "[I") ∈ UW := UW_in (lw_i1 (List.mem_of_getElem? (i := 103) rfl)) rfl
theorem mw_1_105 : (Cond.laysFinal "FaultTests$Circuit" "FaultTests$Circuit" "level" "[I") ∈ UW := UW_in (lw_i1 (List.mem_of_getElem? (i := 105) rfl)) rfl
theorem mw_1_107 : (Cond.laysFinal "FaultTests$Circuit" "FaultTests$Circuit" "uses" "[I") ∈ UW := UW_in (lw_i1 (List.mem_of_getElem? (i := 107) rfl)) rfl
theorem mw_1_109 : (Cond.laysFinal "FaultTests$Circuit" "FaultTests$Circuit" "below" "[I") ∈ UW := UW_in (lw_i1 (List.mem_of_getElem? (i := 109) rfl)) rfl
theorem mw_1_111 : (Cond.laysFinal "FaultTests$Circuit" "FaultTests$Circuit" "outputWire" "[I") ∈ UW := UW_in (lw_i1 (List.mem_of_getElem? (i := 111) rfl)) rfl
theorem mw_1_113 : (Cond.laysFinal "FaultTests$Circuit" "FaultTests$Circuit" "bridgeFirst" "[I") ∈ UW := UW_in (lw_i1 (List.mem_of_getElem? (i := 113) rfl)) rfl
theorem mw_1_115 : (Cond.laysFinal "FaultTests$Circuit" "FaultTests$Circuit" "bridgeSecond" "[I") ∈ UW := UW_in (lw_i1 (List.mem_of_getElem? (i := 115) rfl)) rfl
theorem mw_1_117 : (Cond.laysFinal "FaultTests$Circuit" "FaultTests$Circuit" "bridgeKind" "[I") ∈ UW := UW_in (lw_i1 (List.mem_of_getElem? (i := 117) rfl)) rfl
theorem mw_1_119 : (Cond.superclass "FaultTests$Circuit" "java/lang/Object") ∈ UW := UW_in (lw_i1 (List.mem_of_getElem? (i := 119) rfl)) rfl
theorem mw_1_120 : (Cond.arrayClass .int) ∈ UW := UW_in (lw_i1 (List.mem_of_getElem? (i := 120) rfl)) rfl
theorem mw_1_121 : (Cond.classLink "FaultTests$Setup" 16 "FaultTests$TestList") ∈ UW := UW_in (lw_i1 (List.mem_of_getElem? (i := 121) rfl)) rfl
theorem mw_1_122 : (Cond.instantiable "FaultTests$TestList" 5) ∈ UW := UW_in (lw_i1 (List.mem_of_getElem? (i := 122) rfl)) rfl
theorem mw_1_124 : (Cond.instanceMethod ⟨"FaultTests$TestList", "<init>", "()V"⟩) ∈ UW := UW_in (lw_i1 (List.mem_of_getElem? (i := 124) rfl)) rfl
theorem mw_1_125 : (Cond.code ⟨"FaultTests$TestList", "<init>", "()V"⟩ prog_8_method_1_code 1 none) ∈ UW := UW_in (lw_i1 (List.mem_of_getElem? (i := 125) rfl)) rfl
theorem mw_1_126 : (Cond.methodLink "FaultTests$TestList" 3 ⟨"java/lang/Object", "<init>", "()V"⟩) ∈ UW := UW_in (lw_i1 (List.mem_of_getElem? (i := 126) rfl)) rfl
theorem mw_1_127 : (Cond.fieldLink "FaultTests$TestList" 9 "FaultTests$TestList" "count" "I") ∈ UW := UW_in (lw_i1 (List.mem_of_getElem? (i := 127) rfl)) rfl
theorem mw_1_128 : (Cond.fieldLink "FaultTests$Lanes" 33 "FaultTests$TestList" "count" "I") ∈ UW := UW_in (lw_i1 (List.mem_of_getElem? (i := 128) rfl)) rfl
theorem mw_1_129 : (Cond.fieldLink "FaultTests" 126 "FaultTests$TestList" "count" "I") ∈ UW := UW_in (lw_i1 (List.mem_of_getElem? (i := 129) rfl)) rfl
theorem mw_1_130 : (Cond.fieldLink "FaultTests$TestList" 15 "FaultTests$TestList" "ones" "[I") ∈ UW := UW_in (lw_i1 (List.mem_of_getElem? (i := 130) rfl)) rfl
theorem mw_1_131 : (Cond.fieldLink "FaultTests$Lanes" 39 "FaultTests$TestList" "ones" "[I") ∈ UW := UW_in (lw_i1 (List.mem_of_getElem? (i := 131) rfl)) rfl
theorem mw_1_132 : (Cond.fieldLink "FaultTests$TestList" 19 "FaultTests$TestList" "unknowns" "[I") ∈ UW := UW_in (lw_i1 (List.mem_of_getElem? (i := 132) rfl)) rfl
theorem mw_1_133 : (Cond.fieldLink "FaultTests$Lanes" 43 "FaultTests$TestList" "unknowns" "[I") ∈ UW := UW_in (lw_i1 (List.mem_of_getElem? (i := 133) rfl)) rfl
theorem mw_1_134 : (Cond.fieldLink "FaultTests$TestList" 22 "FaultTests$TestList" "seenZero" "[I") ∈ UW := UW_in (lw_i1 (List.mem_of_getElem? (i := 134) rfl)) rfl
theorem mw_1_135 : (Cond.fieldLink "FaultTests" 344 "FaultTests$TestList" "seenZero" "[I") ∈ UW := UW_in (lw_i1 (List.mem_of_getElem? (i := 135) rfl)) rfl
theorem mw_1_136 : (Cond.fieldLink "FaultTests$TestList" 25 "FaultTests$TestList" "seenOne" "[I") ∈ UW := UW_in (lw_i1 (List.mem_of_getElem? (i := 136) rfl)) rfl
theorem mw_1_137 : (Cond.fieldLink "FaultTests" 350 "FaultTests$TestList" "seenOne" "[I") ∈ UW := UW_in (lw_i1 (List.mem_of_getElem? (i := 137) rfl)) rfl
theorem mw_1_138 : (Cond.lays "FaultTests$TestList" "FaultTests$TestList" "count" "I") ∈ UW := UW_in (lw_i1 (List.mem_of_getElem? (i := 138) rfl)) rfl
theorem mw_1_140 : (Cond.laysFinal "FaultTests$TestList" "FaultTests$TestList" "ones" "[I") ∈ UW := UW_in (lw_i1 (List.mem_of_getElem? (i := 140) rfl)) rfl
theorem mw_1_142 : (Cond.laysFinal "FaultTests$TestList" "FaultTests$TestList" "unknowns" "[I") ∈ UW := UW_in (lw_i1 (List.mem_of_getElem? (i := 142) rfl)) rfl
theorem mw_1_144 : (Cond.laysFinal "FaultTests$TestList" "FaultTests$TestList" "seenZero" "[I") ∈ UW := UW_in (lw_i1 (List.mem_of_getElem? (i := 144) rfl)) rfl
theorem mw_1_146 : (Cond.laysFinal "FaultTests$TestList" "FaultTests$TestList" "seenOne" "[I") ∈ UW := UW_in (lw_i1 (List.mem_of_getElem? (i := 146) rfl)) rfl
theorem mw_1_148 : (Cond.superclass "FaultTests$TestList" "java/lang/Object") ∈ UW := UW_in (lw_i1 (List.mem_of_getElem? (i := 148) rfl)) rfl
theorem mw_1_149 : (Cond.fieldLink "FaultTests$Setup" 10 "FaultTests$Setup" "circuit" "LFaultTests$Circuit;") ∈ UW := UW_in (lw_i1 (List.mem_of_getElem? (i := 149) rfl)) rfl
theorem mw_1_150 : (Cond.fieldLink "FaultTests" 97 "FaultTests$Setup" "circuit" "LFaultTests$Circuit;") ∈ UW := UW_in (lw_i1 (List.mem_of_getElem? (i := 150) rfl)) rfl
theorem mw_1_151 : (Cond.fieldLink "FaultTests$SetupReader" 100 "FaultTests$Setup" "circuit" "LFaultTests$Circuit;") ∈ UW := UW_in (lw_i1 (List.mem_of_getElem? (i := 151) rfl)) rfl
theorem mw_1_152 : (Cond.fieldLink "FaultTests$Setup" 19 "FaultTests$Setup" "tests" "LFaultTests$TestList;") ∈ UW := UW_in (lw_i1 (List.mem_of_getElem? (i := 152) rfl)) rfl
theorem mw_1_153 : (Cond.fieldLink "FaultTests" 122 "FaultTests$Setup" "tests" "LFaultTests$TestList;") ∈ UW := UW_in (lw_i1 (List.mem_of_getElem? (i := 153) rfl)) rfl
theorem mw_1_154 : (Cond.fieldLink "FaultTests$SetupReader" 154 "FaultTests$Setup" "tests" "LFaultTests$TestList;") ∈ UW := UW_in (lw_i1 (List.mem_of_getElem? (i := 154) rfl)) rfl
theorem mw_1_155 : (Cond.laysFinal "FaultTests$Setup" "FaultTests$Setup" "circuit" "LFaultTests$Circuit;") ∈ UW := UW_in (lw_i1 (List.mem_of_getElem? (i := 155) rfl)) rfl
theorem mw_1_157 : (Cond.laysFinal "FaultTests$Setup" "FaultTests$Setup" "tests" "LFaultTests$TestList;") ∈ UW := UW_in (lw_i1 (List.mem_of_getElem? (i := 157) rfl)) rfl
theorem mw_1_159 : (Cond.superclass "FaultTests$Setup" "java/lang/Object") ∈ UW := UW_in (lw_i1 (List.mem_of_getElem? (i := 159) rfl)) rfl
theorem mw_1_160 : (Cond.fieldLink "FaultTests$SetupReader" 12 "FaultTests$SetupReader" "setup" "LFaultTests$Setup;") ∈ UW := UW_in (lw_i1 (List.mem_of_getElem? (i := 160) rfl)) rfl
theorem mw_1_161 : (Cond.fieldLink "FaultTests" 88 "FaultTests$SetupReader" "setup" "LFaultTests$Setup;") ∈ UW := UW_in (lw_i1 (List.mem_of_getElem? (i := 161) rfl)) rfl
theorem mw_1_162 : (Cond.fieldLink "FaultTests$SetupReader" 18 "FaultTests$SetupReader" "textLength" "I") ∈ UW := UW_in (lw_i1 (List.mem_of_getElem? (i := 162) rfl)) rfl
theorem mw_1_163 : (Cond.fieldLink "FaultTests" 66 "FaultTests$SetupReader" "textLength" "I") ∈ UW := UW_in (lw_i1 (List.mem_of_getElem? (i := 163) rfl)) rfl
theorem mw_1_164 : (Cond.fieldLink "FaultTests$SetupReader" 22 "FaultTests$SetupReader" "errorAt" "I") ∈ UW := UW_in (lw_i1 (List.mem_of_getElem? (i := 164) rfl)) rfl
theorem mw_1_165 : (Cond.fieldLink "FaultTests" 106 "FaultTests$SetupReader" "errorAt" "I") ∈ UW := UW_in (lw_i1 (List.mem_of_getElem? (i := 165) rfl)) rfl
theorem mw_1_166 : (Cond.fieldLink "FaultTests$SetupReader" 25 "FaultTests$SetupReader" "text" "[I") ∈ UW := UW_in (lw_i1 (List.mem_of_getElem? (i := 166) rfl)) rfl
theorem mw_1_167 : (Cond.fieldLink "FaultTests$SetupReader" 29 "FaultTests$SetupReader" "error" "I") ∈ UW := UW_in (lw_i1 (List.mem_of_getElem? (i := 167) rfl)) rfl
theorem mw_1_168 : (Cond.fieldLink "FaultTests$SetupReader" 32 "FaultTests$SetupReader" "end" "I") ∈ UW := UW_in (lw_i1 (List.mem_of_getElem? (i := 168) rfl)) rfl
theorem mw_1_169 : (Cond.fieldLink "FaultTests$SetupReader" 35 "FaultTests$SetupReader" "position" "I") ∈ UW := UW_in (lw_i1 (List.mem_of_getElem? (i := 169) rfl)) rfl
theorem mw_1_170 : (Cond.fieldLink "FaultTests$SetupReader" 38 "FaultTests$SetupReader" "token" "I") ∈ UW := UW_in (lw_i1 (List.mem_of_getElem? (i := 170) rfl)) rfl
theorem mw_1_171 : (Cond.fieldLink "FaultTests$SetupReader" 41 "FaultTests$SetupReader" "tokenStart" "I") ∈ UW := UW_in (lw_i1 (List.mem_of_getElem? (i := 171) rfl)) rfl
theorem mw_1_172 : (Cond.fieldLink "FaultTests$SetupReader" 44 "FaultTests$SetupReader" "number" "I") ∈ UW := UW_in (lw_i1 (List.mem_of_getElem? (i := 172) rfl)) rfl
theorem mw_1_173 : (Cond.laysFinal "FaultTests$SetupReader" "FaultTests$SetupReader" "setup" "LFaultTests$Setup;") ∈ UW := UW_in (lw_i1 (List.mem_of_getElem? (i := 173) rfl)) rfl
theorem mw_1_175 : (Cond.lays "FaultTests$SetupReader" "FaultTests$SetupReader" "textLength" "I") ∈ UW := UW_in (lw_i1 (List.mem_of_getElem? (i := 175) rfl)) rfl
theorem mw_1_177 : (Cond.lays "FaultTests$SetupReader" "FaultTests$SetupReader" "errorAt" "I") ∈ UW := UW_in (lw_i1 (List.mem_of_getElem? (i := 177) rfl)) rfl
theorem mw_1_179 : (Cond.laysFinal "FaultTests$SetupReader" "FaultTests$SetupReader" "text" "[I") ∈ UW := UW_in (lw_i1 (List.mem_of_getElem? (i := 179) rfl)) rfl
theorem mw_1_181 : (Cond.lays "FaultTests$SetupReader" "FaultTests$SetupReader" "error" "I") ∈ UW := UW_in (lw_i1 (List.mem_of_getElem? (i := 181) rfl)) rfl
theorem mw_1_183 : (Cond.lays "FaultTests$SetupReader" "FaultTests$SetupReader" "end" "I") ∈ UW := UW_in (lw_i1 (List.mem_of_getElem? (i := 183) rfl)) rfl
theorem mw_1_185 : (Cond.lays "FaultTests$SetupReader" "FaultTests$SetupReader" "position" "I") ∈ UW := UW_in (lw_i1 (List.mem_of_getElem? (i := 185) rfl)) rfl
theorem mw_1_187 : (Cond.lays "FaultTests$SetupReader" "FaultTests$SetupReader" "token" "I") ∈ UW := UW_in (lw_i1 (List.mem_of_getElem? (i := 187) rfl)) rfl
theorem mw_1_189 : (Cond.lays "FaultTests$SetupReader" "FaultTests$SetupReader" "tokenStart" "I") ∈ UW := UW_in (lw_i1 (List.mem_of_getElem? (i := 189) rfl)) rfl
theorem mw_1_191 : (Cond.lays "FaultTests$SetupReader" "FaultTests$SetupReader" "number" "I") ∈ UW := UW_in (lw_i1 (List.mem_of_getElem? (i := 191) rfl)) rfl
theorem mw_1_193 : (Cond.superclass "FaultTests$SetupReader" "java/lang/Object") ∈ UW := UW_in (lw_i1 (List.mem_of_getElem? (i := 193) rfl)) rfl
theorem mw_1_194 : (Cond.classLink "FaultTests" 16 "FaultTests$Setup") ∈ UW := UW_in (lw_i1 (List.mem_of_getElem? (i := 194) rfl)) rfl
theorem mw_1_196 : (Cond.classLink "FaultTests" 23 "FaultTests$History") ∈ UW := UW_in (lw_i1 (List.mem_of_getElem? (i := 196) rfl)) rfl
theorem mw_1_197 : (Cond.instantiable "FaultTests$History" 3) ∈ UW := UW_in (lw_i1 (List.mem_of_getElem? (i := 197) rfl)) rfl
theorem mw_1_198 : (Cond.methodLink "FaultTests" 25 ⟨"FaultTests$History", "<init>", "()V"⟩) ∈ UW := UW_in (lw_i1 (List.mem_of_getElem? (i := 198) rfl)) rfl
theorem mw_1_199 : (Cond.instanceMethod ⟨"FaultTests$History", "<init>", "()V"⟩) ∈ UW := UW_in (lw_i1 (List.mem_of_getElem? (i := 199) rfl)) rfl
theorem mw_1_200 : (Cond.code ⟨"FaultTests$History", "<init>", "()V"⟩ prog_3_method_1_code 2 none) ∈ UW := UW_in (lw_i1 (List.mem_of_getElem? (i := 200) rfl)) rfl
theorem mw_1_201 : (Cond.methodLink "FaultTests$History" 3 ⟨"java/lang/Object", "<init>", "()V"⟩) ∈ UW := UW_in (lw_i1 (List.mem_of_getElem? (i := 201) rfl)) rfl
theorem mw_1_202 : (Cond.classLink "FaultTests$History" 18 "FaultTests$Setup") ∈ UW := UW_in (lw_i1 (List.mem_of_getElem? (i := 202) rfl)) rfl
theorem mw_1_205 : (Cond.fieldLink "FaultTests$History" 9 "FaultTests$History" "count" "I") ∈ UW := UW_in (lw_i1 (List.mem_of_getElem? (i := 205) rfl)) rfl
theorem mw_1_206 : (Cond.fieldLink "FaultTests" 287 "FaultTests$History" "count" "I") ∈ UW := UW_in (lw_i1 (List.mem_of_getElem? (i := 206) rfl)) rfl
theorem mw_1_207 : (Cond.fieldLink "FaultTests$History" 15 "FaultTests$History" "next" "I") ∈ UW := UW_in (lw_i1 (List.mem_of_getElem? (i := 207) rfl)) rfl
theorem mw_1_208 : (Cond.fieldLink "FaultTests$History" 20 "FaultTests$History" "ring" "[LFaultTests$Setup;") ∈ UW := UW_in (lw_i1 (List.mem_of_getElem? (i := 208) rfl)) rfl
theorem mw_1_209 : (Cond.lays "FaultTests$History" "FaultTests$History" "count" "I") ∈ UW := UW_in (lw_i1 (List.mem_of_getElem? (i := 209) rfl)) rfl
theorem mw_1_211 : (Cond.lays "FaultTests$History" "FaultTests$History" "next" "I") ∈ UW := UW_in (lw_i1 (List.mem_of_getElem? (i := 211) rfl)) rfl
theorem mw_1_213 : (Cond.laysFinal "FaultTests$History" "FaultTests$History" "ring" "[LFaultTests$Setup;") ∈ UW := UW_in (lw_i1 (List.mem_of_getElem? (i := 213) rfl)) rfl
theorem mw_1_215 : (Cond.superclass "FaultTests$History" "java/lang/Object") ∈ UW := UW_in (lw_i1 (List.mem_of_getElem? (i := 215) rfl)) rfl
theorem mw_1_216 : (Cond.classLink "FaultTests" 30 "FaultTests$Rows") ∈ UW := UW_in (lw_i1 (List.mem_of_getElem? (i := 216) rfl)) rfl
theorem mw_1_217 : (Cond.instantiable "FaultTests$Rows" 5) ∈ UW := UW_in (lw_i1 (List.mem_of_getElem? (i := 217) rfl)) rfl
theorem mw_1_218 : (Cond.methodLink "FaultTests" 32 ⟨"FaultTests$Rows", "<init>", "(I)V"⟩) ∈ UW := UW_in (lw_i1 (List.mem_of_getElem? (i := 218) rfl)) rfl
theorem mw_1_219 : (Cond.instanceMethod ⟨"FaultTests$Rows", "<init>", "(I)V"⟩) ∈ UW := UW_in (lw_i1 (List.mem_of_getElem? (i := 219) rfl)) rfl
theorem mw_1_220 : (Cond.code ⟨"FaultTests$Rows", "<init>", "(I)V"⟩ prog_5_method_1_code 2 none) ∈ UW := UW_in (lw_i1 (List.mem_of_getElem? (i := 220) rfl)) rfl
theorem mw_1_221 : (Cond.methodLink "FaultTests$Rows" 3 ⟨"java/lang/Object", "<init>", "()V"⟩) ∈ UW := UW_in (lw_i1 (List.mem_of_getElem? (i := 221) rfl)) rfl
theorem mw_1_222 : (Cond.classLink "FaultTests$Rows" 9 "FaultTests$Lanes") ∈ UW := UW_in (lw_i1 (List.mem_of_getElem? (i := 222) rfl)) rfl
theorem mw_1_223 : (Cond.instantiable "FaultTests$Lanes" 2) ∈ UW := UW_in (lw_i1 (List.mem_of_getElem? (i := 223) rfl)) rfl
theorem mw_1_225 : (Cond.instanceMethod ⟨"FaultTests$Lanes", "<init>", "()V"⟩) ∈ UW := UW_in (lw_i1 (List.mem_of_getElem? (i := 225) rfl)) rfl
theorem mw_1_226 : (Cond.code ⟨"FaultTests$Lanes", "<init>", "()V"⟩ prog_4_method_1_code 1 none) ∈ UW := UW_in (lw_i1 (List.mem_of_getElem? (i := 226) rfl)) rfl
theorem mw_1_227 : (Cond.methodLink "FaultTests$Lanes" 3 ⟨"java/lang/Object", "<init>", "()V"⟩) ∈ UW := UW_in (lw_i1 (List.mem_of_getElem? (i := 227) rfl)) rfl
theorem mw_1_228 : (Cond.fieldLink "FaultTests$Lanes" 9 "FaultTests$Lanes" "zero" "[J") ∈ UW := UW_in (lw_i1 (List.mem_of_getElem? (i := 228) rfl)) rfl
theorem mw_1_229 : (Cond.fieldLink "FaultTests$Rows" 57 "FaultTests$Lanes" "zero" "[J") ∈ UW := UW_in (lw_i1 (List.mem_of_getElem? (i := 229) rfl)) rfl
theorem mw_1_230 : (Cond.fieldLink "FaultTests$Lanes" 15 "FaultTests$Lanes" "one" "[J") ∈ UW := UW_in (lw_i1 (List.mem_of_getElem? (i := 230) rfl)) rfl
theorem mw_1_231 : (Cond.fieldLink "FaultTests$Rows" 62 "FaultTests$Lanes" "one" "[J") ∈ UW := UW_in (lw_i1 (List.mem_of_getElem? (i := 231) rfl)) rfl
theorem mw_1_232 : (Cond.laysFinal "FaultTests$Lanes" "FaultTests$Lanes" "zero" "[J") ∈ UW := UW_in (lw_i1 (List.mem_of_getElem? (i := 232) rfl)) rfl
theorem mw_1_234 : (Cond.laysFinal "FaultTests$Lanes" "FaultTests$Lanes" "one" "[J") ∈ UW := UW_in (lw_i1 (List.mem_of_getElem? (i := 234) rfl)) rfl
theorem mw_1_236 : (Cond.superclass "FaultTests$Lanes" "java/lang/Object") ∈ UW := UW_in (lw_i1 (List.mem_of_getElem? (i := 236) rfl)) rfl
theorem mw_1_237 : (Cond.arrayClass .long) ∈ UW := UW_in (lw_i1 (List.mem_of_getElem? (i := 237) rfl)) rfl
theorem mw_1_238 : (Cond.fieldLink "FaultTests$Rows" 12 "FaultTests$Rows" "good" "LFaultTests$Lanes;") ∈ UW := UW_in (lw_i1 (List.mem_of_getElem? (i := 238) rfl)) rfl
theorem mw_1_239 : (Cond.fieldLink "FaultTests" 180 "FaultTests$Rows" "good" "LFaultTests$Lanes;") ∈ UW := UW_in (lw_i1 (List.mem_of_getElem? (i := 239) rfl)) rfl
theorem mw_2_0 : (Cond.fieldLink "FaultTests$Rows" 18 "FaultTests$Rows" "bad" "LFaultTests$Lanes;") ∈ UW := UW_in (lw_i2 (List.mem_of_getElem? (i := 0) rfl)) rfl
theorem mw_2_1 : (Cond.fieldLink "FaultTests" 193 "FaultTests$Rows" "bad" "LFaultTests$Lanes;") ∈ UW := UW_in (lw_i2 (List.mem_of_getElem? (i := 1) rfl)) rfl
theorem mw_2_2 : (Cond.fieldLink "FaultTests$Rows" 25 "FaultTests$Rows" "zero" "[J") ∈ UW := UW_in (lw_i2 (List.mem_of_getElem? (i := 2) rfl)) rfl
theorem mw_2_3 : (Cond.fieldLink "FaultTests" 353 "FaultTests$Rows" "zero" "[J") ∈ UW := UW_in (lw_i2 (List.mem_of_getElem? (i := 3) rfl)) rfl
theorem mw_2_4 : (Cond.fieldLink "FaultTests$Rows" 29 "FaultTests$Rows" "one" "[J") ∈ UW := UW_in (lw_i2 (List.mem_of_getElem? (i := 4) rfl)) rfl
theorem mw_2_5 : (Cond.fieldLink "FaultTests" 347 "FaultTests$Rows" "one" "[J") ∈ UW := UW_in (lw_i2 (List.mem_of_getElem? (i := 5) rfl)) rfl
theorem mw_2_6 : (Cond.fieldLink "FaultTests$Rows" 21 "FaultTests$Rows" "words" "I") ∈ UW := UW_in (lw_i2 (List.mem_of_getElem? (i := 6) rfl)) rfl
theorem mw_2_7 : (Cond.laysFinal "FaultTests$Rows" "FaultTests$Rows" "good" "LFaultTests$Lanes;") ∈ UW := UW_in (lw_i2 (List.mem_of_getElem? (i := 7) rfl)) rfl
theorem mw_2_9 : (Cond.laysFinal "FaultTests$Rows" "FaultTests$Rows" "bad" "LFaultTests$Lanes;") ∈ UW := UW_in (lw_i2 (List.mem_of_getElem? (i := 9) rfl)) rfl
theorem mw_2_11 : (Cond.laysFinal "FaultTests$Rows" "FaultTests$Rows" "zero" "[J") ∈ UW := UW_in (lw_i2 (List.mem_of_getElem? (i := 11) rfl)) rfl
theorem mw_2_13 : (Cond.laysFinal "FaultTests$Rows" "FaultTests$Rows" "one" "[J") ∈ UW := UW_in (lw_i2 (List.mem_of_getElem? (i := 13) rfl)) rfl
theorem mw_2_15 : (Cond.laysFinal "FaultTests$Rows" "FaultTests$Rows" "words" "I") ∈ UW := UW_in (lw_i2 (List.mem_of_getElem? (i := 15) rfl)) rfl
theorem mw_2_17 : (Cond.superclass "FaultTests$Rows" "java/lang/Object") ∈ UW := UW_in (lw_i2 (List.mem_of_getElem? (i := 17) rfl)) rfl
theorem mw_2_18 : (Cond.fieldLink "FaultTests" 12 "FaultTests" "reader" "LFaultTests$SetupReader;") ∈ UW := UW_in (lw_i2 (List.mem_of_getElem? (i := 18) rfl)) rfl
theorem mw_2_19 : (Cond.fieldLink "FaultTests" 19 "FaultTests" "now" "LFaultTests$Setup;") ∈ UW := UW_in (lw_i2 (List.mem_of_getElem? (i := 19) rfl)) rfl
theorem mw_2_20 : (Cond.fieldLink "FaultTests" 26 "FaultTests" "history" "LFaultTests$History;") ∈ UW := UW_in (lw_i2 (List.mem_of_getElem? (i := 20) rfl)) rfl
theorem mw_2_21 : (Cond.fieldLink "FaultTests" 35 "FaultTests" "fullRows" "LFaultTests$Rows;") ∈ UW := UW_in (lw_i2 (List.mem_of_getElem? (i := 21) rfl)) rfl
theorem mw_2_22 : (Cond.fieldLink "FaultTests" 39 "FaultTests" "testRows" "LFaultTests$Rows;") ∈ UW := UW_in (lw_i2 (List.mem_of_getElem? (i := 22) rfl)) rfl
theorem mw_2_23 : (Cond.fieldLink "FaultTests" 42 "FaultTests" "fullRowsFresh" "Z") ∈ UW := UW_in (lw_i2 (List.mem_of_getElem? (i := 23) rfl)) rfl
theorem mw_2_24 : (Cond.fieldLink "FaultTests" 46 "FaultTests" "testRowsFresh" "Z") ∈ UW := UW_in (lw_i2 (List.mem_of_getElem? (i := 24) rfl)) rfl
theorem mw_2_25 : (Cond.fieldLink "FaultTests" 49 "FaultTests" "fitting" "[I") ∈ UW := UW_in (lw_i2 (List.mem_of_getElem? (i := 25) rfl)) rfl
theorem mw_2_26 : (Cond.fieldLink "FaultTests" 53 "FaultTests" "partSizes" "[I") ∈ UW := UW_in (lw_i2 (List.mem_of_getElem? (i := 26) rfl)) rfl
theorem mw_2_27 : (Cond.fieldLink "FaultTests" 56 "FaultTests" "foundBy" "[J") ∈ UW := UW_in (lw_i2 (List.mem_of_getElem? (i := 27) rfl)) rfl
theorem mw_2_28 : (Cond.fieldLink "FaultTests" 60 "FaultTests" "foundUpTo" "[J") ∈ UW := UW_in (lw_i2 (List.mem_of_getElem? (i := 28) rfl)) rfl
theorem mw_2_29 : (Cond.fieldLink "FaultTests" 63 "FaultTests" "foundByFull" "[J") ∈ UW := UW_in (lw_i2 (List.mem_of_getElem? (i := 29) rfl)) rfl
theorem mw_2_30 : (Cond.laysFinal "FaultTests" "FaultTests" "reader" "LFaultTests$SetupReader;") ∈ UW := UW_in (lw_i2 (List.mem_of_getElem? (i := 30) rfl)) rfl
theorem mw_2_32 : (Cond.laysFinal "FaultTests" "FaultTests" "now" "LFaultTests$Setup;") ∈ UW := UW_in (lw_i2 (List.mem_of_getElem? (i := 32) rfl)) rfl
theorem mw_2_34 : (Cond.laysFinal "FaultTests" "FaultTests" "history" "LFaultTests$History;") ∈ UW := UW_in (lw_i2 (List.mem_of_getElem? (i := 34) rfl)) rfl
theorem mw_2_36 : (Cond.laysFinal "FaultTests" "FaultTests" "fullRows" "LFaultTests$Rows;") ∈ UW := UW_in (lw_i2 (List.mem_of_getElem? (i := 36) rfl)) rfl
theorem mw_2_38 : (Cond.laysFinal "FaultTests" "FaultTests" "testRows" "LFaultTests$Rows;") ∈ UW := UW_in (lw_i2 (List.mem_of_getElem? (i := 38) rfl)) rfl
theorem mw_2_40 : (Cond.lays "FaultTests" "FaultTests" "fullRowsFresh" "Z") ∈ UW := UW_in (lw_i2 (List.mem_of_getElem? (i := 40) rfl)) rfl
theorem mw_2_42 : (Cond.lays "FaultTests" "FaultTests" "testRowsFresh" "Z") ∈ UW := UW_in (lw_i2 (List.mem_of_getElem? (i := 42) rfl)) rfl
theorem mw_2_44 : (Cond.laysFinal "FaultTests" "FaultTests" "fitting" "[I") ∈ UW := UW_in (lw_i2 (List.mem_of_getElem? (i := 44) rfl)) rfl
theorem mw_2_46 : (Cond.laysFinal "FaultTests" "FaultTests" "partSizes" "[I") ∈ UW := UW_in (lw_i2 (List.mem_of_getElem? (i := 46) rfl)) rfl
theorem mw_2_48 : (Cond.laysFinal "FaultTests" "FaultTests" "foundBy" "[J") ∈ UW := UW_in (lw_i2 (List.mem_of_getElem? (i := 48) rfl)) rfl
theorem mw_2_50 : (Cond.laysFinal "FaultTests" "FaultTests" "foundUpTo" "[J") ∈ UW := UW_in (lw_i2 (List.mem_of_getElem? (i := 50) rfl)) rfl
theorem mw_2_52 : (Cond.laysFinal "FaultTests" "FaultTests" "foundByFull" "[J") ∈ UW := UW_in (lw_i2 (List.mem_of_getElem? (i := 52) rfl)) rfl
theorem mw_2_54 : (Cond.superclass "FaultTests" "java/lang/Object") ∈ UW := UW_in (lw_i2 (List.mem_of_getElem? (i := 54) rfl)) rfl
theorem mw_2_55 : (Cond.methodLink "FaultTestsLaw" 76 ⟨"FaultTests", "append", "(IIIII)I"⟩) ∈ UW := UW_in (lw_i2 (List.mem_of_getElem? (i := 55) rfl)) rfl
theorem mw_2_56 : (Cond.instanceMethod ⟨"FaultTests", "append", "(IIIII)I"⟩) ∈ UW := UW_in (lw_i2 (List.mem_of_getElem? (i := 56) rfl)) rfl
theorem mw_2_57 : (Cond.selects "FaultTests" ⟨"FaultTests", "append", "(IIIII)I"⟩ ⟨"FaultTests", "append", "(IIIII)I"⟩) ∈ UW := UW_in (lw_i2 (List.mem_of_getElem? (i := 57) rfl)) rfl
theorem mw_2_58 : (Cond.code ⟨"FaultTests", "append", "(IIIII)I"⟩ prog_1_method_2_code 6 (some .int)) ∈ UW := UW_in (lw_i2 (List.mem_of_getElem? (i := 58) rfl)) rfl
theorem mw_2_59 : (Cond.methodLink "FaultTests" 70 ⟨"FaultTests$SetupReader", "putBytes", "(I)V"⟩) ∈ UW := UW_in (lw_i2 (List.mem_of_getElem? (i := 59) rfl)) rfl
theorem mw_2_60 : (Cond.instanceMethod ⟨"FaultTests$SetupReader", "putBytes", "(I)V"⟩) ∈ UW := UW_in (lw_i2 (List.mem_of_getElem? (i := 60) rfl)) rfl
theorem mw_2_61 : (Cond.selects "FaultTests$SetupReader" ⟨"FaultTests$SetupReader", "putBytes", "(I)V"⟩ ⟨"FaultTests$SetupReader", "putBytes", "(I)V"⟩) ∈ UW := UW_in (lw_i2 (List.mem_of_getElem? (i := 61) rfl)) rfl
theorem mw_2_62 : (Cond.code ⟨"FaultTests$SetupReader", "putBytes", "(I)V"⟩ prog_7_method_2_code 3 none) ∈ UW := UW_in (lw_i2 (List.mem_of_getElem? (i := 62) rfl)) rfl
theorem mw_2_63 : (Cond.methodLink "FaultTestsLaw" 91 ⟨"FaultTests", "errorOffset", "()I"⟩) ∈ UW := UW_in (lw_i2 (List.mem_of_getElem? (i := 63) rfl)) rfl
theorem mw_2_64 : (Cond.instanceMethod ⟨"FaultTests", "errorOffset", "()I"⟩) ∈ UW := UW_in (lw_i2 (List.mem_of_getElem? (i := 64) rfl)) rfl
theorem mw_2_65 : (Cond.selects "FaultTests" ⟨"FaultTests", "errorOffset", "()I"⟩ ⟨"FaultTests", "errorOffset", "()I"⟩) ∈ UW := UW_in (lw_i2 (List.mem_of_getElem? (i := 65) rfl)) rfl
theorem mw_2_66 : (Cond.code ⟨"FaultTests", "errorOffset", "()I"⟩ prog_1_method_4_code 1 (some .int)) ∈ UW := UW_in (lw_i2 (List.mem_of_getElem? (i := 66) rfl)) rfl
theorem mw_2_67 : (Cond.methodLink "FaultTestsLaw" 127 ⟨"FaultTests", "hidden", "()I"⟩) ∈ UW := UW_in (lw_i2 (List.mem_of_getElem? (i := 67) rfl)) rfl
theorem mw_2_68 : (Cond.instanceMethod ⟨"FaultTests", "hidden", "()I"⟩) ∈ UW := UW_in (lw_i2 (List.mem_of_getElem? (i := 68) rfl)) rfl
theorem mw_2_69 : (Cond.selects "FaultTests" ⟨"FaultTests", "hidden", "()I"⟩ ⟨"FaultTests", "hidden", "()I"⟩) ∈ UW := UW_in (lw_i2 (List.mem_of_getElem? (i := 69) rfl)) rfl
theorem mw_2_70 : (Cond.code ⟨"FaultTests", "hidden", "()I"⟩ prog_1_method_15_code 4 (some .int)) ∈ UW := UW_in (lw_i2 (List.mem_of_getElem? (i := 70) rfl)) rfl
theorem mw_2_71 : (Cond.methodLink "FaultTests" 212 ⟨"FaultTests", "refreshFullRows", "()V"⟩) ∈ UW := UW_in (lw_i2 (List.mem_of_getElem? (i := 71) rfl)) rfl
theorem mw_2_73 : (Cond.instanceMethod ⟨"FaultTests", "refreshFullRows", "()V"⟩) ∈ UW := UW_in (lw_i2 (List.mem_of_getElem? (i := 73) rfl)) rfl
theorem mw_2_74 : (Cond.code ⟨"FaultTests", "refreshFullRows", "()V"⟩ prog_1_method_39_code 3 none) ∈ UW := UW_in (lw_i2 (List.mem_of_getElem? (i := 74) rfl)) rfl
theorem mw_2_75 : (Cond.methodLink "FaultTests" 314 ⟨"FaultTests$Circuit", "fullWords", "()I"⟩) ∈ UW := UW_in (lw_i2 (List.mem_of_getElem? (i := 75) rfl)) rfl
theorem mw_2_76 : (Cond.instanceMethod ⟨"FaultTests$Circuit", "fullWords", "()I"⟩) ∈ UW := UW_in (lw_i2 (List.mem_of_getElem? (i := 76) rfl)) rfl
theorem mw_2_77 : (Cond.selects "FaultTests$Circuit" ⟨"FaultTests$Circuit", "fullWords", "()I"⟩ ⟨"FaultTests$Circuit", "fullWords", "()I"⟩) ∈ UW := UW_in (lw_i2 (List.mem_of_getElem? (i := 77) rfl)) rfl
theorem mw_2_78 : (Cond.code ⟨"FaultTests$Circuit", "fullWords", "()I"⟩ prog_2_method_16_code 1 (some .int)) ∈ UW := UW_in (lw_i2 (List.mem_of_getElem? (i := 78) rfl)) rfl
theorem mw_2_79 : (Cond.methodLink "FaultTests" 317 ⟨"FaultTests$Lanes", "setFullInputs", "(II)V"⟩) ∈ UW := UW_in (lw_i2 (List.mem_of_getElem? (i := 79) rfl)) rfl
theorem mw_2_80 : (Cond.instanceMethod ⟨"FaultTests$Lanes", "setFullInputs", "(II)V"⟩) ∈ UW := UW_in (lw_i2 (List.mem_of_getElem? (i := 80) rfl)) rfl
theorem mw_2_81 : (Cond.selects "FaultTests$Lanes" ⟨"FaultTests$Lanes", "setFullInputs", "(II)V"⟩ ⟨"FaultTests$Lanes", "setFullInputs", "(II)V"⟩) ∈ UW := UW_in (lw_i2 (List.mem_of_getElem? (i := 81) rfl)) rfl
theorem mw_2_82 : (Cond.code ⟨"FaultTests$Lanes", "setFullInputs", "(II)V"⟩ prog_4_method_3_code 4 none) ∈ UW := UW_in (lw_i2 (List.mem_of_getElem? (i := 82) rfl)) rfl
theorem mw_2_85 : (Cond.methodLink "FaultTests$Lanes" 25 ⟨"FaultTests$Circuit", "hasBit", "(II)Z"⟩) ∈ UW := UW_in (lw_i2 (List.mem_of_getElem? (i := 85) rfl)) rfl
theorem mw_2_86 : (Cond.static ⟨"FaultTests$Circuit", "hasBit", "(II)Z"⟩) ∈ UW := UW_in (lw_i2 (List.mem_of_getElem? (i := 86) rfl)) rfl
theorem mw_2_87 : (Cond.code ⟨"FaultTests$Circuit", "hasBit", "(II)Z"⟩ prog_2_method_17_code 2 (some .boolean)) ∈ UW := UW_in (lw_i2 (List.mem_of_getElem? (i := 87) rfl)) rfl
theorem mw_2_88 : (Cond.constantLong "FaultTests$Lanes" 31 (-1 : Int64)) ∈ UW := UW_in (lw_i2 (List.mem_of_getElem? (i := 88) rfl)) rfl
theorem mw_2_89 : (Cond.methodLink "FaultTests" 320 ⟨"FaultTests$Rows", "work", "(LFaultTests$Circuit;I)V"⟩) ∈ UW := UW_in (lw_i2 (List.mem_of_getElem? (i := 89) rfl)) rfl
theorem mw_2_90 : (Cond.instanceMethod ⟨"FaultTests$Rows", "work", "(LFaultTests$Circuit;I)V"⟩) ∈ UW := UW_in (lw_i2 (List.mem_of_getElem? (i := 90) rfl)) rfl
theorem mw_2_91 : (Cond.selects "FaultTests$Rows" ⟨"FaultTests$Rows", "work", "(LFaultTests$Circuit;I)V"⟩ ⟨"FaultTests$Rows", "work", "(LFaultTests$Circuit;I)V"⟩) ∈ UW := UW_in (lw_i2 (List.mem_of_getElem? (i := 91) rfl)) rfl
theorem mw_2_92 : (Cond.code ⟨"FaultTests$Rows", "work", "(LFaultTests$Circuit;I)V"⟩ prog_5_method_3_code 5 none) ∈ UW := UW_in (lw_i2 (List.mem_of_getElem? (i := 92) rfl)) rfl
theorem mw_2_93 : (Cond.methodLink "FaultTests$Rows" 32 ⟨"FaultTests$Circuit", "faultCount", "()I"⟩) ∈ UW := UW_in (lw_i2 (List.mem_of_getElem? (i := 93) rfl)) rfl
theorem mw_2_94 : (Cond.instanceMethod ⟨"FaultTests$Circuit", "faultCount", "()I"⟩) ∈ UW := UW_in (lw_i2 (List.mem_of_getElem? (i := 94) rfl)) rfl
theorem mw_2_95 : (Cond.selects "FaultTests$Circuit" ⟨"FaultTests$Circuit", "faultCount", "()I"⟩ ⟨"FaultTests$Circuit", "faultCount", "()I"⟩) ∈ UW := UW_in (lw_i2 (List.mem_of_getElem? (i := 95) rfl)) rfl
theorem mw_2_96 : (Cond.code ⟨"FaultTests$Circuit", "faultCount", "()I"⟩ prog_2_method_13_code 1 (some .int)) ∈ UW := UW_in (lw_i2 (List.mem_of_getElem? (i := 96) rfl)) rfl
theorem mw_2_97 : (Cond.methodLink "FaultTests$Rows" 38 ⟨"FaultTests$Lanes", "runGates", "(LFaultTests$Circuit;)V"⟩) ∈ UW := UW_in (lw_i2 (List.mem_of_getElem? (i := 97) rfl)) rfl
theorem mw_2_98 : (Cond.instanceMethod ⟨"FaultTests$Lanes", "runGates", "(LFaultTests$Circuit;)V"⟩) ∈ UW := UW_in (lw_i2 (List.mem_of_getElem? (i := 98) rfl)) rfl
theorem mw_2_99 : (Cond.selects "FaultTests$Lanes" ⟨"FaultTests$Lanes", "runGates", "(LFaultTests$Circuit;)V"⟩ ⟨"FaultTests$Lanes", "runGates", "(LFaultTests$Circuit;)V"⟩) ∈ UW := UW_in (lw_i2 (List.mem_of_getElem? (i := 99) rfl)) rfl
theorem mw_2_100 : (Cond.code ⟨"FaultTests$Lanes", "runGates", "(LFaultTests$Circuit;)V"⟩ prog_4_method_5_code 3 none) ∈ UW := UW_in (lw_i2 (List.mem_of_getElem? (i := 100) rfl)) rfl
theorem mw_2_101 : (Cond.methodLink "FaultTests$Lanes" 52 ⟨"FaultTests$Lanes", "runGate", "(LFaultTests$Circuit;I)V"⟩) ∈ UW := UW_in (lw_i2 (List.mem_of_getElem? (i := 101) rfl)) rfl
theorem mw_2_103 : (Cond.instanceMethod ⟨"FaultTests$Lanes", "runGate", "(LFaultTests$Circuit;I)V"⟩) ∈ UW := UW_in (lw_i2 (List.mem_of_getElem? (i := 103) rfl)) rfl
theorem mw_2_104 : (Cond.code ⟨"FaultTests$Lanes", "runGate", "(LFaultTests$Circuit;I)V"⟩ prog_4_method_8_code 16 none) ∈ UW := UW_in (lw_i2 (List.mem_of_getElem? (i := 104) rfl)) rfl
theorem mw_2_105 : (Cond.methodLink "FaultTests$Rows" 42 ⟨"FaultTests$Rows", "store", "(LFaultTests$Circuit;LFaultTests$Lanes;II)V"⟩) ∈ UW := UW_in (lw_i2 (List.mem_of_getElem? (i := 105) rfl)) rfl
theorem mw_2_107 : (Cond.instanceMethod ⟨"FaultTests$Rows", "store", "(LFaultTests$Circuit;LFaultTests$Lanes;II)V"⟩) ∈ UW := UW_in (lw_i2 (List.mem_of_getElem? (i := 107) rfl)) rfl
theorem mw_2_108 : (Cond.code ⟨"FaultTests$Rows", "store", "(LFaultTests$Circuit;LFaultTests$Lanes;II)V"⟩ prog_5_method_4_code 7 none) ∈ UW := UW_in (lw_i2 (List.mem_of_getElem? (i := 108) rfl)) rfl
theorem mw_2_109 : (Cond.methodLink "FaultTests$Rows" 53 ⟨"FaultTests$Rows", "rowOf", "(III)I"⟩) ∈ UW := UW_in (lw_i2 (List.mem_of_getElem? (i := 109) rfl)) rfl
theorem mw_2_110 : (Cond.instanceMethod ⟨"FaultTests$Rows", "rowOf", "(III)I"⟩) ∈ UW := UW_in (lw_i2 (List.mem_of_getElem? (i := 110) rfl)) rfl
theorem mw_2_111 : (Cond.selects "FaultTests$Rows" ⟨"FaultTests$Rows", "rowOf", "(III)I"⟩ ⟨"FaultTests$Rows", "rowOf", "(III)I"⟩) ∈ UW := UW_in (lw_i2 (List.mem_of_getElem? (i := 111) rfl)) rfl
theorem mw_2_112 : (Cond.code ⟨"FaultTests$Rows", "rowOf", "(III)I"⟩ prog_5_method_2_code 4 (some .int)) ∈ UW := UW_in (lw_i2 (List.mem_of_getElem? (i := 112) rfl)) rfl
theorem mw_2_113 : (Cond.methodLink "FaultTests$Rows" 46 ⟨"FaultTests$Lanes", "runFault", "(LFaultTests$Circuit;LFaultTests$Lanes;I)V"⟩) ∈ UW := UW_in (lw_i2 (List.mem_of_getElem? (i := 113) rfl)) rfl
theorem mw_2_114 : (Cond.instanceMethod ⟨"FaultTests$Lanes", "runFault", "(LFaultTests$Circuit;LFaultTests$Lanes;I)V"⟩) ∈ UW := UW_in (lw_i2 (List.mem_of_getElem? (i := 114) rfl)) rfl
theorem mw_2_115 : (Cond.selects "FaultTests$Lanes" ⟨"FaultTests$Lanes", "runFault", "(LFaultTests$Circuit;LFaultTests$Lanes;I)V"⟩ ⟨"FaultTests$Lanes", "runFault", "(LFaultTests$Circuit;LFaultTests$Lanes;I)V"⟩) ∈ UW := UW_in (lw_i2 (List.mem_of_getElem? (i := 115) rfl)) rfl
theorem mw_2_116 : (Cond.code ⟨"FaultTests$Lanes", "runFault", "(LFaultTests$Circuit;LFaultTests$Lanes;I)V"⟩ prog_4_method_6_code 6 none) ∈ UW := UW_in (lw_i2 (List.mem_of_getElem? (i := 116) rfl)) rfl
theorem mw_2_117 : (Cond.methodLink "FaultTests$Lanes" 56 ⟨"FaultTests$Lanes", "setSites", "(LFaultTests$Circuit;LFaultTests$Lanes;I)I"⟩) ∈ UW := UW_in (lw_i2 (List.mem_of_getElem? (i := 117) rfl)) rfl
theorem mw_2_119 : (Cond.instanceMethod ⟨"FaultTests$Lanes", "setSites", "(LFaultTests$Circuit;LFaultTests$Lanes;I)I"⟩) ∈ UW := UW_in (lw_i2 (List.mem_of_getElem? (i := 119) rfl)) rfl
theorem mw_2_120 : (Cond.code ⟨"FaultTests$Lanes", "setSites", "(LFaultTests$Circuit;LFaultTests$Lanes;I)I"⟩ prog_4_method_7_code 7 (some .int)) ∈ UW := UW_in (lw_i2 (List.mem_of_getElem? (i := 120) rfl)) rfl
theorem mw_2_121 : (Cond.methodLink "FaultTests" 115 ⟨"FaultTests$Circuit", "faultCount", "()I"⟩) ∈ UW := UW_in (lw_i2 (List.mem_of_getElem? (i := 121) rfl)) rfl
theorem mw_2_122 : (Cond.methodLink "FaultTests" 215 ⟨"FaultTests$Rows", "firstApart", "(LFaultTests$Circuit;II)I"⟩) ∈ UW := UW_in (lw_i2 (List.mem_of_getElem? (i := 122) rfl)) rfl
theorem mw_2_123 : (Cond.instanceMethod ⟨"FaultTests$Rows", "firstApart", "(LFaultTests$Circuit;II)I"⟩) ∈ UW := UW_in (lw_i2 (List.mem_of_getElem? (i := 123) rfl)) rfl
theorem mw_2_124 : (Cond.selects "FaultTests$Rows" ⟨"FaultTests$Rows", "firstApart", "(LFaultTests$Circuit;II)I"⟩ ⟨"FaultTests$Rows", "firstApart", "(LFaultTests$Circuit;II)I"⟩) ∈ UW := UW_in (lw_i2 (List.mem_of_getElem? (i := 124) rfl)) rfl
theorem mw_2_125 : (Cond.code ⟨"FaultTests$Rows", "firstApart", "(LFaultTests$Circuit;II)I"⟩ prog_5_method_7_code 8 (some .int)) ∈ UW := UW_in (lw_i2 (List.mem_of_getElem? (i := 125) rfl)) rfl
theorem mw_2_126 : (Cond.methodLink "FaultTests$Rows" 65 ⟨"FaultTests$Circuit", "fullWords", "()I"⟩) ∈ UW := UW_in (lw_i2 (List.mem_of_getElem? (i := 126) rfl)) rfl
theorem mw_2_127 : (Cond.methodLink "FaultTests$Rows" 68 ⟨"java/lang/Math", "min", "(II)I"⟩) ∈ UW := UW_in (lw_i2 (List.mem_of_getElem? (i := 127) rfl)) rfl
theorem mw_2_128 : (Cond.static ⟨"java/lang/Math", "min", "(II)I"⟩) ∈ UW := UW_in (lw_i2 (List.mem_of_getElem? (i := 128) rfl)) rfl
theorem mw_2_129 : (Cond.code ⟨"java/lang/Math", "min", "(II)I"⟩ prog_20_method_69_code 2 (some .int)) ∈ UW := UW_in (lw_i2 (List.mem_of_getElem? (i := 129) rfl)) rfl
theorem mw_2_130 : (Cond.methodLink "FaultTests$Rows" 74 ⟨"FaultTests$Rows", "apart", "(LFaultTests$Circuit;III)J"⟩) ∈ UW := UW_in (lw_i2 (List.mem_of_getElem? (i := 130) rfl)) rfl
theorem mw_2_131 : (Cond.instanceMethod ⟨"FaultTests$Rows", "apart", "(LFaultTests$Circuit;III)J"⟩) ∈ UW := UW_in (lw_i2 (List.mem_of_getElem? (i := 131) rfl)) rfl
theorem mw_2_132 : (Cond.selects "FaultTests$Rows" ⟨"FaultTests$Rows", "apart", "(LFaultTests$Circuit;III)J"⟩ ⟨"FaultTests$Rows", "apart", "(LFaultTests$Circuit;III)J"⟩) ∈ UW := UW_in (lw_i2 (List.mem_of_getElem? (i := 132) rfl)) rfl
theorem mw_2_133 : (Cond.code ⟨"FaultTests$Rows", "apart", "(LFaultTests$Circuit;III)J"⟩ prog_5_method_5_code 10 (some .long)) ∈ UW := UW_in (lw_i2 (List.mem_of_getElem? (i := 133) rfl)) rfl
theorem mw_2_134 : (Cond.methodLink "FaultTests$Rows" 78 ⟨"java/lang/Long", "bitCount", "(J)I"⟩) ∈ UW := UW_in (lw_i2 (List.mem_of_getElem? (i := 134) rfl)) rfl
theorem mw_2_135 : (Cond.static ⟨"java/lang/Long", "bitCount", "(J)I"⟩) ∈ UW := UW_in (lw_i2 (List.mem_of_getElem? (i := 135) rfl)) rfl
theorem mw_2_136 : (Cond.code ⟨"java/lang/Long", "bitCount", "(J)I"⟩ prog_19_method_50_code 2 (some .int)) ∈ UW := UW_in (lw_i2 (List.mem_of_getElem? (i := 136) rfl)) rfl
theorem mw_2_137 : (Cond.constantLong "java/lang/Long" 314 (6148914691236517205 : Int64)) ∈ UW := UW_in (lw_i2 (List.mem_of_getElem? (i := 137) rfl)) rfl
theorem mw_2_138 : (Cond.constantLong "java/lang/Long" 316 (3689348814741910323 : Int64)) ∈ UW := UW_in (lw_i2 (List.mem_of_getElem? (i := 138) rfl)) rfl
theorem mw_2_139 : (Cond.constantLong "java/lang/Long" 318 (1085102592571150095 : Int64)) ∈ UW := UW_in (lw_i2 (List.mem_of_getElem? (i := 139) rfl)) rfl
theorem mw_2_140 : (Cond.methodLink "FaultTestsLaw" 134 ⟨"FaultTests", "classes", "()I"⟩) ∈ UW := UW_in (lw_i2 (List.mem_of_getElem? (i := 140) rfl)) rfl
theorem mw_2_141 : (Cond.instanceMethod ⟨"FaultTests", "classes", "()I"⟩) ∈ UW := UW_in (lw_i2 (List.mem_of_getElem? (i := 141) rfl)) rfl
theorem mw_2_142 : (Cond.selects "FaultTests" ⟨"FaultTests", "classes", "()I"⟩ ⟨"FaultTests", "classes", "()I"⟩) ∈ UW := UW_in (lw_i2 (List.mem_of_getElem? (i := 142) rfl)) rfl
theorem mw_2_143 : (Cond.code ⟨"FaultTests", "classes", "()I"⟩ prog_1_method_17_code 4 (some .int)) ∈ UW := UW_in (lw_i2 (List.mem_of_getElem? (i := 143) rfl)) rfl
theorem mw_2_144 : (Cond.methodLink "FaultTests" 219 ⟨"FaultTests", "firstAlike", "(I)I"⟩) ∈ UW := UW_in (lw_i2 (List.mem_of_getElem? (i := 144) rfl)) rfl
theorem mw_2_146 : (Cond.instanceMethod ⟨"FaultTests", "firstAlike", "(I)I"⟩) ∈ UW := UW_in (lw_i2 (List.mem_of_getElem? (i := 146) rfl)) rfl
theorem mw_2_147 : (Cond.code ⟨"FaultTests", "firstAlike", "(I)I"⟩ prog_1_method_44_code 3 (some .int)) ∈ UW := UW_in (lw_i2 (List.mem_of_getElem? (i := 147) rfl)) rfl
theorem mw_2_148 : (Cond.methodLink "FaultTestsLaw" 138 ⟨"FaultTests", "coverage", "()D"⟩) ∈ UW := UW_in (lw_i2 (List.mem_of_getElem? (i := 148) rfl)) rfl
theorem mw_2_149 : (Cond.instanceMethod ⟨"FaultTests", "coverage", "()D"⟩) ∈ UW := UW_in (lw_i2 (List.mem_of_getElem? (i := 149) rfl)) rfl
theorem mw_2_150 : (Cond.selects "FaultTests" ⟨"FaultTests", "coverage", "()D"⟩ ⟨"FaultTests", "coverage", "()D"⟩) ∈ UW := UW_in (lw_i2 (List.mem_of_getElem? (i := 150) rfl)) rfl
theorem mw_2_151 : (Cond.code ⟨"FaultTests", "coverage", "()D"⟩ prog_1_method_18_code 3 (some .double)) ∈ UW := UW_in (lw_i2 (List.mem_of_getElem? (i := 151) rfl)) rfl
theorem mw_2_152 : (Cond.methodLink "FaultTests" 222 ⟨"FaultTests", "hidden", "()I"⟩) ∈ UW := UW_in (lw_i2 (List.mem_of_getElem? (i := 152) rfl)) rfl
theorem mw_2_153 : (Cond.methodLink "FaultTests" 134 ⟨"FaultTests", "listFoundByTests", "()J"⟩) ∈ UW := UW_in (lw_i2 (List.mem_of_getElem? (i := 153) rfl)) rfl
theorem mw_2_155 : (Cond.instanceMethod ⟨"FaultTests", "listFoundByTests", "()J"⟩) ∈ UW := UW_in (lw_i2 (List.mem_of_getElem? (i := 155) rfl)) rfl
theorem mw_2_156 : (Cond.code ⟨"FaultTests", "listFoundByTests", "()J"⟩ prog_1_method_41_code 1 (some .long)) ∈ UW := UW_in (lw_i2 (List.mem_of_getElem? (i := 156) rfl)) rfl
theorem mw_2_157 : (Cond.methodLink "FaultTests" 177 ⟨"FaultTests", "refreshTestRows", "()V"⟩) ∈ UW := UW_in (lw_i2 (List.mem_of_getElem? (i := 157) rfl)) rfl
theorem mw_2_159 : (Cond.instanceMethod ⟨"FaultTests", "refreshTestRows", "()V"⟩) ∈ UW := UW_in (lw_i2 (List.mem_of_getElem? (i := 159) rfl)) rfl
theorem mw_2_160 : (Cond.code ⟨"FaultTests", "refreshTestRows", "()V"⟩ prog_1_method_40_code 1 none) ∈ UW := UW_in (lw_i2 (List.mem_of_getElem? (i := 160) rfl)) rfl
theorem mw_2_161 : (Cond.methodLink "FaultTests" 324 ⟨"FaultTests$Lanes", "setTestInputs", "(ILFaultTests$TestList;)V"⟩) ∈ UW := UW_in (lw_i2 (List.mem_of_getElem? (i := 161) rfl)) rfl
theorem mw_2_162 : (Cond.instanceMethod ⟨"FaultTests$Lanes", "setTestInputs", "(ILFaultTests$TestList;)V"⟩) ∈ UW := UW_in (lw_i2 (List.mem_of_getElem? (i := 162) rfl)) rfl
theorem mw_2_163 : (Cond.selects "FaultTests$Lanes" ⟨"FaultTests$Lanes", "setTestInputs", "(ILFaultTests$TestList;)V"⟩ ⟨"FaultTests$Lanes", "setTestInputs", "(ILFaultTests$TestList;)V"⟩) ∈ UW := UW_in (lw_i2 (List.mem_of_getElem? (i := 163) rfl)) rfl
theorem mw_2_164 : (Cond.code ⟨"FaultTests$Lanes", "setTestInputs", "(ILFaultTests$TestList;)V"⟩ prog_4_method_4_code 5 none) ∈ UW := UW_in (lw_i2 (List.mem_of_getElem? (i := 164) rfl)) rfl
theorem mw_2_165 : (Cond.methodLink "FaultTests" 328 ⟨"FaultTests", "listFound", "(LFaultTests$Rows;I[J)J"⟩) ∈ UW := UW_in (lw_i2 (List.mem_of_getElem? (i := 165) rfl)) rfl
theorem mw_2_167 : (Cond.instanceMethod ⟨"FaultTests", "listFound", "(LFaultTests$Rows;I[J)J"⟩) ∈ UW := UW_in (lw_i2 (List.mem_of_getElem? (i := 167) rfl)) rfl
theorem mw_2_168 : (Cond.code ⟨"FaultTests", "listFound", "(LFaultTests$Rows;I[J)J"⟩ prog_1_method_43_code 15 (some .long)) ∈ UW := UW_in (lw_i2 (List.mem_of_getElem? (i := 168) rfl)) rfl
theorem mw_2_169 : (Cond.methodLink "FaultTests" 332 ⟨"java/lang/Math", "min", "(II)I"⟩) ∈ UW := UW_in (lw_i2 (List.mem_of_getElem? (i := 169) rfl)) rfl
theorem mw_2_170 : (Cond.methodLink "FaultTests" 200 ⟨"FaultTests$Rows", "apart", "(LFaultTests$Circuit;III)J"⟩) ∈ UW := UW_in (lw_i2 (List.mem_of_getElem? (i := 170) rfl)) rfl
theorem mw_2_171 : (Cond.methodLink "FaultTests" 138 ⟨"java/lang/Long", "bitCount", "(J)I"⟩) ∈ UW := UW_in (lw_i2 (List.mem_of_getElem? (i := 171) rfl)) rfl
theorem mw_2_172 : (Cond.methodLink "FaultTestsLaw" 143 ⟨"FaultTests", "leastSet", "()I"⟩) ∈ UW := UW_in (lw_i2 (List.mem_of_getElem? (i := 172) rfl)) rfl
theorem mw_2_173 : (Cond.instanceMethod ⟨"FaultTests", "leastSet", "()I"⟩) ∈ UW := UW_in (lw_i2 (List.mem_of_getElem? (i := 173) rfl)) rfl
theorem mw_2_174 : (Cond.selects "FaultTests" ⟨"FaultTests", "leastSet", "()I"⟩ ⟨"FaultTests", "leastSet", "()I"⟩) ∈ UW := UW_in (lw_i2 (List.mem_of_getElem? (i := 174) rfl)) rfl
theorem mw_2_175 : (Cond.code ⟨"FaultTests", "leastSet", "()I"⟩ prog_1_method_19_code 8 (some .int)) ∈ UW := UW_in (lw_i2 (List.mem_of_getElem? (i := 175) rfl)) rfl
theorem mw_2_176 : (Cond.methodLink "FaultTests" 225 ⟨"FaultTests", "smallestCover", "([J[JIJI)I"⟩) ∈ UW := UW_in (lw_i2 (List.mem_of_getElem? (i := 176) rfl)) rfl
theorem mw_2_177 : (Cond.static ⟨"FaultTests", "smallestCover", "([J[JIJI)I"⟩) ∈ UW := UW_in (lw_i2 (List.mem_of_getElem? (i := 177) rfl)) rfl
theorem mw_2_178 : (Cond.code ⟨"FaultTests", "smallestCover", "([J[JIJI)I"⟩ prog_1_method_45_code 8 (some .int)) ∈ UW := UW_in (lw_i2 (List.mem_of_getElem? (i := 178) rfl)) rfl
theorem mw_2_179 : (Cond.constantLong "FaultTests" 279 (-1 : Int64)) ∈ UW := UW_in (lw_i2 (List.mem_of_getElem? (i := 179) rfl)) rfl
theorem mw_2_180 : (Cond.methodLink "FaultTestsLaw" 147 ⟨"FaultTests", "suspects", "()I"⟩) ∈ UW := UW_in (lw_i2 (List.mem_of_getElem? (i := 180) rfl)) rfl
theorem mw_2_181 : (Cond.instanceMethod ⟨"FaultTests", "suspects", "()I"⟩) ∈ UW := UW_in (lw_i2 (List.mem_of_getElem? (i := 181) rfl)) rfl
theorem mw_2_182 : (Cond.selects "FaultTests" ⟨"FaultTests", "suspects", "()I"⟩ ⟨"FaultTests", "suspects", "()I"⟩) ∈ UW := UW_in (lw_i2 (List.mem_of_getElem? (i := 182) rfl)) rfl
theorem mw_2_183 : (Cond.code ⟨"FaultTests", "suspects", "()I"⟩ prog_1_method_20_code 1 (some .int)) ∈ UW := UW_in (lw_i2 (List.mem_of_getElem? (i := 183) rfl)) rfl
theorem mw_2_184 : (Cond.methodLink "FaultTests" 229 ⟨"FaultTests", "listFitting", "()I"⟩) ∈ UW := UW_in (lw_i2 (List.mem_of_getElem? (i := 184) rfl)) rfl
theorem mw_2_186 : (Cond.instanceMethod ⟨"FaultTests", "listFitting", "()I"⟩) ∈ UW := UW_in (lw_i2 (List.mem_of_getElem? (i := 186) rfl)) rfl
theorem mw_2_187 : (Cond.code ⟨"FaultTests", "listFitting", "()I"⟩ prog_1_method_46_code 4 (some .int)) ∈ UW := UW_in (lw_i2 (List.mem_of_getElem? (i := 187) rfl)) rfl
theorem mw_2_188 : (Cond.methodLink "FaultTests" 337 ⟨"FaultTests", "fits", "(I)Z"⟩) ∈ UW := UW_in (lw_i2 (List.mem_of_getElem? (i := 188) rfl)) rfl
theorem mw_2_190 : (Cond.instanceMethod ⟨"FaultTests", "fits", "(I)Z"⟩) ∈ UW := UW_in (lw_i2 (List.mem_of_getElem? (i := 190) rfl)) rfl
theorem mw_2_191 : (Cond.code ⟨"FaultTests", "fits", "(I)Z"⟩ prog_1_method_47_code 6 (some .boolean)) ∈ UW := UW_in (lw_i2 (List.mem_of_getElem? (i := 191) rfl)) rfl
theorem mw_2_192 : (Cond.methodLink "FaultTests" 340 ⟨"FaultTests$Rows", "rowOf", "(III)I"⟩) ∈ UW := UW_in (lw_i2 (List.mem_of_getElem? (i := 192) rfl)) rfl
theorem mw_2_193 : (Cond.methodLink "FaultTestsLaw" 154 ⟨"FaultTests", "nextTest", "()I"⟩) ∈ UW := UW_in (lw_i2 (List.mem_of_getElem? (i := 193) rfl)) rfl
theorem mw_2_194 : (Cond.instanceMethod ⟨"FaultTests", "nextTest", "()I"⟩) ∈ UW := UW_in (lw_i2 (List.mem_of_getElem? (i := 194) rfl)) rfl
theorem mw_2_195 : (Cond.selects "FaultTests" ⟨"FaultTests", "nextTest", "()I"⟩ ⟨"FaultTests", "nextTest", "()I"⟩) ∈ UW := UW_in (lw_i2 (List.mem_of_getElem? (i := 195) rfl)) rfl
theorem mw_2_196 : (Cond.code ⟨"FaultTests", "nextTest", "()I"⟩ prog_1_method_22_code 6 (some .int)) ∈ UW := UW_in (lw_i2 (List.mem_of_getElem? (i := 196) rfl)) rfl
theorem mw_2_197 : (Cond.methodLink "FaultTests" 234 ⟨"FaultTests", "greatestPart", "(II)I"⟩) ∈ UW := UW_in (lw_i2 (List.mem_of_getElem? (i := 197) rfl)) rfl
theorem mw_2_199 : (Cond.instanceMethod ⟨"FaultTests", "greatestPart", "(II)I"⟩) ∈ UW := UW_in (lw_i2 (List.mem_of_getElem? (i := 199) rfl)) rfl
theorem mw_2_200 : (Cond.code ⟨"FaultTests", "greatestPart", "(II)I"⟩ prog_1_method_48_code 6 (some .int)) ∈ UW := UW_in (lw_i2 (List.mem_of_getElem? (i := 200) rfl)) rfl
theorem mw_2_201 : (Cond.methodLink "FaultTests" 356 ⟨"FaultTests$Rows", "partOf", "(LFaultTests$Circuit;II)I"⟩) ∈ UW := UW_in (lw_i2 (List.mem_of_getElem? (i := 201) rfl)) rfl
theorem mw_2_202 : (Cond.instanceMethod ⟨"FaultTests$Rows", "partOf", "(LFaultTests$Circuit;II)I"⟩) ∈ UW := UW_in (lw_i2 (List.mem_of_getElem? (i := 202) rfl)) rfl
theorem mw_2_203 : (Cond.selects "FaultTests$Rows" ⟨"FaultTests$Rows", "partOf", "(LFaultTests$Circuit;II)I"⟩ ⟨"FaultTests$Rows", "partOf", "(LFaultTests$Circuit;II)I"⟩) ∈ UW := UW_in (lw_i2 (List.mem_of_getElem? (i := 203) rfl)) rfl
theorem mw_2_204 : (Cond.code ⟨"FaultTests$Rows", "partOf", "(LFaultTests$Circuit;II)I"⟩ prog_5_method_8_code 8 (some .int)) ∈ UW := UW_in (lw_i2 (List.mem_of_getElem? (i := 204) rfl)) rfl
theorem mw_2_206 : (Cond.static ⟨"FaultTests", "hasLane", "(JI)Z"⟩) ∈ UW := UW_in (lw_i2 (List.mem_of_getElem? (i := 206) rfl)) rfl
theorem mw_2_207 : (Cond.code ⟨"FaultTests", "hasLane", "(JI)Z"⟩ prog_1_method_37_code 3 (some .boolean)) ∈ UW := UW_in (lw_i2 (List.mem_of_getElem? (i := 207) rfl)) rfl
theorem mw_2_208 : (Cond.methodLink "FaultTests" 359 ⟨"java/lang/Math", "max", "(II)I"⟩) ∈ UW := UW_in (lw_i2 (List.mem_of_getElem? (i := 208) rfl)) rfl
theorem mw_2_209 : (Cond.static ⟨"java/lang/Math", "max", "(II)I"⟩) ∈ UW := UW_in (lw_i2 (List.mem_of_getElem? (i := 209) rfl)) rfl
theorem mw_2_210 : (Cond.code ⟨"java/lang/Math", "max", "(II)I"⟩ prog_20_method_65_code 2 (some .int)) ∈ UW := UW_in (lw_i2 (List.mem_of_getElem? (i := 210) rfl)) rfl
theorem mw_2_211 : (Cond.methodLink "FaultTestsLaw" 170 ⟨"FaultTests", "forget", "()I"⟩) ∈ UW := UW_in (lw_i2 (List.mem_of_getElem? (i := 211) rfl)) rfl
theorem mw_2_212 : (Cond.instanceMethod ⟨"FaultTests", "forget", "()I"⟩) ∈ UW := UW_in (lw_i2 (List.mem_of_getElem? (i := 212) rfl)) rfl
theorem mw_2_213 : (Cond.selects "FaultTests" ⟨"FaultTests", "forget", "()I"⟩ ⟨"FaultTests", "forget", "()I"⟩) ∈ UW := UW_in (lw_i2 (List.mem_of_getElem? (i := 213) rfl)) rfl
theorem mw_2_214 : (Cond.code ⟨"FaultTests", "forget", "()I"⟩ prog_1_method_27_code 2 (some .int)) ∈ UW := UW_in (lw_i2 (List.mem_of_getElem? (i := 214) rfl)) rfl
theorem mw_2_215 : (Cond.methodLink "FaultTests" 84 ⟨"FaultTests$History", "push", "(LFaultTests$Setup;)V"⟩) ∈ UW := UW_in (lw_i2 (List.mem_of_getElem? (i := 215) rfl)) rfl
theorem mw_2_216 : (Cond.instanceMethod ⟨"FaultTests$History", "push", "(LFaultTests$Setup;)V"⟩) ∈ UW := UW_in (lw_i2 (List.mem_of_getElem? (i := 216) rfl)) rfl
theorem mw_2_217 : (Cond.selects "FaultTests$History" ⟨"FaultTests$History", "push", "(LFaultTests$Setup;)V"⟩ ⟨"FaultTests$History", "push", "(LFaultTests$Setup;)V"⟩) ∈ UW := UW_in (lw_i2 (List.mem_of_getElem? (i := 217) rfl)) rfl
theorem mw_2_218 : (Cond.code ⟨"FaultTests$History", "push", "(LFaultTests$Setup;)V"⟩ prog_3_method_2_code 2 none) ∈ UW := UW_in (lw_i2 (List.mem_of_getElem? (i := 218) rfl)) rfl
theorem mw_2_219 : (Cond.methodLink "FaultTests$History" 25 ⟨"FaultTests$Setup", "copyFrom", "(LFaultTests$Setup;)V"⟩) ∈ UW := UW_in (lw_i2 (List.mem_of_getElem? (i := 219) rfl)) rfl
theorem mw_2_220 : (Cond.instanceMethod ⟨"FaultTests$Setup", "copyFrom", "(LFaultTests$Setup;)V"⟩) ∈ UW := UW_in (lw_i2 (List.mem_of_getElem? (i := 220) rfl)) rfl
theorem mw_2_221 : (Cond.selects "FaultTests$Setup" ⟨"FaultTests$Setup", "copyFrom", "(LFaultTests$Setup;)V"⟩ ⟨"FaultTests$Setup", "copyFrom", "(LFaultTests$Setup;)V"⟩) ∈ UW := UW_in (lw_i2 (List.mem_of_getElem? (i := 221) rfl)) rfl
theorem mw_2_222 : (Cond.code ⟨"FaultTests$Setup", "copyFrom", "(LFaultTests$Setup;)V"⟩ prog_6_method_3_code 2 none) ∈ UW := UW_in (lw_i2 (List.mem_of_getElem? (i := 222) rfl)) rfl
theorem mw_2_223 : (Cond.methodLink "FaultTests$Setup" 29 ⟨"FaultTests$Circuit", "copyFrom", "(LFaultTests$Circuit;)V"⟩) ∈ UW := UW_in (lw_i2 (List.mem_of_getElem? (i := 223) rfl)) rfl
theorem mw_2_224 : (Cond.instanceMethod ⟨"FaultTests$Circuit", "copyFrom", "(LFaultTests$Circuit;)V"⟩) ∈ UW := UW_in (lw_i2 (List.mem_of_getElem? (i := 224) rfl)) rfl
theorem mw_2_225 : (Cond.selects "FaultTests$Circuit" ⟨"FaultTests$Circuit", "copyFrom", "(LFaultTests$Circuit;)V"⟩ ⟨"FaultTests$Circuit", "copyFrom", "(LFaultTests$Circuit;)V"⟩) ∈ UW := UW_in (lw_i2 (List.mem_of_getElem? (i := 225) rfl)) rfl
theorem mw_2_226 : (Cond.code ⟨"FaultTests$Circuit", "copyFrom", "(LFaultTests$Circuit;)V"⟩ prog_2_method_3_code 2 none) ∈ UW := UW_in (lw_i2 (List.mem_of_getElem? (i := 226) rfl)) rfl
theorem mw_2_227 : (Cond.methodLink "FaultTests$Circuit" 59 ⟨"java/lang/System", "arraycopy", "(Ljava/lang/Object;ILjava/lang/Object;II)V"⟩) ∈ UW := UW_in (lw_i2 (List.mem_of_getElem? (i := 227) rfl)) rfl
theorem mw_2_228 : (Cond.static ⟨"java/lang/System", "arraycopy", "(Ljava/lang/Object;ILjava/lang/Object;II)V"⟩) ∈ UW := UW_in (lw_i2 (List.mem_of_getElem? (i := 228) rfl)) rfl
theorem mw_2_229 : (Cond.native ⟨"java/lang/System", "arraycopy", "(Ljava/lang/Object;ILjava/lang/Object;II)V"⟩) ∈ UW := UW_in (lw_i2 (List.mem_of_getElem? (i := 229) rfl)) rfl
theorem mw_2_230 : (Cond.methodLink "FaultTests$Setup" 33 ⟨"FaultTests$TestList", "copyFrom", "(LFaultTests$TestList;)V"⟩) ∈ UW := UW_in (lw_i2 (List.mem_of_getElem? (i := 230) rfl)) rfl
theorem mw_2_231 : (Cond.instanceMethod ⟨"FaultTests$TestList", "copyFrom", "(LFaultTests$TestList;)V"⟩) ∈ UW := UW_in (lw_i2 (List.mem_of_getElem? (i := 231) rfl)) rfl
theorem mw_2_232 : (Cond.selects "FaultTests$TestList" ⟨"FaultTests$TestList", "copyFrom", "(LFaultTests$TestList;)V"⟩ ⟨"FaultTests$TestList", "copyFrom", "(LFaultTests$TestList;)V"⟩) ∈ UW := UW_in (lw_i2 (List.mem_of_getElem? (i := 232) rfl)) rfl
theorem mw_2_233 : (Cond.code ⟨"FaultTests$TestList", "copyFrom", "(LFaultTests$TestList;)V"⟩ prog_8_method_4_code 2 none) ∈ UW := UW_in (lw_i2 (List.mem_of_getElem? (i := 233) rfl)) rfl
theorem mw_2_234 : (Cond.methodLink "FaultTests$TestList" 31 ⟨"java/lang/System", "arraycopy", "(Ljava/lang/Object;ILjava/lang/Object;II)V"⟩) ∈ UW := UW_in (lw_i2 (List.mem_of_getElem? (i := 234) rfl)) rfl
theorem mw_2_235 : (Cond.methodLink "FaultTests$History" 29 ⟨"java/lang/Math", "min", "(II)I"⟩) ∈ UW := UW_in (lw_i2 (List.mem_of_getElem? (i := 235) rfl)) rfl
theorem mw_2_236 : (Cond.methodLink "FaultTests" 131 ⟨"FaultTests$TestList", "countSeen", "()I"⟩) ∈ UW := UW_in (lw_i2 (List.mem_of_getElem? (i := 236) rfl)) rfl
theorem mw_2_237 : (Cond.instanceMethod ⟨"FaultTests$TestList", "countSeen", "()I"⟩) ∈ UW := UW_in (lw_i2 (List.mem_of_getElem? (i := 237) rfl)) rfl
theorem mw_2_238 : (Cond.selects "FaultTests$TestList" ⟨"FaultTests$TestList", "countSeen", "()I"⟩ ⟨"FaultTests$TestList", "countSeen", "()I"⟩) ∈ UW := UW_in (lw_i2 (List.mem_of_getElem? (i := 238) rfl)) rfl
theorem mw_2_239 : (Cond.code ⟨"FaultTests$TestList", "countSeen", "()I"⟩ prog_8_method_11_code 3 (some .int)) ∈ UW := UW_in (lw_i2 (List.mem_of_getElem? (i := 239) rfl)) rfl
theorem mw_3_0 : (Cond.methodLink "FaultTests$TestList" 47 ⟨"java/lang/Integer", "bitCount", "(I)I"⟩) ∈ UW := UW_in (lw_i3 (List.mem_of_getElem? (i := 0) rfl)) rfl
theorem mw_3_1 : (Cond.static ⟨"java/lang/Integer", "bitCount", "(I)I"⟩) ∈ UW := UW_in (lw_i3 (List.mem_of_getElem? (i := 1) rfl)) rfl
theorem mw_3_2 : (Cond.code ⟨"java/lang/Integer", "bitCount", "(I)I"⟩ prog_18_method_49_code 1 (some .int)) ∈ UW := UW_in (lw_i3 (List.mem_of_getElem? (i := 2) rfl)) rfl
theorem mw_3_3 : (Cond.constant "java/lang/Integer" 265 (1431655765 : Int32)) ∈ UW := UW_in (lw_i3 (List.mem_of_getElem? (i := 3) rfl)) rfl
theorem mw_3_4 : (Cond.constant "java/lang/Integer" 266 (858993459 : Int32)) ∈ UW := UW_in (lw_i3 (List.mem_of_getElem? (i := 4) rfl)) rfl
theorem mw_3_5 : (Cond.constant "java/lang/Integer" 267 (252645135 : Int32)) ∈ UW := UW_in (lw_i3 (List.mem_of_getElem? (i := 5) rfl)) rfl
theorem mw_3_6 : (Cond.methodLink "FaultTests" 276 ⟨"FaultTests$TestList", "clearSeen", "()V"⟩) ∈ UW := UW_in (lw_i3 (List.mem_of_getElem? (i := 6) rfl)) rfl
theorem mw_3_7 : (Cond.instanceMethod ⟨"FaultTests$TestList", "clearSeen", "()V"⟩) ∈ UW := UW_in (lw_i3 (List.mem_of_getElem? (i := 7) rfl)) rfl
theorem mw_3_8 : (Cond.selects "FaultTests$TestList" ⟨"FaultTests$TestList", "clearSeen", "()V"⟩ ⟨"FaultTests$TestList", "clearSeen", "()V"⟩) ∈ UW := UW_in (lw_i3 (List.mem_of_getElem? (i := 8) rfl)) rfl
theorem mw_3_9 : (Cond.code ⟨"FaultTests$TestList", "clearSeen", "()V"⟩ prog_8_method_3_code 2 none) ∈ UW := UW_in (lw_i3 (List.mem_of_getElem? (i := 9) rfl)) rfl
theorem mw_3_10 : (Cond.methodLink "FaultTestsLaw" 174 ⟨"FaultTests", "complete", "()I"⟩) ∈ UW := UW_in (lw_i3 (List.mem_of_getElem? (i := 10) rfl)) rfl
theorem mw_3_11 : (Cond.instanceMethod ⟨"FaultTests", "complete", "()I"⟩) ∈ UW := UW_in (lw_i3 (List.mem_of_getElem? (i := 11) rfl)) rfl
theorem mw_3_12 : (Cond.selects "FaultTests" ⟨"FaultTests", "complete", "()I"⟩ ⟨"FaultTests", "complete", "()I"⟩) ∈ UW := UW_in (lw_i3 (List.mem_of_getElem? (i := 12) rfl)) rfl
theorem mw_3_13 : (Cond.code ⟨"FaultTests", "complete", "()I"⟩ prog_1_method_28_code 6 (some .int)) ∈ UW := UW_in (lw_i3 (List.mem_of_getElem? (i := 13) rfl)) rfl
theorem mw_3_14 : (Cond.methodLink "FaultTests" 281 ⟨"FaultTests", "listFoundByFull", "()V"⟩) ∈ UW := UW_in (lw_i3 (List.mem_of_getElem? (i := 14) rfl)) rfl
theorem mw_3_16 : (Cond.instanceMethod ⟨"FaultTests", "listFoundByFull", "()V"⟩) ∈ UW := UW_in (lw_i3 (List.mem_of_getElem? (i := 16) rfl)) rfl
theorem mw_3_17 : (Cond.code ⟨"FaultTests", "listFoundByFull", "()V"⟩ prog_1_method_42_code 1 none) ∈ UW := UW_in (lw_i3 (List.mem_of_getElem? (i := 17) rfl)) rfl
theorem mw_3_18 : (Cond.methodLink "FaultTests" 284 ⟨"FaultTests", "bestFullTest", "(J)I"⟩) ∈ UW := UW_in (lw_i3 (List.mem_of_getElem? (i := 18) rfl)) rfl
theorem mw_3_20 : (Cond.instanceMethod ⟨"FaultTests", "bestFullTest", "(J)I"⟩) ∈ UW := UW_in (lw_i3 (List.mem_of_getElem? (i := 20) rfl)) rfl
theorem mw_3_21 : (Cond.code ⟨"FaultTests", "bestFullTest", "(J)I"⟩ prog_1_method_49_code 8 (some .int)) ∈ UW := UW_in (lw_i3 (List.mem_of_getElem? (i := 21) rfl)) rfl
theorem mw_3_22 : (Cond.methodLink "FaultTests" 248 ⟨"FaultTests$TestList", "put", "(II)V"⟩) ∈ UW := UW_in (lw_i3 (List.mem_of_getElem? (i := 22) rfl)) rfl
theorem mw_3_23 : (Cond.instanceMethod ⟨"FaultTests$TestList", "put", "(II)V"⟩) ∈ UW := UW_in (lw_i3 (List.mem_of_getElem? (i := 23) rfl)) rfl
theorem mw_3_24 : (Cond.selects "FaultTests$TestList" ⟨"FaultTests$TestList", "put", "(II)V"⟩ ⟨"FaultTests$TestList", "put", "(II)V"⟩) ∈ UW := UW_in (lw_i3 (List.mem_of_getElem? (i := 24) rfl)) rfl
theorem mw_3_25 : (Cond.code ⟨"FaultTests$TestList", "put", "(II)V"⟩ prog_8_method_6_code 3 none) ∈ UW := UW_in (lw_i3 (List.mem_of_getElem? (i := 25) rfl)) rfl
theorem mw_3_26 : (Cond.methodLink "FaultTestsLaw" 178 ⟨"FaultTests", "undo", "()I"⟩) ∈ UW := UW_in (lw_i3 (List.mem_of_getElem? (i := 26) rfl)) rfl
theorem mw_3_27 : (Cond.instanceMethod ⟨"FaultTests", "undo", "()I"⟩) ∈ UW := UW_in (lw_i3 (List.mem_of_getElem? (i := 27) rfl)) rfl
theorem mw_3_28 : (Cond.selects "FaultTests" ⟨"FaultTests", "undo", "()I"⟩ ⟨"FaultTests", "undo", "()I"⟩) ∈ UW := UW_in (lw_i3 (List.mem_of_getElem? (i := 28) rfl)) rfl
theorem mw_3_29 : (Cond.code ⟨"FaultTests", "undo", "()I"⟩ prog_1_method_29_code 1 (some .int)) ∈ UW := UW_in (lw_i3 (List.mem_of_getElem? (i := 29) rfl)) rfl
theorem mw_3_30 : (Cond.methodLink "FaultTests" 288 ⟨"FaultTests$History", "pop", "(LFaultTests$Setup;)V"⟩) ∈ UW := UW_in (lw_i3 (List.mem_of_getElem? (i := 30) rfl)) rfl
theorem mw_3_31 : (Cond.instanceMethod ⟨"FaultTests$History", "pop", "(LFaultTests$Setup;)V"⟩) ∈ UW := UW_in (lw_i3 (List.mem_of_getElem? (i := 31) rfl)) rfl
theorem mw_3_32 : (Cond.selects "FaultTests$History" ⟨"FaultTests$History", "pop", "(LFaultTests$Setup;)V"⟩ ⟨"FaultTests$History", "pop", "(LFaultTests$Setup;)V"⟩) ∈ UW := UW_in (lw_i3 (List.mem_of_getElem? (i := 32) rfl)) rfl
theorem mw_3_33 : (Cond.code ⟨"FaultTests$History", "pop", "(LFaultTests$Setup;)V"⟩ prog_3_method_3_code 2 none) ∈ UW := UW_in (lw_i3 (List.mem_of_getElem? (i := 33) rfl)) rfl
theorem mw_3_34 : (Cond.methodLink "FaultTests" 94 ⟨"FaultTests", "forgetRows", "()V"⟩) ∈ UW := UW_in (lw_i3 (List.mem_of_getElem? (i := 34) rfl)) rfl
theorem mw_3_36 : (Cond.instanceMethod ⟨"FaultTests", "forgetRows", "()V"⟩) ∈ UW := UW_in (lw_i3 (List.mem_of_getElem? (i := 36) rfl)) rfl
theorem mw_3_37 : (Cond.code ⟨"FaultTests", "forgetRows", "()V"⟩ prog_1_method_38_code 1 none) ∈ UW := UW_in (lw_i3 (List.mem_of_getElem? (i := 37) rfl)) rfl
theorem mw_3_38 : (Cond.methodLink "FaultTestsLaw" 182 ⟨"FaultTests", "checksum", "()J"⟩) ∈ UW := UW_in (lw_i3 (List.mem_of_getElem? (i := 38) rfl)) rfl
theorem mw_3_39 : (Cond.instanceMethod ⟨"FaultTests", "checksum", "()J"⟩) ∈ UW := UW_in (lw_i3 (List.mem_of_getElem? (i := 39) rfl)) rfl
theorem mw_3_40 : (Cond.selects "FaultTests" ⟨"FaultTests", "checksum", "()J"⟩ ⟨"FaultTests", "checksum", "()J"⟩) ∈ UW := UW_in (lw_i3 (List.mem_of_getElem? (i := 40) rfl)) rfl
theorem mw_3_41 : (Cond.code ⟨"FaultTests", "checksum", "()J"⟩ prog_1_method_30_code 4 (some .long)) ∈ UW := UW_in (lw_i3 (List.mem_of_getElem? (i := 41) rfl)) rfl
theorem mw_3_42 : (Cond.constantLong "FaultTests" 291 (31 : Int64)) ∈ UW := UW_in (lw_i3 (List.mem_of_getElem? (i := 42) rfl)) rfl
theorem mw_3_43 : (Cond.methodLink "FaultTests" 293 ⟨"FaultTests", "state", "(I)I"⟩) ∈ UW := UW_in (lw_i3 (List.mem_of_getElem? (i := 43) rfl)) rfl
theorem mw_3_44 : (Cond.instanceMethod ⟨"FaultTests", "state", "(I)I"⟩) ∈ UW := UW_in (lw_i3 (List.mem_of_getElem? (i := 44) rfl)) rfl
theorem mw_3_45 : (Cond.selects "FaultTests" ⟨"FaultTests", "state", "(I)I"⟩ ⟨"FaultTests", "state", "(I)I"⟩) ∈ UW := UW_in (lw_i3 (List.mem_of_getElem? (i := 45) rfl)) rfl
theorem mw_3_46 : (Cond.code ⟨"FaultTests", "state", "(I)I"⟩ prog_1_method_5_code 2 (some .int)) ∈ UW := UW_in (lw_i3 (List.mem_of_getElem? (i := 46) rfl)) rfl
theorem mw_3_47 : (Cond.methodLink "FaultTests" 144 ⟨"FaultTests$Circuit", "greatestLevel", "()I"⟩) ∈ UW := UW_in (lw_i3 (List.mem_of_getElem? (i := 47) rfl)) rfl
theorem mw_3_48 : (Cond.instanceMethod ⟨"FaultTests$Circuit", "greatestLevel", "()I"⟩) ∈ UW := UW_in (lw_i3 (List.mem_of_getElem? (i := 48) rfl)) rfl
theorem mw_3_49 : (Cond.selects "FaultTests$Circuit" ⟨"FaultTests$Circuit", "greatestLevel", "()I"⟩ ⟨"FaultTests$Circuit", "greatestLevel", "()I"⟩) ∈ UW := UW_in (lw_i3 (List.mem_of_getElem? (i := 49) rfl)) rfl
theorem mw_3_50 : (Cond.code ⟨"FaultTests$Circuit", "greatestLevel", "()I"⟩ prog_2_method_14_code 3 (some .int)) ∈ UW := UW_in (lw_i3 (List.mem_of_getElem? (i := 50) rfl)) rfl
theorem mw_3_51 : (Cond.methodLink "FaultTests$Circuit" 65 ⟨"java/lang/Math", "max", "(II)I"⟩) ∈ UW := UW_in (lw_i3 (List.mem_of_getElem? (i := 51) rfl)) rfl
theorem mw_3_52 : (Cond.classLink "FaultTests" 73 "java/lang/IllegalArgumentException") ∈ UW := UW_in (lw_i3 (List.mem_of_getElem? (i := 52) rfl)) rfl
theorem mw_3_53 : (Cond.instantiable "java/lang/IllegalArgumentException" 6) ∈ UW := UW_in (lw_i3 (List.mem_of_getElem? (i := 53) rfl)) rfl
theorem mw_3_61 : (Cond.selects "java/lang/IllegalArgumentException" ⟨"java/lang/Throwable", "fillInStackTrace", "(I)Ljava/lang/Throwable;"⟩ ⟨"java/lang/Throwable", "fillInStackTrace", "(I)Ljava/lang/Throwable;"⟩) ∈ UW := UW_in (lw_i3 (List.mem_of_getElem? (i := 61) rfl)) rfl
theorem mw_3_62 : (Cond.selects "java/lang/IllegalArgumentException" ⟨"java/lang/Throwable", "fillInStackTrace", "()Ljava/lang/Throwable;"⟩ ⟨"java/lang/Throwable", "fillInStackTrace", "()Ljava/lang/Throwable;"⟩) ∈ UW := UW_in (lw_i3 (List.mem_of_getElem? (i := 62) rfl)) rfl
theorem mw_3_63 : (Cond.lays "java/lang/IllegalArgumentException" "java/lang/Throwable" "cause" "Ljava/lang/Throwable;") ∈ UW := UW_in (lw_i3 (List.mem_of_getElem? (i := 63) rfl)) rfl
theorem mw_3_64 : (Cond.lays "java/lang/Throwable" "java/lang/Throwable" "cause" "Ljava/lang/Throwable;") ∈ UW := UW_in (lw_i3 (List.mem_of_getElem? (i := 64) rfl)) rfl
theorem mw_3_65 : (Cond.lays "java/lang/IllegalArgumentException" "java/lang/Throwable" "stackTrace" "[Ljava/lang/StackTraceElement;") ∈ UW := UW_in (lw_i3 (List.mem_of_getElem? (i := 65) rfl)) rfl
theorem mw_3_66 : (Cond.lays "java/lang/Throwable" "java/lang/Throwable" "stackTrace" "[Ljava/lang/StackTraceElement;") ∈ UW := UW_in (lw_i3 (List.mem_of_getElem? (i := 66) rfl)) rfl
theorem mw_3_67 : (Cond.lays "java/lang/IllegalArgumentException" "java/lang/Throwable" "suppressedExceptions" "Ljava/util/List;") ∈ UW := UW_in (lw_i3 (List.mem_of_getElem? (i := 67) rfl)) rfl
theorem mw_3_68 : (Cond.lays "java/lang/Throwable" "java/lang/Throwable" "suppressedExceptions" "Ljava/util/List;") ∈ UW := UW_in (lw_i3 (List.mem_of_getElem? (i := 68) rfl)) rfl
theorem mw_3_69 : (Cond.lays "java/lang/IllegalArgumentException" "java/lang/Throwable" "detailMessage" "Ljava/lang/String;") ∈ UW := UW_in (lw_i3 (List.mem_of_getElem? (i := 69) rfl)) rfl
theorem mw_3_70 : (Cond.lays "java/lang/Throwable" "java/lang/Throwable" "detailMessage" "Ljava/lang/String;") ∈ UW := UW_in (lw_i3 (List.mem_of_getElem? (i := 70) rfl)) rfl
theorem mw_3_71 : (Cond.lays "java/lang/IllegalArgumentException" "java/lang/Throwable" "backtrace" "Ljava/lang/Object;") ∈ UW := UW_in (lw_i3 (List.mem_of_getElem? (i := 71) rfl)) rfl
theorem mw_3_72 : (Cond.lays "java/lang/Throwable" "java/lang/Throwable" "backtrace" "Ljava/lang/Object;") ∈ UW := UW_in (lw_i3 (List.mem_of_getElem? (i := 72) rfl)) rfl
theorem mw_3_73 : (Cond.fieldLink "java/lang/Throwable" 198 "java/lang/Throwable" "backtrace" "Ljava/lang/Object;") ∈ UW := UW_in (lw_i3 (List.mem_of_getElem? (i := 73) rfl)) rfl
theorem mw_3_74 : (Cond.superclass "java/lang/Throwable" "java/lang/Object") ∈ UW := UW_in (lw_i3 (List.mem_of_getElem? (i := 74) rfl)) rfl
theorem mw_3_75 : (Cond.instanceMethod ⟨"java/lang/Throwable", "<init>", "()V"⟩) ∈ UW := UW_in (lw_i3 (List.mem_of_getElem? (i := 75) rfl)) rfl
theorem mw_3_76 : (Cond.code ⟨"java/lang/Throwable", "<init>", "()V"⟩ prog_26_method_1_code 1 none) ∈ UW := UW_in (lw_i3 (List.mem_of_getElem? (i := 76) rfl)) rfl
theorem mw_3_77 : (Cond.methodLink "java/lang/Throwable" 1 ⟨"java/lang/Object", "<init>", "()V"⟩) ∈ UW := UW_in (lw_i3 (List.mem_of_getElem? (i := 77) rfl)) rfl
theorem mw_3_78 : (Cond.fieldLink "java/lang/Throwable" 13 "java/lang/Throwable" "UNASSIGNED_STACK" "[Ljava/lang/StackTraceElement;") ∈ UW := UW_in (lw_i3 (List.mem_of_getElem? (i := 78) rfl)) rfl
theorem mw_3_80 : (Cond.fieldLink "java/lang/Throwable" 20 "java/lang/Throwable" "SUPPRESSED_SENTINEL" "Ljava/util/List;") ∈ UW := UW_in (lw_i3 (List.mem_of_getElem? (i := 80) rfl)) rfl
theorem mw_3_82 : (Cond.methodLink "java/lang/Throwable" 27 ⟨"java/lang/Throwable", "fillInStackTrace", "()Ljava/lang/Throwable;"⟩) ∈ UW := UW_in (lw_i3 (List.mem_of_getElem? (i := 82) rfl)) rfl
theorem mw_3_83 : (Cond.instanceMethod ⟨"java/lang/Throwable", "fillInStackTrace", "()Ljava/lang/Throwable;"⟩) ∈ UW := UW_in (lw_i3 (List.mem_of_getElem? (i := 83) rfl)) rfl
theorem mw_3_84 : (Cond.sameMethod "java/lang/Throwable" "java/lang/Throwable" "fillInStackTrace" "()Ljava/lang/Throwable;") ∈ UW := UW_in (lw_i3 (List.mem_of_getElem? (i := 84) rfl)) rfl
theorem mw_3_85 : (Cond.selects "java/lang/IllegalStateException" ⟨"java/lang/Throwable", "fillInStackTrace", "()Ljava/lang/Throwable;"⟩ ⟨"java/lang/Throwable", "fillInStackTrace", "()Ljava/lang/Throwable;"⟩) ∈ UW := UW_in (lw_i3 (List.mem_of_getElem? (i := 85) rfl)) rfl
theorem mw_3_86 : (Cond.selects "java/lang/IndexOutOfBoundsException" ⟨"java/lang/Throwable", "fillInStackTrace", "()Ljava/lang/Throwable;"⟩ ⟨"java/lang/Throwable", "fillInStackTrace", "()Ljava/lang/Throwable;"⟩) ∈ UW := UW_in (lw_i3 (List.mem_of_getElem? (i := 86) rfl)) rfl
theorem mw_3_87 : (Cond.selects "java/util/NoSuchElementException" ⟨"java/lang/Throwable", "fillInStackTrace", "()Ljava/lang/Throwable;"⟩ ⟨"java/lang/Throwable", "fillInStackTrace", "()Ljava/lang/Throwable;"⟩) ∈ UW := UW_in (lw_i3 (List.mem_of_getElem? (i := 87) rfl)) rfl
theorem mw_3_88 : (Cond.codeSync ⟨"java/lang/Throwable", "fillInStackTrace", "()Ljava/lang/Throwable;"⟩ prog_26_method_18_code 1 (some (.object "java/lang/Throwable"))) ∈ UW := UW_in (lw_i3 (List.mem_of_getElem? (i := 88) rfl)) rfl
theorem mw_3_89 : (Cond.methodLink "java/lang/Throwable" 202 ⟨"java/lang/Throwable", "fillInStackTrace", "(I)Ljava/lang/Throwable;"⟩) ∈ UW := UW_in (lw_i3 (List.mem_of_getElem? (i := 89) rfl)) rfl
theorem mw_3_91 : (Cond.instanceMethod ⟨"java/lang/Throwable", "fillInStackTrace", "(I)Ljava/lang/Throwable;"⟩) ∈ UW := UW_in (lw_i3 (List.mem_of_getElem? (i := 91) rfl)) rfl
theorem mw_3_92 : (Cond.instantiable "java/lang/Throwable" 6) ∈ UW := UW_in (lw_i3 (List.mem_of_getElem? (i := 92) rfl)) rfl
theorem mw_3_93 : (Cond.native ⟨"java/lang/Throwable", "fillInStackTrace", "(I)Ljava/lang/Throwable;"⟩) ∈ UW := UW_in (lw_i3 (List.mem_of_getElem? (i := 93) rfl)) rfl
theorem mw_3_95 : (Cond.methodLink "FaultTests" 77 ⟨"java/lang/IllegalArgumentException", "<init>", "(Ljava/lang/String;)V"⟩) ∈ UW := UW_in (lw_i3 (List.mem_of_getElem? (i := 95) rfl)) rfl
theorem mw_3_96 : (Cond.instanceMethod ⟨"java/lang/IllegalArgumentException", "<init>", "(Ljava/lang/String;)V"⟩) ∈ UW := UW_in (lw_i3 (List.mem_of_getElem? (i := 96) rfl)) rfl
theorem mw_3_97 : (Cond.code ⟨"java/lang/IllegalArgumentException", "<init>", "(Ljava/lang/String;)V"⟩ prog_15_method_2_code 2 none) ∈ UW := UW_in (lw_i3 (List.mem_of_getElem? (i := 97) rfl)) rfl
theorem mw_3_98 : (Cond.methodLink "java/lang/IllegalArgumentException" 7 ⟨"java/lang/RuntimeException", "<init>", "(Ljava/lang/String;)V"⟩) ∈ UW := UW_in (lw_i3 (List.mem_of_getElem? (i := 98) rfl)) rfl
theorem mw_3_99 : (Cond.instanceMethod ⟨"java/lang/RuntimeException", "<init>", "(Ljava/lang/String;)V"⟩) ∈ UW := UW_in (lw_i3 (List.mem_of_getElem? (i := 99) rfl)) rfl
theorem mw_3_100 : (Cond.code ⟨"java/lang/RuntimeException", "<init>", "(Ljava/lang/String;)V"⟩ prog_21_method_2_code 2 none) ∈ UW := UW_in (lw_i3 (List.mem_of_getElem? (i := 100) rfl)) rfl
theorem mw_3_101 : (Cond.methodLink "java/lang/RuntimeException" 7 ⟨"java/lang/Exception", "<init>", "(Ljava/lang/String;)V"⟩) ∈ UW := UW_in (lw_i3 (List.mem_of_getElem? (i := 101) rfl)) rfl
theorem mw_3_102 : (Cond.instanceMethod ⟨"java/lang/Exception", "<init>", "(Ljava/lang/String;)V"⟩) ∈ UW := UW_in (lw_i3 (List.mem_of_getElem? (i := 102) rfl)) rfl
theorem mw_3_103 : (Cond.code ⟨"java/lang/Exception", "<init>", "(Ljava/lang/String;)V"⟩ prog_14_method_2_code 2 none) ∈ UW := UW_in (lw_i3 (List.mem_of_getElem? (i := 103) rfl)) rfl
theorem mw_3_104 : (Cond.methodLink "java/lang/Exception" 7 ⟨"java/lang/Throwable", "<init>", "(Ljava/lang/String;)V"⟩) ∈ UW := UW_in (lw_i3 (List.mem_of_getElem? (i := 104) rfl)) rfl
theorem mw_3_105 : (Cond.instanceMethod ⟨"java/lang/Throwable", "<init>", "(Ljava/lang/String;)V"⟩) ∈ UW := UW_in (lw_i3 (List.mem_of_getElem? (i := 105) rfl)) rfl
theorem mw_3_106 : (Cond.code ⟨"java/lang/Throwable", "<init>", "(Ljava/lang/String;)V"⟩ prog_26_method_2_code 2 none) ∈ UW := UW_in (lw_i3 (List.mem_of_getElem? (i := 106) rfl)) rfl
theorem mw_3_107 : (Cond.fieldLink "java/lang/Throwable" 198 "java/lang/Throwable" "backtrace" "Ljava/lang/Object;") ∈ UW := UW_in (lw_i3 (List.mem_of_getElem? (i := 107) rfl)) rfl
theorem mw_3_108 : (Cond.fieldLink "java/lang/Throwable" 31 "java/lang/Throwable" "detailMessage" "Ljava/lang/String;") ∈ UW := UW_in (lw_i3 (List.mem_of_getElem? (i := 108) rfl)) rfl
theorem mw_3_109 : (Cond.fieldLink "java/lang/Throwable" 7 "java/lang/Throwable" "cause" "Ljava/lang/Throwable;") ∈ UW := UW_in (lw_i3 (List.mem_of_getElem? (i := 109) rfl)) rfl
theorem mw_3_110 : (Cond.fieldLink "java/lang/Throwable" 17 "java/lang/Throwable" "stackTrace" "[Ljava/lang/StackTraceElement;") ∈ UW := UW_in (lw_i3 (List.mem_of_getElem? (i := 110) rfl)) rfl
theorem mw_3_111 : (Cond.fieldLink "java/lang/Throwable" 24 "java/lang/Throwable" "suppressedExceptions" "Ljava/util/List;") ∈ UW := UW_in (lw_i3 (List.mem_of_getElem? (i := 111) rfl)) rfl
theorem mw_3_116 : (Cond.lays "java/lang/IllegalArgumentException" "java/lang/Throwable" "depth" "I") ∈ UW := UW_in (lw_i3 (List.mem_of_getElem? (i := 116) rfl)) rfl
theorem mw_3_119 : (Cond.superclass "java/lang/IllegalArgumentException" "java/lang/RuntimeException") ∈ UW := UW_in (lw_i3 (List.mem_of_getElem? (i := 119) rfl)) rfl
theorem mw_3_120 : (Cond.arrayClass .byte) ∈ UW := UW_in (lw_i3 (List.mem_of_getElem? (i := 120) rfl)) rfl
theorem mw_3_121 : (Cond.methodLink "FaultTests" 296 ⟨"FaultTests", "checksumOfWires", "(J)J"⟩) ∈ UW := UW_in (lw_i3 (List.mem_of_getElem? (i := 121) rfl)) rfl
theorem mw_3_123 : (Cond.instanceMethod ⟨"FaultTests", "checksumOfWires", "(J)J"⟩) ∈ UW := UW_in (lw_i3 (List.mem_of_getElem? (i := 123) rfl)) rfl
theorem mw_3_124 : (Cond.code ⟨"FaultTests", "checksumOfWires", "(J)J"⟩ prog_1_method_31_code 7 (some .long)) ∈ UW := UW_in (lw_i3 (List.mem_of_getElem? (i := 124) rfl)) rfl
theorem mw_3_125 : (Cond.methodLink "FaultTests" 303 ⟨"FaultTests", "wire", "(II)I"⟩) ∈ UW := UW_in (lw_i3 (List.mem_of_getElem? (i := 125) rfl)) rfl
theorem mw_3_126 : (Cond.instanceMethod ⟨"FaultTests", "wire", "(II)I"⟩) ∈ UW := UW_in (lw_i3 (List.mem_of_getElem? (i := 126) rfl)) rfl
theorem mw_3_127 : (Cond.selects "FaultTests" ⟨"FaultTests", "wire", "(II)I"⟩ ⟨"FaultTests", "wire", "(II)I"⟩) ∈ UW := UW_in (lw_i3 (List.mem_of_getElem? (i := 127) rfl)) rfl
theorem mw_3_128 : (Cond.code ⟨"FaultTests", "wire", "(II)I"⟩ prog_1_method_6_code 3 (some .int)) ∈ UW := UW_in (lw_i3 (List.mem_of_getElem? (i := 128) rfl)) rfl
theorem mw_3_129 : (Cond.methodLink "FaultTests" 149 ⟨"FaultTests", "checkWire", "(I)V"⟩) ∈ UW := UW_in (lw_i3 (List.mem_of_getElem? (i := 129) rfl)) rfl
theorem mw_3_131 : (Cond.instanceMethod ⟨"FaultTests", "checkWire", "(I)V"⟩) ∈ UW := UW_in (lw_i3 (List.mem_of_getElem? (i := 131) rfl)) rfl
theorem mw_3_132 : (Cond.code ⟨"FaultTests", "checkWire", "(I)V"⟩ prog_1_method_33_code 2 none) ∈ UW := UW_in (lw_i3 (List.mem_of_getElem? (i := 132) rfl)) rfl
theorem mw_3_133 : (Cond.classLink "FaultTests" 265 "java/lang/IndexOutOfBoundsException") ∈ UW := UW_in (lw_i3 (List.mem_of_getElem? (i := 133) rfl)) rfl
theorem mw_3_134 : (Cond.instantiable "java/lang/IndexOutOfBoundsException" 6) ∈ UW := UW_in (lw_i3 (List.mem_of_getElem? (i := 134) rfl)) rfl
theorem mw_3_136 : (Cond.selects "java/lang/IndexOutOfBoundsException" ⟨"java/lang/Throwable", "fillInStackTrace", "(I)Ljava/lang/Throwable;"⟩ ⟨"java/lang/Throwable", "fillInStackTrace", "(I)Ljava/lang/Throwable;"⟩) ∈ UW := UW_in (lw_i3 (List.mem_of_getElem? (i := 136) rfl)) rfl
theorem mw_3_137 : (Cond.lays "java/lang/IndexOutOfBoundsException" "java/lang/Throwable" "cause" "Ljava/lang/Throwable;") ∈ UW := UW_in (lw_i3 (List.mem_of_getElem? (i := 137) rfl)) rfl
theorem mw_3_138 : (Cond.lays "java/lang/IndexOutOfBoundsException" "java/lang/Throwable" "stackTrace" "[Ljava/lang/StackTraceElement;") ∈ UW := UW_in (lw_i3 (List.mem_of_getElem? (i := 138) rfl)) rfl
theorem mw_3_139 : (Cond.lays "java/lang/IndexOutOfBoundsException" "java/lang/Throwable" "suppressedExceptions" "Ljava/util/List;") ∈ UW := UW_in (lw_i3 (List.mem_of_getElem? (i := 139) rfl)) rfl
theorem mw_3_140 : (Cond.lays "java/lang/IndexOutOfBoundsException" "java/lang/Throwable" "detailMessage" "Ljava/lang/String;") ∈ UW := UW_in (lw_i3 (List.mem_of_getElem? (i := 140) rfl)) rfl
theorem mw_3_141 : (Cond.lays "java/lang/IndexOutOfBoundsException" "java/lang/Throwable" "backtrace" "Ljava/lang/Object;") ∈ UW := UW_in (lw_i3 (List.mem_of_getElem? (i := 141) rfl)) rfl
theorem mw_3_143 : (Cond.methodLink "FaultTests" 269 ⟨"java/lang/IndexOutOfBoundsException", "<init>", "(Ljava/lang/String;)V"⟩) ∈ UW := UW_in (lw_i3 (List.mem_of_getElem? (i := 143) rfl)) rfl
theorem mw_3_144 : (Cond.instanceMethod ⟨"java/lang/IndexOutOfBoundsException", "<init>", "(Ljava/lang/String;)V"⟩) ∈ UW := UW_in (lw_i3 (List.mem_of_getElem? (i := 144) rfl)) rfl
theorem mw_3_145 : (Cond.code ⟨"java/lang/IndexOutOfBoundsException", "<init>", "(Ljava/lang/String;)V"⟩ prog_17_method_2_code 2 none) ∈ UW := UW_in (lw_i3 (List.mem_of_getElem? (i := 145) rfl)) rfl
theorem mw_3_146 : (Cond.methodLink "java/lang/IndexOutOfBoundsException" 7 ⟨"java/lang/RuntimeException", "<init>", "(Ljava/lang/String;)V"⟩) ∈ UW := UW_in (lw_i3 (List.mem_of_getElem? (i := 146) rfl)) rfl
theorem mw_3_147 : (Cond.lays "java/lang/IndexOutOfBoundsException" "java/lang/Throwable" "depth" "I") ∈ UW := UW_in (lw_i3 (List.mem_of_getElem? (i := 147) rfl)) rfl
theorem mw_3_148 : (Cond.superclass "java/lang/IndexOutOfBoundsException" "java/lang/RuntimeException") ∈ UW := UW_in (lw_i3 (List.mem_of_getElem? (i := 148) rfl)) rfl
theorem mw_3_149 : (Cond.methodLink "FaultTests" 164 ⟨"FaultTests$Circuit", "outputOf", "(I)I"⟩) ∈ UW := UW_in (lw_i3 (List.mem_of_getElem? (i := 149) rfl)) rfl
theorem mw_3_150 : (Cond.instanceMethod ⟨"FaultTests$Circuit", "outputOf", "(I)I"⟩) ∈ UW := UW_in (lw_i3 (List.mem_of_getElem? (i := 150) rfl)) rfl
theorem mw_3_151 : (Cond.selects "FaultTests$Circuit" ⟨"FaultTests$Circuit", "outputOf", "(I)I"⟩ ⟨"FaultTests$Circuit", "outputOf", "(I)I"⟩) ∈ UW := UW_in (lw_i3 (List.mem_of_getElem? (i := 151) rfl)) rfl
theorem mw_3_152 : (Cond.code ⟨"FaultTests$Circuit", "outputOf", "(I)I"⟩ prog_2_method_15_code 3 (some .int)) ∈ UW := UW_in (lw_i3 (List.mem_of_getElem? (i := 152) rfl)) rfl
theorem mw_3_153 : (Cond.methodLink "FaultTests" 300 ⟨"FaultTests", "checksumOfTests", "(J)J"⟩) ∈ UW := UW_in (lw_i3 (List.mem_of_getElem? (i := 153) rfl)) rfl
theorem mw_3_155 : (Cond.instanceMethod ⟨"FaultTests", "checksumOfTests", "(J)J"⟩) ∈ UW := UW_in (lw_i3 (List.mem_of_getElem? (i := 155) rfl)) rfl
theorem mw_3_156 : (Cond.code ⟨"FaultTests", "checksumOfTests", "(J)J"⟩ prog_1_method_32_code 7 (some .long)) ∈ UW := UW_in (lw_i3 (List.mem_of_getElem? (i := 156) rfl)) rfl
theorem mw_3_157 : (Cond.methodLink "FaultTests" 184 ⟨"FaultTests$Lanes", "lane", "(II)I"⟩) ∈ UW := UW_in (lw_i3 (List.mem_of_getElem? (i := 157) rfl)) rfl
theorem mw_3_158 : (Cond.instanceMethod ⟨"FaultTests$Lanes", "lane", "(II)I"⟩) ∈ UW := UW_in (lw_i3 (List.mem_of_getElem? (i := 158) rfl)) rfl
theorem mw_3_159 : (Cond.selects "FaultTests$Lanes" ⟨"FaultTests$Lanes", "lane", "(II)I"⟩ ⟨"FaultTests$Lanes", "lane", "(II)I"⟩) ∈ UW := UW_in (lw_i3 (List.mem_of_getElem? (i := 159) rfl)) rfl
theorem mw_3_160 : (Cond.code ⟨"FaultTests$Lanes", "lane", "(II)I"⟩ prog_4_method_2_code 3 (some .int)) ∈ UW := UW_in (lw_i3 (List.mem_of_getElem? (i := 160) rfl)) rfl
theorem mw_3_162 : (Cond.methodLink "FaultTests" 306 ⟨"FaultTests$TestList", "noted", "(II)I"⟩) ∈ UW := UW_in (lw_i3 (List.mem_of_getElem? (i := 162) rfl)) rfl
theorem mw_3_163 : (Cond.instanceMethod ⟨"FaultTests$TestList", "noted", "(II)I"⟩) ∈ UW := UW_in (lw_i3 (List.mem_of_getElem? (i := 163) rfl)) rfl
theorem mw_3_164 : (Cond.selects "FaultTests$TestList" ⟨"FaultTests$TestList", "noted", "(II)I"⟩ ⟨"FaultTests$TestList", "noted", "(II)I"⟩) ∈ UW := UW_in (lw_i3 (List.mem_of_getElem? (i := 164) rfl)) rfl
theorem mw_3_165 : (Cond.code ⟨"FaultTests$TestList", "noted", "(II)I"⟩ prog_8_method_10_code 3 (some .int)) ∈ UW := UW_in (lw_i3 (List.mem_of_getElem? (i := 165) rfl)) rfl
theorem mw_3_166 : (Cond.methodLink "FaultTests$TestList" 41 ⟨"FaultTests$Circuit", "hasBit", "(II)Z"⟩) ∈ UW := UW_in (lw_i3 (List.mem_of_getElem? (i := 166) rfl)) rfl
theorem mw_3_167 : (Cond.methodLink "FaultTestsLaw" 81 ⟨"FaultTestsLaw", "load", "(LFaultTests;I[J)I"⟩) ∈ UW := UW_in (lw_i3 (List.mem_of_getElem? (i := 167) rfl)) rfl
theorem mw_3_168 : (Cond.static ⟨"FaultTestsLaw", "load", "(LFaultTests;I[J)I"⟩) ∈ UW := UW_in (lw_i3 (List.mem_of_getElem? (i := 168) rfl)) rfl
theorem mw_3_169 : (Cond.codeWith ⟨"FaultTestsLaw", "load", "(LFaultTests;I[J)I"⟩ method_3_code 4 (some .int) [(0, 9, 12, 13)]) ∈ UW := UW_in (lw_i3 (List.mem_of_getElem? (i := 169) rfl)) rfl
theorem mw_3_170 : (Cond.classLink "FaultTestsLaw" 13 "java/lang/IllegalArgumentException") ∈ UW := UW_in (lw_i3 (List.mem_of_getElem? (i := 170) rfl)) rfl
theorem mw_3_171 : (Cond.methodLink "FaultTestsLaw" 7 ⟨"FaultTests", "load", "(I)I"⟩) ∈ UW := UW_in (lw_i3 (List.mem_of_getElem? (i := 171) rfl)) rfl
theorem mw_3_172 : (Cond.instanceMethod ⟨"FaultTests", "load", "(I)I"⟩) ∈ UW := UW_in (lw_i3 (List.mem_of_getElem? (i := 172) rfl)) rfl
theorem mw_3_173 : (Cond.selects "FaultTests" ⟨"FaultTests", "load", "(I)I"⟩ ⟨"FaultTests", "load", "(I)I"⟩) ∈ UW := UW_in (lw_i3 (List.mem_of_getElem? (i := 173) rfl)) rfl
theorem mw_3_174 : (Cond.code ⟨"FaultTests", "load", "(I)I"⟩ prog_1_method_3_code 3 (some .int)) ∈ UW := UW_in (lw_i3 (List.mem_of_getElem? (i := 174) rfl)) rfl
theorem mw_3_176 : (Cond.methodLink "FaultTests" 80 ⟨"FaultTests$SetupReader", "read", "(I)I"⟩) ∈ UW := UW_in (lw_i3 (List.mem_of_getElem? (i := 176) rfl)) rfl
theorem mw_3_177 : (Cond.instanceMethod ⟨"FaultTests$SetupReader", "read", "(I)I"⟩) ∈ UW := UW_in (lw_i3 (List.mem_of_getElem? (i := 177) rfl)) rfl
theorem mw_3_178 : (Cond.selects "FaultTests$SetupReader" ⟨"FaultTests$SetupReader", "read", "(I)I"⟩ ⟨"FaultTests$SetupReader", "read", "(I)I"⟩) ∈ UW := UW_in (lw_i3 (List.mem_of_getElem? (i := 178) rfl)) rfl
theorem mw_3_179 : (Cond.code ⟨"FaultTests$SetupReader", "read", "(I)I"⟩ prog_7_method_3_code 4 (some .int)) ∈ UW := UW_in (lw_i3 (List.mem_of_getElem? (i := 179) rfl)) rfl
theorem mw_3_180 : (Cond.methodLink "FaultTests$SetupReader" 47 ⟨"java/lang/Math", "min", "(II)I"⟩) ∈ UW := UW_in (lw_i3 (List.mem_of_getElem? (i := 180) rfl)) rfl
theorem mw_3_181 : (Cond.methodLink "FaultTests$SetupReader" 53 ⟨"FaultTests$Setup", "clear", "(I)V"⟩) ∈ UW := UW_in (lw_i3 (List.mem_of_getElem? (i := 181) rfl)) rfl
theorem mw_3_182 : (Cond.instanceMethod ⟨"FaultTests$Setup", "clear", "(I)V"⟩) ∈ UW := UW_in (lw_i3 (List.mem_of_getElem? (i := 182) rfl)) rfl
theorem mw_3_183 : (Cond.selects "FaultTests$Setup" ⟨"FaultTests$Setup", "clear", "(I)V"⟩ ⟨"FaultTests$Setup", "clear", "(I)V"⟩) ∈ UW := UW_in (lw_i3 (List.mem_of_getElem? (i := 183) rfl)) rfl
theorem mw_3_184 : (Cond.code ⟨"FaultTests$Setup", "clear", "(I)V"⟩ prog_6_method_2_code 2 none) ∈ UW := UW_in (lw_i3 (List.mem_of_getElem? (i := 184) rfl)) rfl
theorem mw_3_185 : (Cond.methodLink "FaultTests$Setup" 23 ⟨"FaultTests$Circuit", "clear", "(I)V"⟩) ∈ UW := UW_in (lw_i3 (List.mem_of_getElem? (i := 185) rfl)) rfl
theorem mw_3_186 : (Cond.methodLink "FaultTests$Setup" 27 ⟨"FaultTests$TestList", "clear", "()V"⟩) ∈ UW := UW_in (lw_i3 (List.mem_of_getElem? (i := 186) rfl)) rfl
theorem mw_3_187 : (Cond.instanceMethod ⟨"FaultTests$TestList", "clear", "()V"⟩) ∈ UW := UW_in (lw_i3 (List.mem_of_getElem? (i := 187) rfl)) rfl
theorem mw_3_188 : (Cond.selects "FaultTests$TestList" ⟨"FaultTests$TestList", "clear", "()V"⟩ ⟨"FaultTests$TestList", "clear", "()V"⟩) ∈ UW := UW_in (lw_i3 (List.mem_of_getElem? (i := 188) rfl)) rfl
theorem mw_3_189 : (Cond.code ⟨"FaultTests$TestList", "clear", "()V"⟩ prog_8_method_2_code 1 none) ∈ UW := UW_in (lw_i3 (List.mem_of_getElem? (i := 189) rfl)) rfl
theorem mw_3_190 : (Cond.methodLink "FaultTests$TestList" 28 ⟨"FaultTests$TestList", "clearSeen", "()V"⟩) ∈ UW := UW_in (lw_i3 (List.mem_of_getElem? (i := 190) rfl)) rfl
theorem mw_3_191 : (Cond.methodLink "FaultTests$SetupReader" 57 ⟨"FaultTests$SetupReader", "advance", "()V"⟩) ∈ UW := UW_in (lw_i3 (List.mem_of_getElem? (i := 191) rfl)) rfl
theorem mw_3_193 : (Cond.instanceMethod ⟨"FaultTests$SetupReader", "advance", "()V"⟩) ∈ UW := UW_in (lw_i3 (List.mem_of_getElem? (i := 193) rfl)) rfl
theorem mw_3_194 : (Cond.code ⟨"FaultTests$SetupReader", "advance", "()V"⟩ prog_7_method_15_code 1 none) ∈ UW := UW_in (lw_i3 (List.mem_of_getElem? (i := 194) rfl)) rfl
theorem mw_3_195 : (Cond.methodLink "FaultTests$SetupReader" 199 ⟨"FaultTests$SetupReader", "isDigit", "(I)Z"⟩) ∈ UW := UW_in (lw_i3 (List.mem_of_getElem? (i := 195) rfl)) rfl
theorem mw_3_196 : (Cond.static ⟨"FaultTests$SetupReader", "isDigit", "(I)Z"⟩) ∈ UW := UW_in (lw_i3 (List.mem_of_getElem? (i := 196) rfl)) rfl
theorem mw_3_197 : (Cond.code ⟨"FaultTests$SetupReader", "isDigit", "(I)Z"⟩ prog_7_method_16_code 1 (some .boolean)) ∈ UW := UW_in (lw_i3 (List.mem_of_getElem? (i := 197) rfl)) rfl
theorem mw_3_198 : (Cond.constant "FaultTests$SetupReader" 202 (100000 : Int32)) ∈ UW := UW_in (lw_i3 (List.mem_of_getElem? (i := 198) rfl)) rfl
theorem mw_3_199 : (Cond.methodLink "FaultTests$SetupReader" 203 ⟨"FaultTests$SetupReader", "isLetter", "(I)Z"⟩) ∈ UW := UW_in (lw_i3 (List.mem_of_getElem? (i := 199) rfl)) rfl
theorem mw_3_200 : (Cond.static ⟨"FaultTests$SetupReader", "isLetter", "(I)Z"⟩) ∈ UW := UW_in (lw_i3 (List.mem_of_getElem? (i := 200) rfl)) rfl
theorem mw_3_201 : (Cond.code ⟨"FaultTests$SetupReader", "isLetter", "(I)Z"⟩ prog_7_method_17_code 1 (some .boolean)) ∈ UW := UW_in (lw_i3 (List.mem_of_getElem? (i := 201) rfl)) rfl
theorem mw_3_202 : (Cond.methodLink "FaultTests$SetupReader" 60 ⟨"FaultTests$SetupReader", "readCircuit", "()Z"⟩) ∈ UW := UW_in (lw_i3 (List.mem_of_getElem? (i := 202) rfl)) rfl
theorem mw_3_204 : (Cond.instanceMethod ⟨"FaultTests$SetupReader", "readCircuit", "()Z"⟩) ∈ UW := UW_in (lw_i3 (List.mem_of_getElem? (i := 204) rfl)) rfl
theorem mw_3_205 : (Cond.code ⟨"FaultTests$SetupReader", "readCircuit", "()Z"⟩ prog_7_method_5_code 1 (some .boolean)) ∈ UW := UW_in (lw_i3 (List.mem_of_getElem? (i := 205) rfl)) rfl
theorem mw_3_207 : (Cond.methodLink "FaultTests$SetupReader" 69 ⟨"FaultTests$SetupReader", "isWord", "(Ljava/lang/String;)Z"⟩) ∈ UW := UW_in (lw_i3 (List.mem_of_getElem? (i := 207) rfl)) rfl
theorem mw_3_209 : (Cond.instanceMethod ⟨"FaultTests$SetupReader", "isWord", "(Ljava/lang/String;)Z"⟩) ∈ UW := UW_in (lw_i3 (List.mem_of_getElem? (i := 209) rfl)) rfl
theorem mw_3_210 : (Cond.code ⟨"FaultTests$SetupReader", "isWord", "(Ljava/lang/String;)Z"⟩ prog_7_method_14_code 3 (some .boolean)) ∈ UW := UW_in (lw_i3 (List.mem_of_getElem? (i := 210) rfl)) rfl
theorem mw_3_211 : (Cond.methodLink "FaultTests$SetupReader" 190 ⟨"java/lang/String", "length", "()I"⟩) ∈ UW := UW_in (lw_i3 (List.mem_of_getElem? (i := 211) rfl)) rfl
theorem mw_3_212 : (Cond.instanceMethod ⟨"java/lang/String", "length", "()I"⟩) ∈ UW := UW_in (lw_i3 (List.mem_of_getElem? (i := 212) rfl)) rfl
theorem mw_3_213 : (Cond.selects "java/lang/String" ⟨"java/lang/String", "length", "()I"⟩ ⟨"java/lang/String", "length", "()I"⟩) ∈ UW := UW_in (lw_i3 (List.mem_of_getElem? (i := 213) rfl)) rfl
theorem mw_3_214 : (Cond.code ⟨"java/lang/String", "length", "()I"⟩ prog_22_method_54_code 1 (some .int)) ∈ UW := UW_in (lw_i3 (List.mem_of_getElem? (i := 214) rfl)) rfl
theorem mw_3_215 : (Cond.methodLink "java/lang/String" 335 ⟨"java/lang/String", "coder", "()B"⟩) ∈ UW := UW_in (lw_i3 (List.mem_of_getElem? (i := 215) rfl)) rfl
theorem mw_3_216 : (Cond.instanceMethod ⟨"java/lang/String", "coder", "()B"⟩) ∈ UW := UW_in (lw_i3 (List.mem_of_getElem? (i := 216) rfl)) rfl
theorem mw_3_217 : (Cond.selects "java/lang/String" ⟨"java/lang/String", "coder", "()B"⟩ ⟨"java/lang/String", "coder", "()B"⟩) ∈ UW := UW_in (lw_i3 (List.mem_of_getElem? (i := 217) rfl)) rfl
theorem mw_3_218 : (Cond.code ⟨"java/lang/String", "coder", "()B"⟩ prog_22_method_152_code 1 (some .byte)) ∈ UW := UW_in (lw_i3 (List.mem_of_getElem? (i := 218) rfl)) rfl
theorem mw_3_219 : (Cond.fieldLink "java/lang/String" 38 "java/lang/String" "COMPACT_STRINGS" "Z") ∈ UW := UW_in (lw_i3 (List.mem_of_getElem? (i := 219) rfl)) rfl
theorem mw_3_221 : (Cond.methodLink "FaultTests$SetupReader" 195 ⟨"java/lang/String", "charAt", "(I)C"⟩) ∈ UW := UW_in (lw_i3 (List.mem_of_getElem? (i := 221) rfl)) rfl
theorem mw_3_222 : (Cond.instanceMethod ⟨"java/lang/String", "charAt", "(I)C"⟩) ∈ UW := UW_in (lw_i3 (List.mem_of_getElem? (i := 222) rfl)) rfl
theorem mw_3_223 : (Cond.selects "java/lang/String" ⟨"java/lang/String", "charAt", "(I)C"⟩ ⟨"java/lang/String", "charAt", "(I)C"⟩) ∈ UW := UW_in (lw_i3 (List.mem_of_getElem? (i := 223) rfl)) rfl
theorem mw_3_224 : (Cond.code ⟨"java/lang/String", "charAt", "(I)C"⟩ prog_22_method_56_code 2 (some .char)) ∈ UW := UW_in (lw_i3 (List.mem_of_getElem? (i := 224) rfl)) rfl
theorem mw_3_225 : (Cond.methodLink "java/lang/String" 492 ⟨"java/lang/String", "isLatin1", "()Z"⟩) ∈ UW := UW_in (lw_i3 (List.mem_of_getElem? (i := 225) rfl)) rfl
theorem mw_3_226 : (Cond.instanceMethod ⟨"java/lang/String", "isLatin1", "()Z"⟩) ∈ UW := UW_in (lw_i3 (List.mem_of_getElem? (i := 226) rfl)) rfl
theorem mw_3_227 : (Cond.selects "java/lang/String" ⟨"java/lang/String", "isLatin1", "()Z"⟩ ⟨"java/lang/String", "isLatin1", "()Z"⟩) ∈ UW := UW_in (lw_i3 (List.mem_of_getElem? (i := 227) rfl)) rfl
theorem mw_3_228 : (Cond.code ⟨"java/lang/String", "isLatin1", "()Z"⟩ prog_22_method_154_code 1 (some .boolean)) ∈ UW := UW_in (lw_i3 (List.mem_of_getElem? (i := 228) rfl)) rfl
theorem mw_3_229 : (Cond.methodLink "java/lang/String" 495 ⟨"java/lang/StringLatin1", "charAt", "([BI)C"⟩) ∈ UW := UW_in (lw_i3 (List.mem_of_getElem? (i := 229) rfl)) rfl
theorem mw_3_230 : (Cond.static ⟨"java/lang/StringLatin1", "charAt", "([BI)C"⟩) ∈ UW := UW_in (lw_i3 (List.mem_of_getElem? (i := 230) rfl)) rfl
theorem mw_3_231 : (Cond.code ⟨"java/lang/StringLatin1", "charAt", "([BI)C"⟩ prog_23_method_2_code 2 (some .char)) ∈ UW := UW_in (lw_i3 (List.mem_of_getElem? (i := 231) rfl)) rfl
theorem mw_3_232 : (Cond.methodLink "java/lang/StringLatin1" 9 ⟨"java/lang/String", "checkIndex", "(II)V"⟩) ∈ UW := UW_in (lw_i3 (List.mem_of_getElem? (i := 232) rfl)) rfl
theorem mw_3_233 : (Cond.static ⟨"java/lang/String", "checkIndex", "(II)V"⟩) ∈ UW := UW_in (lw_i3 (List.mem_of_getElem? (i := 233) rfl)) rfl
theorem mw_3_234 : (Cond.code ⟨"java/lang/String", "checkIndex", "(II)V"⟩ prog_22_method_155_code 2 none) ∈ UW := UW_in (lw_i3 (List.mem_of_getElem? (i := 234) rfl)) rfl
theorem mw_3_235 : (Cond.fieldLink "java/lang/String" 1053 "jdk/internal/util/Preconditions" "SIOOBE_FORMATTER" "Ljava/util/function/BiFunction;") ∈ UW := UW_in (lw_i3 (List.mem_of_getElem? (i := 235) rfl)) rfl
theorem mw_3_237 : (Cond.methodLink "java/lang/String" 1059 ⟨"jdk/internal/util/Preconditions", "checkIndex", "(IILjava/util/function/BiFunction;)I"⟩) ∈ UW := UW_in (lw_i3 (List.mem_of_getElem? (i := 237) rfl)) rfl
theorem mw_3_238 : (Cond.static ⟨"jdk/internal/util/Preconditions", "checkIndex", "(IILjava/util/function/BiFunction;)I"⟩) ∈ UW := UW_in (lw_i3 (List.mem_of_getElem? (i := 238) rfl)) rfl
theorem mw_3_239 : (Cond.code ⟨"jdk/internal/util/Preconditions", "checkIndex", "(IILjava/util/function/BiFunction;)I"⟩ prog_30_method_11_code 3 (some .int)) ∈ UW := UW_in (lw_i3 (List.mem_of_getElem? (i := 239) rfl)) rfl
theorem mw_4_0 : (Cond.methodLink "java/lang/String" 498 ⟨"java/lang/StringUTF16", "charAt", "([BI)C"⟩) ∈ UW := UW_in (lw_i4 (List.mem_of_getElem? (i := 0) rfl)) rfl
theorem mw_4_1 : (Cond.static ⟨"java/lang/StringUTF16", "charAt", "([BI)C"⟩) ∈ UW := UW_in (lw_i4 (List.mem_of_getElem? (i := 1) rfl)) rfl
theorem mw_4_2 : (Cond.code ⟨"java/lang/StringUTF16", "charAt", "([BI)C"⟩ prog_24_method_83_code 2 (some .char)) ∈ UW := UW_in (lw_i4 (List.mem_of_getElem? (i := 2) rfl)) rfl
theorem mw_4_3 : (Cond.methodLink "java/lang/StringUTF16" 67 ⟨"java/lang/StringUTF16", "checkIndex", "(I[B)V"⟩) ∈ UW := UW_in (lw_i4 (List.mem_of_getElem? (i := 3) rfl)) rfl
theorem mw_4_4 : (Cond.static ⟨"java/lang/StringUTF16", "checkIndex", "(I[B)V"⟩) ∈ UW := UW_in (lw_i4 (List.mem_of_getElem? (i := 4) rfl)) rfl
theorem mw_4_5 : (Cond.code ⟨"java/lang/StringUTF16", "checkIndex", "(I[B)V"⟩ prog_24_method_91_code 2 none) ∈ UW := UW_in (lw_i4 (List.mem_of_getElem? (i := 5) rfl)) rfl
theorem mw_4_6 : (Cond.methodLink "java/lang/StringUTF16" 48 ⟨"java/lang/StringUTF16", "length", "([B)I"⟩) ∈ UW := UW_in (lw_i4 (List.mem_of_getElem? (i := 6) rfl)) rfl
theorem mw_4_7 : (Cond.static ⟨"java/lang/StringUTF16", "length", "([B)I"⟩) ∈ UW := UW_in (lw_i4 (List.mem_of_getElem? (i := 7) rfl)) rfl
theorem mw_4_8 : (Cond.code ⟨"java/lang/StringUTF16", "length", "([B)I"⟩ prog_24_method_6_code 1 (some .int)) ∈ UW := UW_in (lw_i4 (List.mem_of_getElem? (i := 8) rfl)) rfl
theorem mw_4_9 : (Cond.methodLink "java/lang/StringUTF16" 414 ⟨"java/lang/String", "checkIndex", "(II)V"⟩) ∈ UW := UW_in (lw_i4 (List.mem_of_getElem? (i := 9) rfl)) rfl
theorem mw_4_10 : (Cond.methodLink "java/lang/StringUTF16" 71 ⟨"java/lang/StringUTF16", "getChar", "([BI)C"⟩) ∈ UW := UW_in (lw_i4 (List.mem_of_getElem? (i := 10) rfl)) rfl
theorem mw_4_11 : (Cond.static ⟨"java/lang/StringUTF16", "getChar", "([BI)C"⟩) ∈ UW := UW_in (lw_i4 (List.mem_of_getElem? (i := 11) rfl)) rfl
theorem mw_4_12 : (Cond.code ⟨"java/lang/StringUTF16", "getChar", "([BI)C"⟩ prog_24_method_5_code 2 (some .char)) ∈ UW := UW_in (lw_i4 (List.mem_of_getElem? (i := 12) rfl)) rfl
theorem mw_4_13 : (Cond.fieldLink "java/lang/StringUTF16" 44 "java/lang/StringUTF16" "$assertionsDisabled" "Z") ∈ UW := UW_in (lw_i4 (List.mem_of_getElem? (i := 13) rfl)) rfl
theorem mw_4_15 : (Cond.fieldLink "java/lang/StringUTF16" 59 "java/lang/StringUTF16" "HI_BYTE_SHIFT" "I") ∈ UW := UW_in (lw_i4 (List.mem_of_getElem? (i := 15) rfl)) rfl
theorem mw_4_17 : (Cond.fieldLink "java/lang/StringUTF16" 63 "java/lang/StringUTF16" "LO_BYTE_SHIFT" "I") ∈ UW := UW_in (lw_i4 (List.mem_of_getElem? (i := 17) rfl)) rfl
theorem mw_4_19 : (Cond.methodLink "FaultTests$SetupReader" 73 ⟨"FaultTests$SetupReader", "fail", "(I)Z"⟩) ∈ UW := UW_in (lw_i4 (List.mem_of_getElem? (i := 19) rfl)) rfl
theorem mw_4_21 : (Cond.instanceMethod ⟨"FaultTests$SetupReader", "fail", "(I)Z"⟩) ∈ UW := UW_in (lw_i4 (List.mem_of_getElem? (i := 21) rfl)) rfl
theorem mw_4_22 : (Cond.code ⟨"FaultTests$SetupReader", "fail", "(I)Z"⟩ prog_7_method_4_code 2 (some .boolean)) ∈ UW := UW_in (lw_i4 (List.mem_of_getElem? (i := 22) rfl)) rfl
theorem mw_4_23 : (Cond.methodLink "FaultTests$SetupReader" 77 ⟨"FaultTests$SetupReader", "readSemicolon", "()Z"⟩) ∈ UW := UW_in (lw_i4 (List.mem_of_getElem? (i := 23) rfl)) rfl
theorem mw_4_25 : (Cond.instanceMethod ⟨"FaultTests$SetupReader", "readSemicolon", "()Z"⟩) ∈ UW := UW_in (lw_i4 (List.mem_of_getElem? (i := 25) rfl)) rfl
theorem mw_4_26 : (Cond.code ⟨"FaultTests$SetupReader", "readSemicolon", "()Z"⟩ prog_7_method_7_code 1 (some .boolean)) ∈ UW := UW_in (lw_i4 (List.mem_of_getElem? (i := 26) rfl)) rfl
theorem mw_4_27 : (Cond.methodLink "FaultTests$SetupReader" 64 ⟨"FaultTests$SetupReader", "readStatement", "()Z"⟩) ∈ UW := UW_in (lw_i4 (List.mem_of_getElem? (i := 27) rfl)) rfl
theorem mw_4_29 : (Cond.instanceMethod ⟨"FaultTests$SetupReader", "readStatement", "()Z"⟩) ∈ UW := UW_in (lw_i4 (List.mem_of_getElem? (i := 29) rfl)) rfl
theorem mw_4_30 : (Cond.code ⟨"FaultTests$SetupReader", "readStatement", "()Z"⟩ prog_7_method_6_code 1 (some .boolean)) ∈ UW := UW_in (lw_i4 (List.mem_of_getElem? (i := 30) rfl)) rfl
theorem mw_4_32 : (Cond.methodLink "FaultTests$SetupReader" 82 ⟨"FaultTests$SetupReader", "readGate", "()Z"⟩) ∈ UW := UW_in (lw_i4 (List.mem_of_getElem? (i := 32) rfl)) rfl
theorem mw_4_34 : (Cond.instanceMethod ⟨"FaultTests$SetupReader", "readGate", "()Z"⟩) ∈ UW := UW_in (lw_i4 (List.mem_of_getElem? (i := 34) rfl)) rfl
theorem mw_4_35 : (Cond.code ⟨"FaultTests$SetupReader", "readGate", "()Z"⟩ prog_7_method_8_code 5 (some .boolean)) ∈ UW := UW_in (lw_i4 (List.mem_of_getElem? (i := 35) rfl)) rfl
theorem mw_4_36 : (Cond.methodLink "FaultTests$SetupReader" 103 ⟨"FaultTests$Circuit", "isFullOfGates", "()Z"⟩) ∈ UW := UW_in (lw_i4 (List.mem_of_getElem? (i := 36) rfl)) rfl
theorem mw_4_37 : (Cond.instanceMethod ⟨"FaultTests$Circuit", "isFullOfGates", "()Z"⟩) ∈ UW := UW_in (lw_i4 (List.mem_of_getElem? (i := 37) rfl)) rfl
theorem mw_4_38 : (Cond.selects "FaultTests$Circuit" ⟨"FaultTests$Circuit", "isFullOfGates", "()Z"⟩ ⟨"FaultTests$Circuit", "isFullOfGates", "()Z"⟩) ∈ UW := UW_in (lw_i4 (List.mem_of_getElem? (i := 38) rfl)) rfl
theorem mw_4_39 : (Cond.code ⟨"FaultTests$Circuit", "isFullOfGates", "()Z"⟩ prog_2_method_4_code 1 (some .boolean)) ∈ UW := UW_in (lw_i4 (List.mem_of_getElem? (i := 39) rfl)) rfl
theorem mw_4_40 : (Cond.methodLink "FaultTests$SetupReader" 108 ⟨"FaultTests$SetupReader", "kindOfWord", "()I"⟩) ∈ UW := UW_in (lw_i4 (List.mem_of_getElem? (i := 40) rfl)) rfl
theorem mw_4_42 : (Cond.instanceMethod ⟨"FaultTests$SetupReader", "kindOfWord", "()I"⟩) ∈ UW := UW_in (lw_i4 (List.mem_of_getElem? (i := 42) rfl)) rfl
theorem mw_4_43 : (Cond.code ⟨"FaultTests$SetupReader", "kindOfWord", "()I"⟩ prog_7_method_13_code 1 (some .int)) ∈ UW := UW_in (lw_i4 (List.mem_of_getElem? (i := 43) rfl)) rfl
theorem mw_4_53 : (Cond.methodLink "FaultTests$SetupReader" 112 ⟨"FaultTests$Circuit", "startGate", "(I)V"⟩) ∈ UW := UW_in (lw_i4 (List.mem_of_getElem? (i := 53) rfl)) rfl
theorem mw_4_54 : (Cond.instanceMethod ⟨"FaultTests$Circuit", "startGate", "(I)V"⟩) ∈ UW := UW_in (lw_i4 (List.mem_of_getElem? (i := 54) rfl)) rfl
theorem mw_4_55 : (Cond.selects "FaultTests$Circuit" ⟨"FaultTests$Circuit", "startGate", "(I)V"⟩ ⟨"FaultTests$Circuit", "startGate", "(I)V"⟩) ∈ UW := UW_in (lw_i4 (List.mem_of_getElem? (i := 55) rfl)) rfl
theorem mw_4_56 : (Cond.code ⟨"FaultTests$Circuit", "startGate", "(I)V"⟩ prog_2_method_7_code 2 none) ∈ UW := UW_in (lw_i4 (List.mem_of_getElem? (i := 56) rfl)) rfl
theorem mw_4_59 : (Cond.methodLink "FaultTests$SetupReader" 121 ⟨"FaultTests$Circuit", "putOperand", "(I)V"⟩) ∈ UW := UW_in (lw_i4 (List.mem_of_getElem? (i := 59) rfl)) rfl
theorem mw_4_60 : (Cond.instanceMethod ⟨"FaultTests$Circuit", "putOperand", "(I)V"⟩) ∈ UW := UW_in (lw_i4 (List.mem_of_getElem? (i := 60) rfl)) rfl
theorem mw_4_61 : (Cond.selects "FaultTests$Circuit" ⟨"FaultTests$Circuit", "putOperand", "(I)V"⟩ ⟨"FaultTests$Circuit", "putOperand", "(I)V"⟩) ∈ UW := UW_in (lw_i4 (List.mem_of_getElem? (i := 61) rfl)) rfl
theorem mw_4_62 : (Cond.code ⟨"FaultTests$Circuit", "putOperand", "(I)V"⟩ prog_2_method_8_code 2 none) ∈ UW := UW_in (lw_i4 (List.mem_of_getElem? (i := 62) rfl)) rfl
theorem mw_4_65 : (Cond.methodLink "FaultTests$SetupReader" 127 ⟨"FaultTests$Circuit", "endGate", "()V"⟩) ∈ UW := UW_in (lw_i4 (List.mem_of_getElem? (i := 65) rfl)) rfl
theorem mw_4_66 : (Cond.instanceMethod ⟨"FaultTests$Circuit", "endGate", "()V"⟩) ∈ UW := UW_in (lw_i4 (List.mem_of_getElem? (i := 66) rfl)) rfl
theorem mw_4_67 : (Cond.selects "FaultTests$Circuit" ⟨"FaultTests$Circuit", "endGate", "()V"⟩ ⟨"FaultTests$Circuit", "endGate", "()V"⟩) ∈ UW := UW_in (lw_i4 (List.mem_of_getElem? (i := 67) rfl)) rfl
theorem mw_4_68 : (Cond.code ⟨"FaultTests$Circuit", "endGate", "()V"⟩ prog_2_method_9_code 4 none) ∈ UW := UW_in (lw_i4 (List.mem_of_getElem? (i := 68) rfl)) rfl
theorem mw_4_70 : (Cond.methodLink "FaultTests$SetupReader" 87 ⟨"FaultTests$SetupReader", "readOutputs", "()Z"⟩) ∈ UW := UW_in (lw_i4 (List.mem_of_getElem? (i := 70) rfl)) rfl
theorem mw_4_72 : (Cond.instanceMethod ⟨"FaultTests$SetupReader", "readOutputs", "()Z"⟩) ∈ UW := UW_in (lw_i4 (List.mem_of_getElem? (i := 72) rfl)) rfl
theorem mw_4_73 : (Cond.code ⟨"FaultTests$SetupReader", "readOutputs", "()Z"⟩ prog_7_method_9_code 3 (some .boolean)) ∈ UW := UW_in (lw_i4 (List.mem_of_getElem? (i := 73) rfl)) rfl
theorem mw_4_74 : (Cond.methodLink "FaultTests$SetupReader" 130 ⟨"FaultTests$Circuit", "outputOf", "(I)I"⟩) ∈ UW := UW_in (lw_i4 (List.mem_of_getElem? (i := 74) rfl)) rfl
theorem mw_4_75 : (Cond.methodLink "FaultTests$SetupReader" 134 ⟨"FaultTests$Circuit", "isFullOfOutputs", "()Z"⟩) ∈ UW := UW_in (lw_i4 (List.mem_of_getElem? (i := 75) rfl)) rfl
theorem mw_4_76 : (Cond.instanceMethod ⟨"FaultTests$Circuit", "isFullOfOutputs", "()Z"⟩) ∈ UW := UW_in (lw_i4 (List.mem_of_getElem? (i := 76) rfl)) rfl
theorem mw_4_77 : (Cond.selects "FaultTests$Circuit" ⟨"FaultTests$Circuit", "isFullOfOutputs", "()Z"⟩ ⟨"FaultTests$Circuit", "isFullOfOutputs", "()Z"⟩) ∈ UW := UW_in (lw_i4 (List.mem_of_getElem? (i := 77) rfl)) rfl
theorem mw_4_78 : (Cond.code ⟨"FaultTests$Circuit", "isFullOfOutputs", "()Z"⟩ prog_2_method_5_code 1 (some .boolean)) ∈ UW := UW_in (lw_i4 (List.mem_of_getElem? (i := 78) rfl)) rfl
theorem mw_4_79 : (Cond.methodLink "FaultTests$SetupReader" 137 ⟨"FaultTests$Circuit", "putOutput", "(I)V"⟩) ∈ UW := UW_in (lw_i4 (List.mem_of_getElem? (i := 79) rfl)) rfl
theorem mw_4_80 : (Cond.instanceMethod ⟨"FaultTests$Circuit", "putOutput", "(I)V"⟩) ∈ UW := UW_in (lw_i4 (List.mem_of_getElem? (i := 80) rfl)) rfl
theorem mw_4_81 : (Cond.selects "FaultTests$Circuit" ⟨"FaultTests$Circuit", "putOutput", "(I)V"⟩ ⟨"FaultTests$Circuit", "putOutput", "(I)V"⟩) ∈ UW := UW_in (lw_i4 (List.mem_of_getElem? (i := 81) rfl)) rfl
theorem mw_4_82 : (Cond.code ⟨"FaultTests$Circuit", "putOutput", "(I)V"⟩ prog_2_method_10_code 2 none) ∈ UW := UW_in (lw_i4 (List.mem_of_getElem? (i := 82) rfl)) rfl
theorem mw_4_84 : (Cond.methodLink "FaultTests$SetupReader" 92 ⟨"FaultTests$SetupReader", "readBridge", "()Z"⟩) ∈ UW := UW_in (lw_i4 (List.mem_of_getElem? (i := 84) rfl)) rfl
theorem mw_4_86 : (Cond.instanceMethod ⟨"FaultTests$SetupReader", "readBridge", "()Z"⟩) ∈ UW := UW_in (lw_i4 (List.mem_of_getElem? (i := 86) rfl)) rfl
theorem mw_4_87 : (Cond.code ⟨"FaultTests$SetupReader", "readBridge", "()Z"⟩ prog_7_method_10_code 4 (some .boolean)) ∈ UW := UW_in (lw_i4 (List.mem_of_getElem? (i := 87) rfl)) rfl
theorem mw_4_88 : (Cond.methodLink "FaultTests$SetupReader" 140 ⟨"FaultTests$Circuit", "isFullOfBridges", "()Z"⟩) ∈ UW := UW_in (lw_i4 (List.mem_of_getElem? (i := 88) rfl)) rfl
theorem mw_4_89 : (Cond.instanceMethod ⟨"FaultTests$Circuit", "isFullOfBridges", "()Z"⟩) ∈ UW := UW_in (lw_i4 (List.mem_of_getElem? (i := 89) rfl)) rfl
theorem mw_4_90 : (Cond.selects "FaultTests$Circuit" ⟨"FaultTests$Circuit", "isFullOfBridges", "()Z"⟩ ⟨"FaultTests$Circuit", "isFullOfBridges", "()Z"⟩) ∈ UW := UW_in (lw_i4 (List.mem_of_getElem? (i := 90) rfl)) rfl
theorem mw_4_91 : (Cond.code ⟨"FaultTests$Circuit", "isFullOfBridges", "()Z"⟩ prog_2_method_6_code 1 (some .boolean)) ∈ UW := UW_in (lw_i4 (List.mem_of_getElem? (i := 91) rfl)) rfl
theorem mw_4_92 : (Cond.methodLink "FaultTests$SetupReader" 143 ⟨"FaultTests$SetupReader", "isKnownWire", "()Z"⟩) ∈ UW := UW_in (lw_i4 (List.mem_of_getElem? (i := 92) rfl)) rfl
theorem mw_4_94 : (Cond.instanceMethod ⟨"FaultTests$SetupReader", "isKnownWire", "()Z"⟩) ∈ UW := UW_in (lw_i4 (List.mem_of_getElem? (i := 94) rfl)) rfl
theorem mw_4_95 : (Cond.code ⟨"FaultTests$SetupReader", "isKnownWire", "()Z"⟩ prog_7_method_11_code 1 (some .boolean)) ∈ UW := UW_in (lw_i4 (List.mem_of_getElem? (i := 95) rfl)) rfl
theorem mw_4_96 : (Cond.methodLink "FaultTests$SetupReader" 146 ⟨"FaultTests$Circuit", "wouldLoop", "(II)Z"⟩) ∈ UW := UW_in (lw_i4 (List.mem_of_getElem? (i := 96) rfl)) rfl
theorem mw_4_97 : (Cond.instanceMethod ⟨"FaultTests$Circuit", "wouldLoop", "(II)Z"⟩) ∈ UW := UW_in (lw_i4 (List.mem_of_getElem? (i := 97) rfl)) rfl
theorem mw_4_98 : (Cond.selects "FaultTests$Circuit" ⟨"FaultTests$Circuit", "wouldLoop", "(II)Z"⟩ ⟨"FaultTests$Circuit", "wouldLoop", "(II)Z"⟩) ∈ UW := UW_in (lw_i4 (List.mem_of_getElem? (i := 98) rfl)) rfl
theorem mw_4_99 : (Cond.code ⟨"FaultTests$Circuit", "wouldLoop", "(II)Z"⟩ prog_2_method_12_code 3 (some .boolean)) ∈ UW := UW_in (lw_i4 (List.mem_of_getElem? (i := 99) rfl)) rfl
theorem mw_4_100 : (Cond.methodLink "FaultTests$Circuit" 71 ⟨"FaultTests$Circuit", "hasBit", "(II)Z"⟩) ∈ UW := UW_in (lw_i4 (List.mem_of_getElem? (i := 100) rfl)) rfl
theorem mw_4_101 : (Cond.methodLink "FaultTests$SetupReader" 150 ⟨"FaultTests$Circuit", "putBridge", "(III)V"⟩) ∈ UW := UW_in (lw_i4 (List.mem_of_getElem? (i := 101) rfl)) rfl
theorem mw_4_102 : (Cond.instanceMethod ⟨"FaultTests$Circuit", "putBridge", "(III)V"⟩) ∈ UW := UW_in (lw_i4 (List.mem_of_getElem? (i := 102) rfl)) rfl
theorem mw_4_103 : (Cond.selects "FaultTests$Circuit" ⟨"FaultTests$Circuit", "putBridge", "(III)V"⟩ ⟨"FaultTests$Circuit", "putBridge", "(III)V"⟩) ∈ UW := UW_in (lw_i4 (List.mem_of_getElem? (i := 103) rfl)) rfl
theorem mw_4_104 : (Cond.code ⟨"FaultTests$Circuit", "putBridge", "(III)V"⟩ prog_2_method_11_code 4 none) ∈ UW := UW_in (lw_i4 (List.mem_of_getElem? (i := 104) rfl)) rfl
theorem mw_4_106 : (Cond.methodLink "FaultTests$SetupReader" 97 ⟨"FaultTests$SetupReader", "readTest", "()Z"⟩) ∈ UW := UW_in (lw_i4 (List.mem_of_getElem? (i := 106) rfl)) rfl
theorem mw_4_108 : (Cond.instanceMethod ⟨"FaultTests$SetupReader", "readTest", "()Z"⟩) ∈ UW := UW_in (lw_i4 (List.mem_of_getElem? (i := 108) rfl)) rfl
theorem mw_4_109 : (Cond.code ⟨"FaultTests$SetupReader", "readTest", "()Z"⟩ prog_7_method_12_code 4 (some .boolean)) ∈ UW := UW_in (lw_i4 (List.mem_of_getElem? (i := 109) rfl)) rfl
theorem mw_4_110 : (Cond.methodLink "FaultTests$SetupReader" 158 ⟨"FaultTests$TestList", "isFull", "()Z"⟩) ∈ UW := UW_in (lw_i4 (List.mem_of_getElem? (i := 110) rfl)) rfl
theorem mw_4_111 : (Cond.instanceMethod ⟨"FaultTests$TestList", "isFull", "()Z"⟩) ∈ UW := UW_in (lw_i4 (List.mem_of_getElem? (i := 111) rfl)) rfl
theorem mw_4_112 : (Cond.selects "FaultTests$TestList" ⟨"FaultTests$TestList", "isFull", "()Z"⟩ ⟨"FaultTests$TestList", "isFull", "()Z"⟩) ∈ UW := UW_in (lw_i4 (List.mem_of_getElem? (i := 112) rfl)) rfl
theorem mw_4_113 : (Cond.code ⟨"FaultTests$TestList", "isFull", "()Z"⟩ prog_8_method_5_code 1 (some .boolean)) ∈ UW := UW_in (lw_i4 (List.mem_of_getElem? (i := 113) rfl)) rfl
theorem mw_4_115 : (Cond.methodLink "FaultTests$SetupReader" 168 ⟨"FaultTests$TestList", "put", "(II)V"⟩) ∈ UW := UW_in (lw_i4 (List.mem_of_getElem? (i := 115) rfl)) rfl
theorem mw_4_116 : (Cond.methodLink "FaultTests" 91 ⟨"FaultTests$Setup", "copyFrom", "(LFaultTests$Setup;)V"⟩) ∈ UW := UW_in (lw_i4 (List.mem_of_getElem? (i := 116) rfl)) rfl
theorem mw_4_117 : (Cond.methodLink "FaultTestsLaw" 95 ⟨"FaultTestsLaw", "state", "(LFaultTests;I[J)I"⟩) ∈ UW := UW_in (lw_i4 (List.mem_of_getElem? (i := 117) rfl)) rfl
theorem mw_4_118 : (Cond.static ⟨"FaultTestsLaw", "state", "(LFaultTests;I[J)I"⟩) ∈ UW := UW_in (lw_i4 (List.mem_of_getElem? (i := 118) rfl)) rfl
theorem mw_4_119 : (Cond.codeWith ⟨"FaultTestsLaw", "state", "(LFaultTests;I[J)I"⟩ method_4_code 4 (some .int) [(0, 9, 12, 13)]) ∈ UW := UW_in (lw_i4 (List.mem_of_getElem? (i := 119) rfl)) rfl
theorem mw_4_120 : (Cond.methodLink "FaultTestsLaw" 15 ⟨"FaultTests", "state", "(I)I"⟩) ∈ UW := UW_in (lw_i4 (List.mem_of_getElem? (i := 120) rfl)) rfl
theorem mw_4_121 : (Cond.methodLink "FaultTestsLaw" 98 ⟨"FaultTestsLaw", "wire", "(LFaultTests;II[J)I"⟩) ∈ UW := UW_in (lw_i4 (List.mem_of_getElem? (i := 121) rfl)) rfl
theorem mw_4_122 : (Cond.static ⟨"FaultTestsLaw", "wire", "(LFaultTests;II[J)I"⟩) ∈ UW := UW_in (lw_i4 (List.mem_of_getElem? (i := 122) rfl)) rfl
theorem mw_4_123 : (Cond.codeWith ⟨"FaultTestsLaw", "wire", "(LFaultTests;II[J)I"⟩ method_5_code 5 (some .int) [(0, 10, 13, 22), (0, 10, 17, 13)]) ∈ UW := UW_in (lw_i4 (List.mem_of_getElem? (i := 123) rfl)) rfl
theorem mw_4_124 : (Cond.classLink "FaultTestsLaw" 22 "java/lang/IndexOutOfBoundsException") ∈ UW := UW_in (lw_i4 (List.mem_of_getElem? (i := 124) rfl)) rfl
theorem mw_4_125 : (Cond.methodLink "FaultTestsLaw" 18 ⟨"FaultTests", "wire", "(II)I"⟩) ∈ UW := UW_in (lw_i4 (List.mem_of_getElem? (i := 125) rfl)) rfl
theorem mw_4_126 : (Cond.methodLink "FaultTestsLaw" 102 ⟨"FaultTestsLaw", "operand", "(LFaultTests;II[J)I"⟩) ∈ UW := UW_in (lw_i4 (List.mem_of_getElem? (i := 126) rfl)) rfl
theorem mw_4_127 : (Cond.static ⟨"FaultTestsLaw", "operand", "(LFaultTests;II[J)I"⟩) ∈ UW := UW_in (lw_i4 (List.mem_of_getElem? (i := 127) rfl)) rfl
theorem mw_4_128 : (Cond.codeWith ⟨"FaultTestsLaw", "operand", "(LFaultTests;II[J)I"⟩ method_6_code 5 (some .int) [(0, 10, 13, 22), (0, 10, 17, 27)]) ∈ UW := UW_in (lw_i4 (List.mem_of_getElem? (i := 128) rfl)) rfl
theorem mw_4_129 : (Cond.classLink "FaultTestsLaw" 27 "java/util/NoSuchElementException") ∈ UW := UW_in (lw_i4 (List.mem_of_getElem? (i := 129) rfl)) rfl
theorem mw_4_130 : (Cond.methodLink "FaultTestsLaw" 24 ⟨"FaultTests", "operand", "(II)I"⟩) ∈ UW := UW_in (lw_i4 (List.mem_of_getElem? (i := 130) rfl)) rfl
theorem mw_4_131 : (Cond.instanceMethod ⟨"FaultTests", "operand", "(II)I"⟩) ∈ UW := UW_in (lw_i4 (List.mem_of_getElem? (i := 131) rfl)) rfl
theorem mw_4_132 : (Cond.selects "FaultTests" ⟨"FaultTests", "operand", "(II)I"⟩ ⟨"FaultTests", "operand", "(II)I"⟩) ∈ UW := UW_in (lw_i4 (List.mem_of_getElem? (i := 132) rfl)) rfl
theorem mw_4_133 : (Cond.code ⟨"FaultTests", "operand", "(II)I"⟩ prog_1_method_7_code 3 (some .int)) ∈ UW := UW_in (lw_i4 (List.mem_of_getElem? (i := 133) rfl)) rfl
theorem mw_4_134 : (Cond.classLink "FaultTests" 167 "java/util/NoSuchElementException") ∈ UW := UW_in (lw_i4 (List.mem_of_getElem? (i := 134) rfl)) rfl
theorem mw_4_135 : (Cond.instantiable "java/util/NoSuchElementException" 6) ∈ UW := UW_in (lw_i4 (List.mem_of_getElem? (i := 135) rfl)) rfl
theorem mw_4_137 : (Cond.selects "java/util/NoSuchElementException" ⟨"java/lang/Throwable", "fillInStackTrace", "(I)Ljava/lang/Throwable;"⟩ ⟨"java/lang/Throwable", "fillInStackTrace", "(I)Ljava/lang/Throwable;"⟩) ∈ UW := UW_in (lw_i4 (List.mem_of_getElem? (i := 137) rfl)) rfl
theorem mw_4_138 : (Cond.lays "java/util/NoSuchElementException" "java/lang/Throwable" "cause" "Ljava/lang/Throwable;") ∈ UW := UW_in (lw_i4 (List.mem_of_getElem? (i := 138) rfl)) rfl
theorem mw_4_139 : (Cond.lays "java/util/NoSuchElementException" "java/lang/Throwable" "stackTrace" "[Ljava/lang/StackTraceElement;") ∈ UW := UW_in (lw_i4 (List.mem_of_getElem? (i := 139) rfl)) rfl
theorem mw_4_140 : (Cond.lays "java/util/NoSuchElementException" "java/lang/Throwable" "suppressedExceptions" "Ljava/util/List;") ∈ UW := UW_in (lw_i4 (List.mem_of_getElem? (i := 140) rfl)) rfl
theorem mw_4_141 : (Cond.lays "java/util/NoSuchElementException" "java/lang/Throwable" "detailMessage" "Ljava/lang/String;") ∈ UW := UW_in (lw_i4 (List.mem_of_getElem? (i := 141) rfl)) rfl
theorem mw_4_142 : (Cond.lays "java/util/NoSuchElementException" "java/lang/Throwable" "backtrace" "Ljava/lang/Object;") ∈ UW := UW_in (lw_i4 (List.mem_of_getElem? (i := 142) rfl)) rfl
theorem mw_4_144 : (Cond.methodLink "FaultTests" 171 ⟨"java/util/NoSuchElementException", "<init>", "(Ljava/lang/String;)V"⟩) ∈ UW := UW_in (lw_i4 (List.mem_of_getElem? (i := 144) rfl)) rfl
theorem mw_4_145 : (Cond.instanceMethod ⟨"java/util/NoSuchElementException", "<init>", "(Ljava/lang/String;)V"⟩) ∈ UW := UW_in (lw_i4 (List.mem_of_getElem? (i := 145) rfl)) rfl
theorem mw_4_146 : (Cond.code ⟨"java/util/NoSuchElementException", "<init>", "(Ljava/lang/String;)V"⟩ prog_29_method_4_code 2 none) ∈ UW := UW_in (lw_i4 (List.mem_of_getElem? (i := 146) rfl)) rfl
theorem mw_4_147 : (Cond.methodLink "java/util/NoSuchElementException" 13 ⟨"java/lang/RuntimeException", "<init>", "(Ljava/lang/String;)V"⟩) ∈ UW := UW_in (lw_i4 (List.mem_of_getElem? (i := 147) rfl)) rfl
theorem mw_4_148 : (Cond.lays "java/util/NoSuchElementException" "java/lang/Throwable" "depth" "I") ∈ UW := UW_in (lw_i4 (List.mem_of_getElem? (i := 148) rfl)) rfl
theorem mw_4_149 : (Cond.superclass "java/util/NoSuchElementException" "java/lang/RuntimeException") ∈ UW := UW_in (lw_i4 (List.mem_of_getElem? (i := 149) rfl)) rfl
theorem mw_4_150 : (Cond.methodLink "FaultTestsLaw" 105 ⟨"FaultTestsLaw", "value", "(LFaultTests;II[J)I"⟩) ∈ UW := UW_in (lw_i4 (List.mem_of_getElem? (i := 150) rfl)) rfl
theorem mw_4_151 : (Cond.static ⟨"FaultTestsLaw", "value", "(LFaultTests;II[J)I"⟩) ∈ UW := UW_in (lw_i4 (List.mem_of_getElem? (i := 151) rfl)) rfl
theorem mw_4_152 : (Cond.codeWith ⟨"FaultTestsLaw", "value", "(LFaultTests;II[J)I"⟩ method_7_code 5 (some .int) [(0, 10, 13, 22)]) ∈ UW := UW_in (lw_i4 (List.mem_of_getElem? (i := 152) rfl)) rfl
theorem mw_4_153 : (Cond.methodLink "FaultTestsLaw" 29 ⟨"FaultTests", "value", "(II)I"⟩) ∈ UW := UW_in (lw_i4 (List.mem_of_getElem? (i := 153) rfl)) rfl
theorem mw_4_154 : (Cond.instanceMethod ⟨"FaultTests", "value", "(II)I"⟩) ∈ UW := UW_in (lw_i4 (List.mem_of_getElem? (i := 154) rfl)) rfl
theorem mw_4_155 : (Cond.selects "FaultTests" ⟨"FaultTests", "value", "(II)I"⟩ ⟨"FaultTests", "value", "(II)I"⟩) ∈ UW := UW_in (lw_i4 (List.mem_of_getElem? (i := 155) rfl)) rfl
theorem mw_4_156 : (Cond.code ⟨"FaultTests", "value", "(II)I"⟩ prog_1_method_8_code 3 (some .int)) ∈ UW := UW_in (lw_i4 (List.mem_of_getElem? (i := 156) rfl)) rfl
theorem mw_4_157 : (Cond.methodLink "FaultTests" 174 ⟨"FaultTests", "checkTest", "(I)V"⟩) ∈ UW := UW_in (lw_i4 (List.mem_of_getElem? (i := 157) rfl)) rfl
theorem mw_4_159 : (Cond.instanceMethod ⟨"FaultTests", "checkTest", "(I)V"⟩) ∈ UW := UW_in (lw_i4 (List.mem_of_getElem? (i := 159) rfl)) rfl
theorem mw_4_160 : (Cond.code ⟨"FaultTests", "checkTest", "(I)V"⟩ prog_1_method_34_code 2 none) ∈ UW := UW_in (lw_i4 (List.mem_of_getElem? (i := 160) rfl)) rfl
theorem mw_4_162 : (Cond.methodLink "FaultTestsLaw" 108 ⟨"FaultTestsLaw", "faulty", "(LFaultTests;III[J)I"⟩) ∈ UW := UW_in (lw_i4 (List.mem_of_getElem? (i := 162) rfl)) rfl
theorem mw_4_163 : (Cond.static ⟨"FaultTestsLaw", "faulty", "(LFaultTests;III[J)I"⟩) ∈ UW := UW_in (lw_i4 (List.mem_of_getElem? (i := 163) rfl)) rfl
theorem mw_4_164 : (Cond.codeWith ⟨"FaultTestsLaw", "faulty", "(LFaultTests;III[J)I"⟩ method_8_code 6 (some .int) [(0, 12, 15, 22)]) ∈ UW := UW_in (lw_i4 (List.mem_of_getElem? (i := 164) rfl)) rfl
theorem mw_4_165 : (Cond.methodLink "FaultTestsLaw" 32 ⟨"FaultTests", "faulty", "(III)I"⟩) ∈ UW := UW_in (lw_i4 (List.mem_of_getElem? (i := 165) rfl)) rfl
theorem mw_4_166 : (Cond.instanceMethod ⟨"FaultTests", "faulty", "(III)I"⟩) ∈ UW := UW_in (lw_i4 (List.mem_of_getElem? (i := 166) rfl)) rfl
theorem mw_4_167 : (Cond.selects "FaultTests" ⟨"FaultTests", "faulty", "(III)I"⟩ ⟨"FaultTests", "faulty", "(III)I"⟩) ∈ UW := UW_in (lw_i4 (List.mem_of_getElem? (i := 167) rfl)) rfl
theorem mw_4_168 : (Cond.code ⟨"FaultTests", "faulty", "(III)I"⟩ prog_1_method_9_code 4 (some .int)) ∈ UW := UW_in (lw_i4 (List.mem_of_getElem? (i := 168) rfl)) rfl
theorem mw_4_169 : (Cond.methodLink "FaultTests" 190 ⟨"FaultTests", "checkFault", "(I)V"⟩) ∈ UW := UW_in (lw_i4 (List.mem_of_getElem? (i := 169) rfl)) rfl
theorem mw_4_171 : (Cond.instanceMethod ⟨"FaultTests", "checkFault", "(I)V"⟩) ∈ UW := UW_in (lw_i4 (List.mem_of_getElem? (i := 171) rfl)) rfl
theorem mw_4_172 : (Cond.code ⟨"FaultTests", "checkFault", "(I)V"⟩ prog_1_method_35_code 2 none) ∈ UW := UW_in (lw_i4 (List.mem_of_getElem? (i := 172) rfl)) rfl
theorem mw_4_174 : (Cond.methodLink "FaultTests" 196 ⟨"FaultTests$Lanes", "runFault", "(LFaultTests$Circuit;LFaultTests$Lanes;I)V"⟩) ∈ UW := UW_in (lw_i4 (List.mem_of_getElem? (i := 174) rfl)) rfl
theorem mw_4_175 : (Cond.methodLink "FaultTestsLaw" 112 ⟨"FaultTestsLaw", "finds", "(LFaultTests;II[J)I"⟩) ∈ UW := UW_in (lw_i4 (List.mem_of_getElem? (i := 175) rfl)) rfl
theorem mw_4_176 : (Cond.static ⟨"FaultTestsLaw", "finds", "(LFaultTests;II[J)I"⟩) ∈ UW := UW_in (lw_i4 (List.mem_of_getElem? (i := 176) rfl)) rfl
theorem mw_4_177 : (Cond.codeWith ⟨"FaultTestsLaw", "finds", "(LFaultTests;II[J)I"⟩ method_9_code 5 (some .int) [(0, 10, 13, 22)]) ∈ UW := UW_in (lw_i4 (List.mem_of_getElem? (i := 177) rfl)) rfl
theorem mw_4_178 : (Cond.methodLink "FaultTestsLaw" 36 ⟨"FaultTests", "finds", "(II)I"⟩) ∈ UW := UW_in (lw_i4 (List.mem_of_getElem? (i := 178) rfl)) rfl
theorem mw_4_179 : (Cond.instanceMethod ⟨"FaultTests", "finds", "(II)I"⟩) ∈ UW := UW_in (lw_i4 (List.mem_of_getElem? (i := 179) rfl)) rfl
theorem mw_4_180 : (Cond.selects "FaultTests" ⟨"FaultTests", "finds", "(II)I"⟩ ⟨"FaultTests", "finds", "(II)I"⟩) ∈ UW := UW_in (lw_i4 (List.mem_of_getElem? (i := 180) rfl)) rfl
theorem mw_4_181 : (Cond.code ⟨"FaultTests", "finds", "(II)I"⟩ prog_1_method_10_code 3 (some .int)) ∈ UW := UW_in (lw_i4 (List.mem_of_getElem? (i := 181) rfl)) rfl
theorem mw_4_182 : (Cond.methodLink "FaultTests" 204 ⟨"FaultTests", "hasLane", "(JI)Z"⟩) ∈ UW := UW_in (lw_i4 (List.mem_of_getElem? (i := 182) rfl)) rfl
theorem mw_4_183 : (Cond.methodLink "FaultTests" 208 ⟨"FaultTests$Rows", "blurred", "(LFaultTests$Circuit;II)J"⟩) ∈ UW := UW_in (lw_i4 (List.mem_of_getElem? (i := 183) rfl)) rfl
theorem mw_4_184 : (Cond.instanceMethod ⟨"FaultTests$Rows", "blurred", "(LFaultTests$Circuit;II)J"⟩) ∈ UW := UW_in (lw_i4 (List.mem_of_getElem? (i := 184) rfl)) rfl
theorem mw_4_185 : (Cond.selects "FaultTests$Rows" ⟨"FaultTests$Rows", "blurred", "(LFaultTests$Circuit;II)J"⟩ ⟨"FaultTests$Rows", "blurred", "(LFaultTests$Circuit;II)J"⟩) ∈ UW := UW_in (lw_i4 (List.mem_of_getElem? (i := 185) rfl)) rfl
theorem mw_4_186 : (Cond.code ⟨"FaultTests$Rows", "blurred", "(LFaultTests$Circuit;II)J"⟩ prog_5_method_6_code 9 (some .long)) ∈ UW := UW_in (lw_i4 (List.mem_of_getElem? (i := 186) rfl)) rfl
theorem mw_4_187 : (Cond.constantLong "FaultTests$Rows" 63 (-1 : Int64)) ∈ UW := UW_in (lw_i4 (List.mem_of_getElem? (i := 187) rfl)) rfl
theorem mw_4_188 : (Cond.methodLink "FaultTestsLaw" 115 ⟨"FaultTestsLaw", "tellsApart", "(LFaultTests;III[J)I"⟩) ∈ UW := UW_in (lw_i4 (List.mem_of_getElem? (i := 188) rfl)) rfl
theorem mw_4_189 : (Cond.static ⟨"FaultTestsLaw", "tellsApart", "(LFaultTests;III[J)I"⟩) ∈ UW := UW_in (lw_i4 (List.mem_of_getElem? (i := 189) rfl)) rfl
theorem mw_4_190 : (Cond.codeWith ⟨"FaultTestsLaw", "tellsApart", "(LFaultTests;III[J)I"⟩ method_10_code 6 (some .int) [(0, 19, 22, 22)]) ∈ UW := UW_in (lw_i4 (List.mem_of_getElem? (i := 190) rfl)) rfl
theorem mw_4_191 : (Cond.methodLink "FaultTestsLaw" 39 ⟨"FaultTests", "tellsApart", "(III)Z"⟩) ∈ UW := UW_in (lw_i4 (List.mem_of_getElem? (i := 191) rfl)) rfl
theorem mw_4_192 : (Cond.instanceMethod ⟨"FaultTests", "tellsApart", "(III)Z"⟩) ∈ UW := UW_in (lw_i4 (List.mem_of_getElem? (i := 192) rfl)) rfl
theorem mw_4_193 : (Cond.selects "FaultTests" ⟨"FaultTests", "tellsApart", "(III)Z"⟩ ⟨"FaultTests", "tellsApart", "(III)Z"⟩) ∈ UW := UW_in (lw_i4 (List.mem_of_getElem? (i := 193) rfl)) rfl
theorem mw_4_194 : (Cond.code ⟨"FaultTests", "tellsApart", "(III)Z"⟩ prog_1_method_11_code 4 (some .boolean)) ∈ UW := UW_in (lw_i4 (List.mem_of_getElem? (i := 194) rfl)) rfl
theorem mw_4_195 : (Cond.methodLink "FaultTestsLaw" 118 ⟨"FaultTestsLaw", "worth", "(LFaultTests;I[J)I"⟩) ∈ UW := UW_in (lw_i4 (List.mem_of_getElem? (i := 195) rfl)) rfl
theorem mw_4_196 : (Cond.static ⟨"FaultTestsLaw", "worth", "(LFaultTests;I[J)I"⟩) ∈ UW := UW_in (lw_i4 (List.mem_of_getElem? (i := 196) rfl)) rfl
theorem mw_4_197 : (Cond.codeWith ⟨"FaultTestsLaw", "worth", "(LFaultTests;I[J)I"⟩ method_11_code 4 (some .int) [(0, 9, 12, 22)]) ∈ UW := UW_in (lw_i4 (List.mem_of_getElem? (i := 197) rfl)) rfl
theorem mw_4_198 : (Cond.methodLink "FaultTestsLaw" 43 ⟨"FaultTests", "worth", "(I)I"⟩) ∈ UW := UW_in (lw_i4 (List.mem_of_getElem? (i := 198) rfl)) rfl
theorem mw_4_199 : (Cond.instanceMethod ⟨"FaultTests", "worth", "(I)I"⟩) ∈ UW := UW_in (lw_i4 (List.mem_of_getElem? (i := 199) rfl)) rfl
theorem mw_4_200 : (Cond.selects "FaultTests" ⟨"FaultTests", "worth", "(I)I"⟩ ⟨"FaultTests", "worth", "(I)I"⟩) ∈ UW := UW_in (lw_i4 (List.mem_of_getElem? (i := 200) rfl)) rfl
theorem mw_4_201 : (Cond.code ⟨"FaultTests", "worth", "(I)I"⟩ prog_1_method_12_code 2 (some .int)) ∈ UW := UW_in (lw_i4 (List.mem_of_getElem? (i := 201) rfl)) rfl
theorem mw_4_202 : (Cond.methodLink "FaultTestsLaw" 121 ⟨"FaultTestsLaw", "testFor", "(LFaultTests;I[J)I"⟩) ∈ UW := UW_in (lw_i4 (List.mem_of_getElem? (i := 202) rfl)) rfl
theorem mw_4_203 : (Cond.static ⟨"FaultTestsLaw", "testFor", "(LFaultTests;I[J)I"⟩) ∈ UW := UW_in (lw_i4 (List.mem_of_getElem? (i := 203) rfl)) rfl
theorem mw_4_204 : (Cond.codeWith ⟨"FaultTestsLaw", "testFor", "(LFaultTests;I[J)I"⟩ method_12_code 4 (some .int) [(0, 9, 12, 22)]) ∈ UW := UW_in (lw_i4 (List.mem_of_getElem? (i := 204) rfl)) rfl
theorem mw_4_205 : (Cond.methodLink "FaultTestsLaw" 46 ⟨"FaultTests", "testFor", "(I)I"⟩) ∈ UW := UW_in (lw_i4 (List.mem_of_getElem? (i := 205) rfl)) rfl
theorem mw_4_206 : (Cond.instanceMethod ⟨"FaultTests", "testFor", "(I)I"⟩) ∈ UW := UW_in (lw_i4 (List.mem_of_getElem? (i := 206) rfl)) rfl
theorem mw_4_207 : (Cond.selects "FaultTests" ⟨"FaultTests", "testFor", "(I)I"⟩ ⟨"FaultTests", "testFor", "(I)I"⟩) ∈ UW := UW_in (lw_i4 (List.mem_of_getElem? (i := 207) rfl)) rfl
theorem mw_4_208 : (Cond.code ⟨"FaultTests", "testFor", "(I)I"⟩ prog_1_method_13_code 2 (some .int)) ∈ UW := UW_in (lw_i4 (List.mem_of_getElem? (i := 208) rfl)) rfl
theorem mw_4_209 : (Cond.methodLink "FaultTestsLaw" 124 ⟨"FaultTestsLaw", "testBetween", "(LFaultTests;II[J)I"⟩) ∈ UW := UW_in (lw_i4 (List.mem_of_getElem? (i := 209) rfl)) rfl
theorem mw_4_210 : (Cond.static ⟨"FaultTestsLaw", "testBetween", "(LFaultTests;II[J)I"⟩) ∈ UW := UW_in (lw_i4 (List.mem_of_getElem? (i := 210) rfl)) rfl
theorem mw_4_211 : (Cond.codeWith ⟨"FaultTestsLaw", "testBetween", "(LFaultTests;II[J)I"⟩ method_13_code 5 (some .int) [(0, 10, 13, 22)]) ∈ UW := UW_in (lw_i4 (List.mem_of_getElem? (i := 211) rfl)) rfl
theorem mw_4_212 : (Cond.methodLink "FaultTestsLaw" 49 ⟨"FaultTests", "testBetween", "(II)I"⟩) ∈ UW := UW_in (lw_i4 (List.mem_of_getElem? (i := 212) rfl)) rfl
theorem mw_4_213 : (Cond.instanceMethod ⟨"FaultTests", "testBetween", "(II)I"⟩) ∈ UW := UW_in (lw_i4 (List.mem_of_getElem? (i := 213) rfl)) rfl
theorem mw_4_214 : (Cond.selects "FaultTests" ⟨"FaultTests", "testBetween", "(II)I"⟩ ⟨"FaultTests", "testBetween", "(II)I"⟩) ∈ UW := UW_in (lw_i4 (List.mem_of_getElem? (i := 214) rfl)) rfl
theorem mw_4_215 : (Cond.code ⟨"FaultTests", "testBetween", "(II)I"⟩ prog_1_method_14_code 3 (some .int)) ∈ UW := UW_in (lw_i4 (List.mem_of_getElem? (i := 215) rfl)) rfl
theorem mw_4_216 : (Cond.methodLink "FaultTestsLaw" 131 ⟨"FaultTestsLaw", "alike", "(LFaultTests;I[J)I"⟩) ∈ UW := UW_in (lw_i4 (List.mem_of_getElem? (i := 216) rfl)) rfl
theorem mw_4_217 : (Cond.static ⟨"FaultTestsLaw", "alike", "(LFaultTests;I[J)I"⟩) ∈ UW := UW_in (lw_i4 (List.mem_of_getElem? (i := 217) rfl)) rfl
theorem mw_4_218 : (Cond.codeWith ⟨"FaultTestsLaw", "alike", "(LFaultTests;I[J)I"⟩ method_14_code 4 (some .int) [(0, 9, 12, 22)]) ∈ UW := UW_in (lw_i4 (List.mem_of_getElem? (i := 218) rfl)) rfl
theorem mw_4_219 : (Cond.methodLink "FaultTestsLaw" 52 ⟨"FaultTests", "alike", "(I)I"⟩) ∈ UW := UW_in (lw_i4 (List.mem_of_getElem? (i := 219) rfl)) rfl
theorem mw_4_220 : (Cond.instanceMethod ⟨"FaultTests", "alike", "(I)I"⟩) ∈ UW := UW_in (lw_i4 (List.mem_of_getElem? (i := 220) rfl)) rfl
theorem mw_4_221 : (Cond.selects "FaultTests" ⟨"FaultTests", "alike", "(I)I"⟩ ⟨"FaultTests", "alike", "(I)I"⟩) ∈ UW := UW_in (lw_i4 (List.mem_of_getElem? (i := 221) rfl)) rfl
theorem mw_4_222 : (Cond.code ⟨"FaultTests", "alike", "(I)I"⟩ prog_1_method_16_code 2 (some .int)) ∈ UW := UW_in (lw_i4 (List.mem_of_getElem? (i := 222) rfl)) rfl
theorem mw_4_223 : (Cond.methodLink "FaultTestsLaw" 151 ⟨"FaultTestsLaw", "suspect", "(LFaultTests;I[J)I"⟩) ∈ UW := UW_in (lw_i4 (List.mem_of_getElem? (i := 223) rfl)) rfl
theorem mw_4_224 : (Cond.static ⟨"FaultTestsLaw", "suspect", "(LFaultTests;I[J)I"⟩) ∈ UW := UW_in (lw_i4 (List.mem_of_getElem? (i := 224) rfl)) rfl
theorem mw_4_225 : (Cond.codeWith ⟨"FaultTestsLaw", "suspect", "(LFaultTests;I[J)I"⟩ method_15_code 4 (some .int) [(0, 9, 12, 27)]) ∈ UW := UW_in (lw_i4 (List.mem_of_getElem? (i := 225) rfl)) rfl
theorem mw_4_226 : (Cond.methodLink "FaultTestsLaw" 55 ⟨"FaultTests", "suspect", "(I)I"⟩) ∈ UW := UW_in (lw_i4 (List.mem_of_getElem? (i := 226) rfl)) rfl
theorem mw_4_227 : (Cond.instanceMethod ⟨"FaultTests", "suspect", "(I)I"⟩) ∈ UW := UW_in (lw_i4 (List.mem_of_getElem? (i := 227) rfl)) rfl
theorem mw_4_228 : (Cond.selects "FaultTests" ⟨"FaultTests", "suspect", "(I)I"⟩ ⟨"FaultTests", "suspect", "(I)I"⟩) ∈ UW := UW_in (lw_i4 (List.mem_of_getElem? (i := 228) rfl)) rfl
theorem mw_4_229 : (Cond.code ⟨"FaultTests", "suspect", "(I)I"⟩ prog_1_method_21_code 3 (some .int)) ∈ UW := UW_in (lw_i4 (List.mem_of_getElem? (i := 229) rfl)) rfl
theorem mw_4_231 : (Cond.methodLink "FaultTestsLaw" 158 ⟨"FaultTestsLaw", "addTest", "(LFaultTests;II[J)I"⟩) ∈ UW := UW_in (lw_i4 (List.mem_of_getElem? (i := 231) rfl)) rfl
theorem mw_4_232 : (Cond.static ⟨"FaultTestsLaw", "addTest", "(LFaultTests;II[J)I"⟩) ∈ UW := UW_in (lw_i4 (List.mem_of_getElem? (i := 232) rfl)) rfl
theorem mw_4_233 : (Cond.codeWith ⟨"FaultTestsLaw", "addTest", "(LFaultTests;II[J)I"⟩ method_16_code 5 (some .int) [(0, 10, 13, 13), (0, 10, 17, 61)]) ∈ UW := UW_in (lw_i4 (List.mem_of_getElem? (i := 233) rfl)) rfl
theorem mw_4_234 : (Cond.classLink "FaultTestsLaw" 61 "java/lang/IllegalStateException") ∈ UW := UW_in (lw_i4 (List.mem_of_getElem? (i := 234) rfl)) rfl
theorem mw_4_235 : (Cond.methodLink "FaultTestsLaw" 58 ⟨"FaultTests", "addTest", "(II)I"⟩) ∈ UW := UW_in (lw_i4 (List.mem_of_getElem? (i := 235) rfl)) rfl
theorem mw_4_236 : (Cond.instanceMethod ⟨"FaultTests", "addTest", "(II)I"⟩) ∈ UW := UW_in (lw_i4 (List.mem_of_getElem? (i := 236) rfl)) rfl
theorem mw_4_237 : (Cond.selects "FaultTests" ⟨"FaultTests", "addTest", "(II)I"⟩ ⟨"FaultTests", "addTest", "(II)I"⟩) ∈ UW := UW_in (lw_i4 (List.mem_of_getElem? (i := 237) rfl)) rfl
theorem mw_4_238 : (Cond.code ⟨"FaultTests", "addTest", "(II)I"⟩ prog_1_method_23_code 3 (some .int)) ∈ UW := UW_in (lw_i4 (List.mem_of_getElem? (i := 238) rfl)) rfl
theorem mw_4_239 : (Cond.methodLink "FaultTests" 237 ⟨"FaultTests", "areInputs", "(I)Z"⟩) ∈ UW := UW_in (lw_i4 (List.mem_of_getElem? (i := 239) rfl)) rfl
theorem mw_5_1 : (Cond.instanceMethod ⟨"FaultTests", "areInputs", "(I)Z"⟩) ∈ UW := UW_in (lw_i5 (List.mem_of_getElem? (i := 1) rfl)) rfl
theorem mw_5_2 : (Cond.code ⟨"FaultTests", "areInputs", "(I)Z"⟩ prog_1_method_36_code 2 (some .boolean)) ∈ UW := UW_in (lw_i5 (List.mem_of_getElem? (i := 2) rfl)) rfl
theorem mw_5_4 : (Cond.classLink "FaultTests" 243 "java/lang/IllegalStateException") ∈ UW := UW_in (lw_i5 (List.mem_of_getElem? (i := 4) rfl)) rfl
theorem mw_5_5 : (Cond.instantiable "java/lang/IllegalStateException" 6) ∈ UW := UW_in (lw_i5 (List.mem_of_getElem? (i := 5) rfl)) rfl
theorem mw_5_7 : (Cond.selects "java/lang/IllegalStateException" ⟨"java/lang/Throwable", "fillInStackTrace", "(I)Ljava/lang/Throwable;"⟩ ⟨"java/lang/Throwable", "fillInStackTrace", "(I)Ljava/lang/Throwable;"⟩) ∈ UW := UW_in (lw_i5 (List.mem_of_getElem? (i := 7) rfl)) rfl
theorem mw_5_8 : (Cond.lays "java/lang/IllegalStateException" "java/lang/Throwable" "cause" "Ljava/lang/Throwable;") ∈ UW := UW_in (lw_i5 (List.mem_of_getElem? (i := 8) rfl)) rfl
theorem mw_5_9 : (Cond.lays "java/lang/IllegalStateException" "java/lang/Throwable" "stackTrace" "[Ljava/lang/StackTraceElement;") ∈ UW := UW_in (lw_i5 (List.mem_of_getElem? (i := 9) rfl)) rfl
theorem mw_5_10 : (Cond.lays "java/lang/IllegalStateException" "java/lang/Throwable" "suppressedExceptions" "Ljava/util/List;") ∈ UW := UW_in (lw_i5 (List.mem_of_getElem? (i := 10) rfl)) rfl
theorem mw_5_11 : (Cond.lays "java/lang/IllegalStateException" "java/lang/Throwable" "detailMessage" "Ljava/lang/String;") ∈ UW := UW_in (lw_i5 (List.mem_of_getElem? (i := 11) rfl)) rfl
theorem mw_5_12 : (Cond.lays "java/lang/IllegalStateException" "java/lang/Throwable" "backtrace" "Ljava/lang/Object;") ∈ UW := UW_in (lw_i5 (List.mem_of_getElem? (i := 12) rfl)) rfl
theorem mw_5_14 : (Cond.methodLink "FaultTests" 247 ⟨"java/lang/IllegalStateException", "<init>", "(Ljava/lang/String;)V"⟩) ∈ UW := UW_in (lw_i5 (List.mem_of_getElem? (i := 14) rfl)) rfl
theorem mw_5_15 : (Cond.instanceMethod ⟨"java/lang/IllegalStateException", "<init>", "(Ljava/lang/String;)V"⟩) ∈ UW := UW_in (lw_i5 (List.mem_of_getElem? (i := 15) rfl)) rfl
theorem mw_5_16 : (Cond.code ⟨"java/lang/IllegalStateException", "<init>", "(Ljava/lang/String;)V"⟩ prog_16_method_2_code 2 none) ∈ UW := UW_in (lw_i5 (List.mem_of_getElem? (i := 16) rfl)) rfl
theorem mw_5_17 : (Cond.methodLink "java/lang/IllegalStateException" 7 ⟨"java/lang/RuntimeException", "<init>", "(Ljava/lang/String;)V"⟩) ∈ UW := UW_in (lw_i5 (List.mem_of_getElem? (i := 17) rfl)) rfl
theorem mw_5_18 : (Cond.lays "java/lang/IllegalStateException" "java/lang/Throwable" "depth" "I") ∈ UW := UW_in (lw_i5 (List.mem_of_getElem? (i := 18) rfl)) rfl
theorem mw_5_19 : (Cond.superclass "java/lang/IllegalStateException" "java/lang/RuntimeException") ∈ UW := UW_in (lw_i5 (List.mem_of_getElem? (i := 19) rfl)) rfl
theorem mw_5_20 : (Cond.methodLink "FaultTestsLaw" 161 ⟨"FaultTestsLaw", "removeTest", "(LFaultTests;I[J)I"⟩) ∈ UW := UW_in (lw_i5 (List.mem_of_getElem? (i := 20) rfl)) rfl
theorem mw_5_21 : (Cond.static ⟨"FaultTestsLaw", "removeTest", "(LFaultTests;I[J)I"⟩) ∈ UW := UW_in (lw_i5 (List.mem_of_getElem? (i := 21) rfl)) rfl
theorem mw_5_22 : (Cond.codeWith ⟨"FaultTestsLaw", "removeTest", "(LFaultTests;I[J)I"⟩ method_17_code 4 (some .int) [(0, 9, 12, 22)]) ∈ UW := UW_in (lw_i5 (List.mem_of_getElem? (i := 22) rfl)) rfl
theorem mw_5_23 : (Cond.methodLink "FaultTestsLaw" 63 ⟨"FaultTests", "removeTest", "(I)I"⟩) ∈ UW := UW_in (lw_i5 (List.mem_of_getElem? (i := 23) rfl)) rfl
theorem mw_5_24 : (Cond.instanceMethod ⟨"FaultTests", "removeTest", "(I)I"⟩) ∈ UW := UW_in (lw_i5 (List.mem_of_getElem? (i := 24) rfl)) rfl
theorem mw_5_25 : (Cond.selects "FaultTests" ⟨"FaultTests", "removeTest", "(I)I"⟩ ⟨"FaultTests", "removeTest", "(I)I"⟩) ∈ UW := UW_in (lw_i5 (List.mem_of_getElem? (i := 25) rfl)) rfl
theorem mw_5_26 : (Cond.code ⟨"FaultTests", "removeTest", "(I)I"⟩ prog_1_method_24_code 2 (some .int)) ∈ UW := UW_in (lw_i5 (List.mem_of_getElem? (i := 26) rfl)) rfl
theorem mw_5_27 : (Cond.methodLink "FaultTests" 252 ⟨"FaultTests$TestList", "drop", "(I)V"⟩) ∈ UW := UW_in (lw_i5 (List.mem_of_getElem? (i := 27) rfl)) rfl
theorem mw_5_28 : (Cond.instanceMethod ⟨"FaultTests$TestList", "drop", "(I)V"⟩) ∈ UW := UW_in (lw_i5 (List.mem_of_getElem? (i := 28) rfl)) rfl
theorem mw_5_29 : (Cond.selects "FaultTests$TestList" ⟨"FaultTests$TestList", "drop", "(I)V"⟩ ⟨"FaultTests$TestList", "drop", "(I)V"⟩) ∈ UW := UW_in (lw_i5 (List.mem_of_getElem? (i := 29) rfl)) rfl
theorem mw_5_30 : (Cond.code ⟨"FaultTests$TestList", "drop", "(I)V"⟩ prog_8_method_7_code 3 none) ∈ UW := UW_in (lw_i5 (List.mem_of_getElem? (i := 30) rfl)) rfl
theorem mw_5_31 : (Cond.methodLink "FaultTests$TestList" 37 ⟨"FaultTests$TestList", "withoutBit", "(II)I"⟩) ∈ UW := UW_in (lw_i5 (List.mem_of_getElem? (i := 31) rfl)) rfl
theorem mw_5_32 : (Cond.static ⟨"FaultTests$TestList", "withoutBit", "(II)I"⟩) ∈ UW := UW_in (lw_i5 (List.mem_of_getElem? (i := 32) rfl)) rfl
theorem mw_5_33 : (Cond.code ⟨"FaultTests$TestList", "withoutBit", "(II)I"⟩ prog_8_method_8_code 3 (some .int)) ∈ UW := UW_in (lw_i5 (List.mem_of_getElem? (i := 33) rfl)) rfl
theorem mw_5_34 : (Cond.methodLink "FaultTestsLaw" 164 ⟨"FaultTestsLaw", "setKind", "(LFaultTests;II[J)I"⟩) ∈ UW := UW_in (lw_i5 (List.mem_of_getElem? (i := 34) rfl)) rfl
theorem mw_5_35 : (Cond.static ⟨"FaultTestsLaw", "setKind", "(LFaultTests;II[J)I"⟩) ∈ UW := UW_in (lw_i5 (List.mem_of_getElem? (i := 35) rfl)) rfl
theorem mw_5_36 : (Cond.codeWith ⟨"FaultTestsLaw", "setKind", "(LFaultTests;II[J)I"⟩ method_18_code 5 (some .int) [(0, 10, 13, 22), (0, 10, 17, 13)]) ∈ UW := UW_in (lw_i5 (List.mem_of_getElem? (i := 36) rfl)) rfl
theorem mw_5_37 : (Cond.methodLink "FaultTestsLaw" 66 ⟨"FaultTests", "setKind", "(II)I"⟩) ∈ UW := UW_in (lw_i5 (List.mem_of_getElem? (i := 37) rfl)) rfl
theorem mw_5_38 : (Cond.instanceMethod ⟨"FaultTests", "setKind", "(II)I"⟩) ∈ UW := UW_in (lw_i5 (List.mem_of_getElem? (i := 38) rfl)) rfl
theorem mw_5_39 : (Cond.selects "FaultTests" ⟨"FaultTests", "setKind", "(II)I"⟩ ⟨"FaultTests", "setKind", "(II)I"⟩) ∈ UW := UW_in (lw_i5 (List.mem_of_getElem? (i := 39) rfl)) rfl
theorem mw_5_40 : (Cond.code ⟨"FaultTests", "setKind", "(II)I"⟩ prog_1_method_25_code 5 (some .int)) ∈ UW := UW_in (lw_i5 (List.mem_of_getElem? (i := 40) rfl)) rfl
theorem mw_5_42 : (Cond.fieldLink "FaultTests" 257 "FaultTests" "FEWEST_OPERANDS" "[I") ∈ UW := UW_in (lw_i5 (List.mem_of_getElem? (i := 42) rfl)) rfl
theorem mw_5_43 : (Cond.fieldLink "FaultTests" 260 "FaultTests" "MOST_OPERANDS" "[I") ∈ UW := UW_in (lw_i5 (List.mem_of_getElem? (i := 43) rfl)) rfl
theorem mw_5_45 : (Cond.methodLink "FaultTestsLaw" 167 ⟨"FaultTestsLaw", "see", "(LFaultTests;III[J)I"⟩) ∈ UW := UW_in (lw_i5 (List.mem_of_getElem? (i := 45) rfl)) rfl
theorem mw_5_46 : (Cond.static ⟨"FaultTestsLaw", "see", "(LFaultTests;III[J)I"⟩) ∈ UW := UW_in (lw_i5 (List.mem_of_getElem? (i := 46) rfl)) rfl
theorem mw_5_47 : (Cond.codeWith ⟨"FaultTestsLaw", "see", "(LFaultTests;III[J)I"⟩ method_19_code 6 (some .int) [(0, 12, 15, 22), (0, 12, 19, 13)]) ∈ UW := UW_in (lw_i5 (List.mem_of_getElem? (i := 47) rfl)) rfl
theorem mw_5_48 : (Cond.methodLink "FaultTestsLaw" 69 ⟨"FaultTests", "see", "(III)I"⟩) ∈ UW := UW_in (lw_i5 (List.mem_of_getElem? (i := 48) rfl)) rfl
theorem mw_5_49 : (Cond.instanceMethod ⟨"FaultTests", "see", "(III)I"⟩) ∈ UW := UW_in (lw_i5 (List.mem_of_getElem? (i := 49) rfl)) rfl
theorem mw_5_50 : (Cond.selects "FaultTests" ⟨"FaultTests", "see", "(III)I"⟩ ⟨"FaultTests", "see", "(III)I"⟩) ∈ UW := UW_in (lw_i5 (List.mem_of_getElem? (i := 50) rfl)) rfl
theorem mw_5_51 : (Cond.code ⟨"FaultTests", "see", "(III)I"⟩ prog_1_method_26_code 4 (some .int)) ∈ UW := UW_in (lw_i5 (List.mem_of_getElem? (i := 51) rfl)) rfl
theorem mw_5_54 : (Cond.methodLink "FaultTests" 272 ⟨"FaultTests$TestList", "note", "(III)V"⟩) ∈ UW := UW_in (lw_i5 (List.mem_of_getElem? (i := 54) rfl)) rfl
theorem mw_5_55 : (Cond.instanceMethod ⟨"FaultTests$TestList", "note", "(III)V"⟩) ∈ UW := UW_in (lw_i5 (List.mem_of_getElem? (i := 55) rfl)) rfl
theorem mw_5_56 : (Cond.selects "FaultTests$TestList" ⟨"FaultTests$TestList", "note", "(III)V"⟩ ⟨"FaultTests$TestList", "note", "(III)V"⟩) ∈ UW := UW_in (lw_i5 (List.mem_of_getElem? (i := 56) rfl)) rfl
theorem mw_5_57 : (Cond.code ⟨"FaultTests$TestList", "note", "(III)V"⟩ prog_8_method_9_code 5 none) ∈ UW := UW_in (lw_i5 (List.mem_of_getElem? (i := 57) rfl)) rfl
theorem mw_5_58 : (Cond.classLink "FaultTestsLaw" 73 "FaultTestsModel") ∈ UW := UW_in (lw_i5 (List.mem_of_getElem? (i := 58) rfl)) rfl
theorem mw_5_59 : (Cond.instantiable "FaultTestsModel" 23) ∈ UW := UW_in (lw_i5 (List.mem_of_getElem? (i := 59) rfl)) rfl
theorem mw_5_60 : (Cond.methodLink "FaultTestsLaw" 75 ⟨"FaultTestsModel", "<init>", "()V"⟩) ∈ UW := UW_in (lw_i5 (List.mem_of_getElem? (i := 60) rfl)) rfl
theorem mw_5_61 : (Cond.instanceMethod ⟨"FaultTestsModel", "<init>", "()V"⟩) ∈ UW := UW_in (lw_i5 (List.mem_of_getElem? (i := 61) rfl)) rfl
theorem mw_5_62 : (Cond.code ⟨"FaultTestsModel", "<init>", "()V"⟩ prog_10_method_1_code 2 none) ∈ UW := UW_in (lw_i5 (List.mem_of_getElem? (i := 62) rfl)) rfl
theorem mw_5_63 : (Cond.methodLink "FaultTestsModel" 1 ⟨"java/lang/Object", "<init>", "()V"⟩) ∈ UW := UW_in (lw_i5 (List.mem_of_getElem? (i := 63) rfl)) rfl
theorem mw_5_64 : (Cond.methodLink "FaultTestsModel" 54 ⟨"FaultTestsModel", "plain", "()V"⟩) ∈ UW := UW_in (lw_i5 (List.mem_of_getElem? (i := 64) rfl)) rfl
theorem mw_5_66 : (Cond.instanceMethod ⟨"FaultTestsModel", "plain", "()V"⟩) ∈ UW := UW_in (lw_i5 (List.mem_of_getElem? (i := 66) rfl)) rfl
theorem mw_5_67 : (Cond.code ⟨"FaultTestsModel", "plain", "()V"⟩ prog_10_method_8_code 2 none) ∈ UW := UW_in (lw_i5 (List.mem_of_getElem? (i := 67) rfl)) rfl
theorem mw_5_68 : (Cond.methodLink "FaultTestsModel" 57 ⟨"FaultTestsModel", "put", "(II)V"⟩) ∈ UW := UW_in (lw_i5 (List.mem_of_getElem? (i := 68) rfl)) rfl
theorem mw_5_70 : (Cond.instanceMethod ⟨"FaultTestsModel", "put", "(II)V"⟩) ∈ UW := UW_in (lw_i5 (List.mem_of_getElem? (i := 70) rfl)) rfl
theorem mw_5_71 : (Cond.code ⟨"FaultTestsModel", "put", "(II)V"⟩ prog_10_method_5_code 3 none) ∈ UW := UW_in (lw_i5 (List.mem_of_getElem? (i := 71) rfl)) rfl
theorem mw_5_72 : (Cond.fieldLink "FaultTestsModel" 61 "FaultTestsModel" "thrown" "I") ∈ UW := UW_in (lw_i5 (List.mem_of_getElem? (i := 72) rfl)) rfl
theorem mw_5_73 : (Cond.fieldLink "FaultTestsModel" 7 "FaultTestsModel" "rows" "[I") ∈ UW := UW_in (lw_i5 (List.mem_of_getElem? (i := 73) rfl)) rfl
theorem mw_5_74 : (Cond.fieldLink "FaultTestsModel" 13 "FaultTestsModel" "read" "[I") ∈ UW := UW_in (lw_i5 (List.mem_of_getElem? (i := 74) rfl)) rfl
theorem mw_5_75 : (Cond.fieldLink "FaultTestsModel" 64 "FaultTestsModel" "now" "I") ∈ UW := UW_in (lw_i5 (List.mem_of_getElem? (i := 75) rfl)) rfl
theorem mw_5_76 : (Cond.fieldLink "FaultTestsModel" 71 "FaultTestsModel" "undoable" "I") ∈ UW := UW_in (lw_i5 (List.mem_of_getElem? (i := 76) rfl)) rfl
theorem mw_5_77 : (Cond.fieldLink "FaultTestsModel" 16 "FaultTestsModel" "levels" "[I") ∈ UW := UW_in (lw_i5 (List.mem_of_getElem? (i := 77) rfl)) rfl
theorem mw_5_78 : (Cond.fieldLink "FaultTestsModel" 19 "FaultTestsModel" "asked" "[I") ∈ UW := UW_in (lw_i5 (List.mem_of_getElem? (i := 78) rfl)) rfl
theorem mw_5_79 : (Cond.fieldLink "FaultTestsModel" 22 "FaultTestsModel" "clean" "[I") ∈ UW := UW_in (lw_i5 (List.mem_of_getElem? (i := 79) rfl)) rfl
theorem mw_5_80 : (Cond.fieldLink "FaultTestsModel" 25 "FaultTestsModel" "bent" "[I") ∈ UW := UW_in (lw_i5 (List.mem_of_getElem? (i := 80) rfl)) rfl
theorem mw_5_81 : (Cond.fieldLink "FaultTestsModel" 28 "FaultTestsModel" "foundBy" "[I") ∈ UW := UW_in (lw_i5 (List.mem_of_getElem? (i := 81) rfl)) rfl
theorem mw_5_82 : (Cond.fieldLink "FaultTestsModel" 31 "FaultTestsModel" "full" "[I") ∈ UW := UW_in (lw_i5 (List.mem_of_getElem? (i := 82) rfl)) rfl
theorem mw_5_83 : (Cond.fieldLink "FaultTestsModel" 34 "FaultTestsModel" "text" "[I") ∈ UW := UW_in (lw_i5 (List.mem_of_getElem? (i := 83) rfl)) rfl
theorem mw_5_84 : (Cond.fieldLink "FaultTestsModel" 143 "FaultTestsModel" "fed" "I") ∈ UW := UW_in (lw_i5 (List.mem_of_getElem? (i := 84) rfl)) rfl
theorem mw_5_85 : (Cond.fieldLink "FaultTestsModel" 155 "FaultTestsModel" "length" "I") ∈ UW := UW_in (lw_i5 (List.mem_of_getElem? (i := 85) rfl)) rfl
theorem mw_5_86 : (Cond.fieldLink "FaultTestsModel" 152 "FaultTestsModel" "at" "I") ∈ UW := UW_in (lw_i5 (List.mem_of_getElem? (i := 86) rfl)) rfl
theorem mw_5_87 : (Cond.fieldLink "FaultTestsModel" 149 "FaultTestsModel" "fault" "I") ∈ UW := UW_in (lw_i5 (List.mem_of_getElem? (i := 87) rfl)) rfl
theorem mw_5_88 : (Cond.fieldLink "FaultTestsModel" 37 "FaultTestsModel" "faultAt" "I") ∈ UW := UW_in (lw_i5 (List.mem_of_getElem? (i := 88) rfl)) rfl
theorem mw_5_89 : (Cond.fieldLink "FaultTestsModel" 183 "FaultTestsModel" "number" "I") ∈ UW := UW_in (lw_i5 (List.mem_of_getElem? (i := 89) rfl)) rfl
theorem mw_5_90 : (Cond.fieldLink "FaultTestsModel" 180 "FaultTestsModel" "from" "I") ∈ UW := UW_in (lw_i5 (List.mem_of_getElem? (i := 90) rfl)) rfl
theorem mw_5_91 : (Cond.fieldLink "FaultTestsModel" 41 "FaultTestsModel" "hangs" "[Z") ∈ UW := UW_in (lw_i5 (List.mem_of_getElem? (i := 91) rfl)) rfl
theorem mw_5_92 : (Cond.fieldLink "FaultTestsModel" 45 "FaultTestsModel" "other" "[I") ∈ UW := UW_in (lw_i5 (List.mem_of_getElem? (i := 92) rfl)) rfl
theorem mw_5_93 : (Cond.fieldLink "FaultTestsModel" 48 "FaultTestsModel" "fits" "[Z") ∈ UW := UW_in (lw_i5 (List.mem_of_getElem? (i := 93) rfl)) rfl
theorem mw_5_94 : (Cond.fieldLink "FaultTestsModel" 51 "FaultTestsModel" "parts" "[I") ∈ UW := UW_in (lw_i5 (List.mem_of_getElem? (i := 94) rfl)) rfl
theorem mw_5_95 : (Cond.lays "FaultTestsModel" "FaultTestsModel" "thrown" "I") ∈ UW := UW_in (lw_i5 (List.mem_of_getElem? (i := 95) rfl)) rfl
theorem mw_5_97 : (Cond.laysFinal "FaultTestsModel" "FaultTestsModel" "rows" "[I") ∈ UW := UW_in (lw_i5 (List.mem_of_getElem? (i := 97) rfl)) rfl
theorem mw_5_99 : (Cond.laysFinal "FaultTestsModel" "FaultTestsModel" "read" "[I") ∈ UW := UW_in (lw_i5 (List.mem_of_getElem? (i := 99) rfl)) rfl
theorem mw_5_101 : (Cond.lays "FaultTestsModel" "FaultTestsModel" "now" "I") ∈ UW := UW_in (lw_i5 (List.mem_of_getElem? (i := 101) rfl)) rfl
theorem mw_5_103 : (Cond.lays "FaultTestsModel" "FaultTestsModel" "undoable" "I") ∈ UW := UW_in (lw_i5 (List.mem_of_getElem? (i := 103) rfl)) rfl
theorem mw_5_105 : (Cond.laysFinal "FaultTestsModel" "FaultTestsModel" "levels" "[I") ∈ UW := UW_in (lw_i5 (List.mem_of_getElem? (i := 105) rfl)) rfl
theorem mw_5_107 : (Cond.laysFinal "FaultTestsModel" "FaultTestsModel" "asked" "[I") ∈ UW := UW_in (lw_i5 (List.mem_of_getElem? (i := 107) rfl)) rfl
theorem mw_5_109 : (Cond.laysFinal "FaultTestsModel" "FaultTestsModel" "clean" "[I") ∈ UW := UW_in (lw_i5 (List.mem_of_getElem? (i := 109) rfl)) rfl
theorem mw_5_111 : (Cond.laysFinal "FaultTestsModel" "FaultTestsModel" "bent" "[I") ∈ UW := UW_in (lw_i5 (List.mem_of_getElem? (i := 111) rfl)) rfl
theorem mw_5_113 : (Cond.laysFinal "FaultTestsModel" "FaultTestsModel" "foundBy" "[I") ∈ UW := UW_in (lw_i5 (List.mem_of_getElem? (i := 113) rfl)) rfl
theorem mw_5_115 : (Cond.laysFinal "FaultTestsModel" "FaultTestsModel" "full" "[I") ∈ UW := UW_in (lw_i5 (List.mem_of_getElem? (i := 115) rfl)) rfl
theorem mw_5_117 : (Cond.laysFinal "FaultTestsModel" "FaultTestsModel" "text" "[I") ∈ UW := UW_in (lw_i5 (List.mem_of_getElem? (i := 117) rfl)) rfl
theorem mw_5_119 : (Cond.lays "FaultTestsModel" "FaultTestsModel" "fed" "I") ∈ UW := UW_in (lw_i5 (List.mem_of_getElem? (i := 119) rfl)) rfl
theorem mw_5_121 : (Cond.lays "FaultTestsModel" "FaultTestsModel" "length" "I") ∈ UW := UW_in (lw_i5 (List.mem_of_getElem? (i := 121) rfl)) rfl
theorem mw_5_123 : (Cond.lays "FaultTestsModel" "FaultTestsModel" "at" "I") ∈ UW := UW_in (lw_i5 (List.mem_of_getElem? (i := 123) rfl)) rfl
theorem mw_5_125 : (Cond.lays "FaultTestsModel" "FaultTestsModel" "fault" "I") ∈ UW := UW_in (lw_i5 (List.mem_of_getElem? (i := 125) rfl)) rfl
theorem mw_5_127 : (Cond.lays "FaultTestsModel" "FaultTestsModel" "faultAt" "I") ∈ UW := UW_in (lw_i5 (List.mem_of_getElem? (i := 127) rfl)) rfl
theorem mw_5_129 : (Cond.lays "FaultTestsModel" "FaultTestsModel" "number" "I") ∈ UW := UW_in (lw_i5 (List.mem_of_getElem? (i := 129) rfl)) rfl
theorem mw_5_131 : (Cond.lays "FaultTestsModel" "FaultTestsModel" "from" "I") ∈ UW := UW_in (lw_i5 (List.mem_of_getElem? (i := 131) rfl)) rfl
theorem mw_5_133 : (Cond.laysFinal "FaultTestsModel" "FaultTestsModel" "hangs" "[Z") ∈ UW := UW_in (lw_i5 (List.mem_of_getElem? (i := 133) rfl)) rfl
theorem mw_5_135 : (Cond.laysFinal "FaultTestsModel" "FaultTestsModel" "other" "[I") ∈ UW := UW_in (lw_i5 (List.mem_of_getElem? (i := 135) rfl)) rfl
theorem mw_5_137 : (Cond.laysFinal "FaultTestsModel" "FaultTestsModel" "fits" "[Z") ∈ UW := UW_in (lw_i5 (List.mem_of_getElem? (i := 137) rfl)) rfl
theorem mw_5_139 : (Cond.laysFinal "FaultTestsModel" "FaultTestsModel" "parts" "[I") ∈ UW := UW_in (lw_i5 (List.mem_of_getElem? (i := 139) rfl)) rfl
theorem mw_5_141 : (Cond.superclass "FaultTestsModel" "java/lang/Object") ∈ UW := UW_in (lw_i5 (List.mem_of_getElem? (i := 141) rfl)) rfl
theorem mw_5_142 : (Cond.arrayClass .boolean) ∈ UW := UW_in (lw_i5 (List.mem_of_getElem? (i := 142) rfl)) rfl
theorem mw_5_143 : (Cond.methodLink "FaultTestsLaw" 87 ⟨"FaultTestsModel", "thrown", "()I"⟩) ∈ UW := UW_in (lw_i5 (List.mem_of_getElem? (i := 143) rfl)) rfl
theorem mw_5_144 : (Cond.instanceMethod ⟨"FaultTestsModel", "thrown", "()I"⟩) ∈ UW := UW_in (lw_i5 (List.mem_of_getElem? (i := 144) rfl)) rfl
theorem mw_5_145 : (Cond.selects "FaultTestsModel" ⟨"FaultTestsModel", "thrown", "()I"⟩ ⟨"FaultTestsModel", "thrown", "()I"⟩) ∈ UW := UW_in (lw_i5 (List.mem_of_getElem? (i := 145) rfl)) rfl
theorem mw_5_146 : (Cond.code ⟨"FaultTestsModel", "thrown", "()I"⟩ prog_10_method_2_code 1 (some .int)) ∈ UW := UW_in (lw_i5 (List.mem_of_getElem? (i := 146) rfl)) rfl
theorem mw_5_147 : (Cond.methodLink "FaultTestsLaw" 80 ⟨"FaultTestsModel", "append", "(IIIII)I"⟩) ∈ UW := UW_in (lw_i5 (List.mem_of_getElem? (i := 147) rfl)) rfl
theorem mw_5_148 : (Cond.instanceMethod ⟨"FaultTestsModel", "append", "(IIIII)I"⟩) ∈ UW := UW_in (lw_i5 (List.mem_of_getElem? (i := 148) rfl)) rfl
theorem mw_5_149 : (Cond.selects "FaultTestsModel" ⟨"FaultTestsModel", "append", "(IIIII)I"⟩ ⟨"FaultTestsModel", "append", "(IIIII)I"⟩) ∈ UW := UW_in (lw_i5 (List.mem_of_getElem? (i := 149) rfl)) rfl
theorem mw_5_150 : (Cond.code ⟨"FaultTestsModel", "append", "(IIIII)I"⟩ prog_10_method_35_code 6 (some .int)) ∈ UW := UW_in (lw_i5 (List.mem_of_getElem? (i := 150) rfl)) rfl
theorem mw_5_151 : (Cond.methodLink "FaultTestsModel" 146 ⟨"FaultTestsModel", "four", "(I)V"⟩) ∈ UW := UW_in (lw_i5 (List.mem_of_getElem? (i := 151) rfl)) rfl
theorem mw_5_153 : (Cond.instanceMethod ⟨"FaultTestsModel", "four", "(I)V"⟩) ∈ UW := UW_in (lw_i5 (List.mem_of_getElem? (i := 153) rfl)) rfl
theorem mw_5_154 : (Cond.code ⟨"FaultTestsModel", "four", "(I)V"⟩ prog_10_method_36_code 3 none) ∈ UW := UW_in (lw_i5 (List.mem_of_getElem? (i := 154) rfl)) rfl
theorem mw_5_155 : (Cond.methodLink "FaultTestsLaw" 94 ⟨"FaultTestsModel", "errorOffset", "()I"⟩) ∈ UW := UW_in (lw_i5 (List.mem_of_getElem? (i := 155) rfl)) rfl
theorem mw_5_156 : (Cond.instanceMethod ⟨"FaultTestsModel", "errorOffset", "()I"⟩) ∈ UW := UW_in (lw_i5 (List.mem_of_getElem? (i := 156) rfl)) rfl
theorem mw_5_157 : (Cond.selects "FaultTestsModel" ⟨"FaultTestsModel", "errorOffset", "()I"⟩ ⟨"FaultTestsModel", "errorOffset", "()I"⟩) ∈ UW := UW_in (lw_i5 (List.mem_of_getElem? (i := 157) rfl)) rfl
theorem mw_5_158 : (Cond.code ⟨"FaultTestsModel", "errorOffset", "()I"⟩ prog_10_method_37_code 1 (some .int)) ∈ UW := UW_in (lw_i5 (List.mem_of_getElem? (i := 158) rfl)) rfl
theorem mw_5_159 : (Cond.methodLink "FaultTestsLaw" 86 ⟨"FaultTestsModel", "load", "(I)I"⟩) ∈ UW := UW_in (lw_i5 (List.mem_of_getElem? (i := 159) rfl)) rfl
theorem mw_5_160 : (Cond.instanceMethod ⟨"FaultTestsModel", "load", "(I)I"⟩) ∈ UW := UW_in (lw_i5 (List.mem_of_getElem? (i := 160) rfl)) rfl
theorem mw_5_161 : (Cond.selects "FaultTestsModel" ⟨"FaultTestsModel", "load", "(I)I"⟩ ⟨"FaultTestsModel", "load", "(I)I"⟩) ∈ UW := UW_in (lw_i5 (List.mem_of_getElem? (i := 161) rfl)) rfl
theorem mw_5_162 : (Cond.code ⟨"FaultTestsModel", "load", "(I)I"⟩ prog_10_method_56_code 3 (some .int)) ∈ UW := UW_in (lw_i5 (List.mem_of_getElem? (i := 162) rfl)) rfl
theorem mw_5_163 : (Cond.methodLink "FaultTestsModel" 187 ⟨"FaultTestsModel", "isIn", "(III)Z"⟩) ∈ UW := UW_in (lw_i5 (List.mem_of_getElem? (i := 163) rfl)) rfl
theorem mw_5_164 : (Cond.static ⟨"FaultTestsModel", "isIn", "(III)Z"⟩) ∈ UW := UW_in (lw_i5 (List.mem_of_getElem? (i := 164) rfl)) rfl
theorem mw_5_165 : (Cond.code ⟨"FaultTestsModel", "isIn", "(III)Z"⟩ prog_10_method_3_code 3 (some .boolean)) ∈ UW := UW_in (lw_i5 (List.mem_of_getElem? (i := 165) rfl)) rfl
theorem mw_5_166 : (Cond.methodLink "FaultTestsModel" 261 ⟨"FaultTestsModel", "right", "(ZI)Z"⟩) ∈ UW := UW_in (lw_i5 (List.mem_of_getElem? (i := 166) rfl)) rfl
theorem mw_5_168 : (Cond.instanceMethod ⟨"FaultTestsModel", "right", "(ZI)Z"⟩) ∈ UW := UW_in (lw_i5 (List.mem_of_getElem? (i := 168) rfl)) rfl
theorem mw_5_169 : (Cond.code ⟨"FaultTestsModel", "right", "(ZI)Z"⟩ prog_10_method_7_code 3 (some .boolean)) ∈ UW := UW_in (lw_i5 (List.mem_of_getElem? (i := 169) rfl)) rfl
theorem mw_5_170 : (Cond.methodLink "FaultTestsModel" 265 ⟨"FaultTestsModel", "readsAll", "()Z"⟩) ∈ UW := UW_in (lw_i5 (List.mem_of_getElem? (i := 170) rfl)) rfl
theorem mw_5_172 : (Cond.instanceMethod ⟨"FaultTestsModel", "readsAll", "()Z"⟩) ∈ UW := UW_in (lw_i5 (List.mem_of_getElem? (i := 172) rfl)) rfl
theorem mw_5_173 : (Cond.code ⟨"FaultTestsModel", "readsAll", "()Z"⟩ prog_10_method_55_code 1 (some .boolean)) ∈ UW := UW_in (lw_i5 (List.mem_of_getElem? (i := 173) rfl)) rfl
theorem mw_5_175 : (Cond.methodLink "FaultTestsModel" 196 ⟨"FaultTestsModel", "takes", "(Ljava/lang/String;)Z"⟩) ∈ UW := UW_in (lw_i5 (List.mem_of_getElem? (i := 175) rfl)) rfl
theorem mw_5_177 : (Cond.instanceMethod ⟨"FaultTestsModel", "takes", "(Ljava/lang/String;)Z"⟩) ∈ UW := UW_in (lw_i5 (List.mem_of_getElem? (i := 177) rfl)) rfl
theorem mw_5_178 : (Cond.code ⟨"FaultTestsModel", "takes", "(Ljava/lang/String;)Z"⟩ prog_10_method_42_code 4 (some .boolean)) ∈ UW := UW_in (lw_i5 (List.mem_of_getElem? (i := 178) rfl)) rfl
theorem mw_5_179 : (Cond.methodLink "FaultTestsModel" 158 ⟨"FaultTestsModel", "here", "()I"⟩) ∈ UW := UW_in (lw_i5 (List.mem_of_getElem? (i := 179) rfl)) rfl
theorem mw_5_181 : (Cond.instanceMethod ⟨"FaultTestsModel", "here", "()I"⟩) ∈ UW := UW_in (lw_i5 (List.mem_of_getElem? (i := 181) rfl)) rfl
theorem mw_5_182 : (Cond.code ⟨"FaultTestsModel", "here", "()I"⟩ prog_10_method_39_code 1 (some .int)) ∈ UW := UW_in (lw_i5 (List.mem_of_getElem? (i := 182) rfl)) rfl
theorem mw_5_183 : (Cond.methodLink "FaultTestsModel" 161 ⟨"FaultTestsModel", "isLetter", "(I)Z"⟩) ∈ UW := UW_in (lw_i5 (List.mem_of_getElem? (i := 183) rfl)) rfl
theorem mw_5_184 : (Cond.static ⟨"FaultTestsModel", "isLetter", "(I)Z"⟩) ∈ UW := UW_in (lw_i5 (List.mem_of_getElem? (i := 184) rfl)) rfl
theorem mw_5_185 : (Cond.code ⟨"FaultTestsModel", "isLetter", "(I)Z"⟩ prog_10_method_40_code 1 (some .boolean)) ∈ UW := UW_in (lw_i5 (List.mem_of_getElem? (i := 185) rfl)) rfl
theorem mw_5_186 : (Cond.methodLink "FaultTestsModel" 165 ⟨"java/lang/String", "length", "()I"⟩) ∈ UW := UW_in (lw_i5 (List.mem_of_getElem? (i := 186) rfl)) rfl
theorem mw_5_187 : (Cond.methodLink "FaultTestsModel" 169 ⟨"java/lang/String", "charAt", "(I)C"⟩) ∈ UW := UW_in (lw_i5 (List.mem_of_getElem? (i := 187) rfl)) rfl
theorem mw_5_188 : (Cond.methodLink "FaultTestsModel" 173 ⟨"FaultTestsModel", "fails", "(II)Z"⟩) ∈ UW := UW_in (lw_i5 (List.mem_of_getElem? (i := 188) rfl)) rfl
theorem mw_5_190 : (Cond.instanceMethod ⟨"FaultTestsModel", "fails", "(II)Z"⟩) ∈ UW := UW_in (lw_i5 (List.mem_of_getElem? (i := 190) rfl)) rfl
theorem mw_5_191 : (Cond.code ⟨"FaultTestsModel", "fails", "(II)Z"⟩ prog_10_method_38_code 3 (some .boolean)) ∈ UW := UW_in (lw_i5 (List.mem_of_getElem? (i := 191) rfl)) rfl
theorem mw_5_192 : (Cond.methodLink "FaultTestsModel" 191 ⟨"FaultTestsModel", "reads", "(II)Z"⟩) ∈ UW := UW_in (lw_i5 (List.mem_of_getElem? (i := 192) rfl)) rfl
theorem mw_5_194 : (Cond.instanceMethod ⟨"FaultTestsModel", "reads", "(II)Z"⟩) ∈ UW := UW_in (lw_i5 (List.mem_of_getElem? (i := 194) rfl)) rfl
theorem mw_5_195 : (Cond.code ⟨"FaultTestsModel", "reads", "(II)Z"⟩ prog_10_method_44_code 3 (some .boolean)) ∈ UW := UW_in (lw_i5 (List.mem_of_getElem? (i := 195) rfl)) rfl
theorem mw_5_196 : (Cond.methodLink "FaultTestsModel" 177 ⟨"FaultTestsModel", "isDigit", "(I)Z"⟩) ∈ UW := UW_in (lw_i5 (List.mem_of_getElem? (i := 196) rfl)) rfl
theorem mw_5_197 : (Cond.static ⟨"FaultTestsModel", "isDigit", "(I)Z"⟩) ∈ UW := UW_in (lw_i5 (List.mem_of_getElem? (i := 197) rfl)) rfl
theorem mw_5_198 : (Cond.code ⟨"FaultTestsModel", "isDigit", "(I)Z"⟩ prog_10_method_41_code 1 (some .boolean)) ∈ UW := UW_in (lw_i5 (List.mem_of_getElem? (i := 198) rfl)) rfl
theorem mw_5_199 : (Cond.constant "FaultTestsModel" 186 (100000 : Int32)) ∈ UW := UW_in (lw_i5 (List.mem_of_getElem? (i := 199) rfl)) rfl
theorem mw_5_200 : (Cond.methodLink "FaultTestsModel" 253 ⟨"FaultTestsModel", "sign", "(I)Z"⟩) ∈ UW := UW_in (lw_i5 (List.mem_of_getElem? (i := 200) rfl)) rfl
theorem mw_5_202 : (Cond.instanceMethod ⟨"FaultTestsModel", "sign", "(I)Z"⟩) ∈ UW := UW_in (lw_i5 (List.mem_of_getElem? (i := 202) rfl)) rfl
theorem mw_5_203 : (Cond.code ⟨"FaultTestsModel", "sign", "(I)Z"⟩ prog_10_method_43_code 2 (some .boolean)) ∈ UW := UW_in (lw_i5 (List.mem_of_getElem? (i := 203) rfl)) rfl
theorem mw_5_204 : (Cond.methodLink "FaultTestsModel" 258 ⟨"FaultTestsModel", "readsLine", "()Z"⟩) ∈ UW := UW_in (lw_i5 (List.mem_of_getElem? (i := 204) rfl)) rfl
theorem mw_5_206 : (Cond.instanceMethod ⟨"FaultTestsModel", "readsLine", "()Z"⟩) ∈ UW := UW_in (lw_i5 (List.mem_of_getElem? (i := 206) rfl)) rfl
theorem mw_5_207 : (Cond.code ⟨"FaultTestsModel", "readsLine", "()Z"⟩ prog_10_method_54_code 3 (some .boolean)) ∈ UW := UW_in (lw_i5 (List.mem_of_getElem? (i := 207) rfl)) rfl
theorem mw_5_209 : (Cond.methodLink "FaultTestsModel" 235 ⟨"FaultTestsModel", "readsGate", "(I)Z"⟩) ∈ UW := UW_in (lw_i5 (List.mem_of_getElem? (i := 209) rfl)) rfl
theorem mw_5_211 : (Cond.instanceMethod ⟨"FaultTestsModel", "readsGate", "(I)Z"⟩) ∈ UW := UW_in (lw_i5 (List.mem_of_getElem? (i := 211) rfl)) rfl
theorem mw_5_212 : (Cond.code ⟨"FaultTestsModel", "readsGate", "(I)Z"⟩ prog_10_method_49_code 5 (some .boolean)) ∈ UW := UW_in (lw_i5 (List.mem_of_getElem? (i := 212) rfl)) rfl
theorem mw_5_213 : (Cond.methodLink "FaultTestsModel" 216 ⟨"FaultTestsModel", "kindHere", "()I"⟩) ∈ UW := UW_in (lw_i5 (List.mem_of_getElem? (i := 213) rfl)) rfl
theorem mw_5_215 : (Cond.instanceMethod ⟨"FaultTestsModel", "kindHere", "()I"⟩) ∈ UW := UW_in (lw_i5 (List.mem_of_getElem? (i := 215) rfl)) rfl
theorem mw_5_216 : (Cond.code ⟨"FaultTestsModel", "kindHere", "()I"⟩ prog_10_method_46_code 1 (some .int)) ∈ UW := UW_in (lw_i5 (List.mem_of_getElem? (i := 216) rfl)) rfl
theorem mw_5_226 : (Cond.methodLink "FaultTestsModel" 219 ⟨"FaultTestsModel", "fewest", "(I)I"⟩) ∈ UW := UW_in (lw_i5 (List.mem_of_getElem? (i := 226) rfl)) rfl
theorem mw_5_227 : (Cond.static ⟨"FaultTestsModel", "fewest", "(I)I"⟩) ∈ UW := UW_in (lw_i5 (List.mem_of_getElem? (i := 227) rfl)) rfl
theorem mw_5_228 : (Cond.code ⟨"FaultTestsModel", "fewest", "(I)I"⟩ prog_10_method_47_code 1 (some .int)) ∈ UW := UW_in (lw_i5 (List.mem_of_getElem? (i := 228) rfl)) rfl
theorem mw_5_229 : (Cond.methodLink "FaultTestsModel" 222 ⟨"FaultTestsModel", "mostOf", "(I)I"⟩) ∈ UW := UW_in (lw_i5 (List.mem_of_getElem? (i := 229) rfl)) rfl
theorem mw_5_230 : (Cond.static ⟨"FaultTestsModel", "mostOf", "(I)I"⟩) ∈ UW := UW_in (lw_i5 (List.mem_of_getElem? (i := 230) rfl)) rfl
theorem mw_5_231 : (Cond.code ⟨"FaultTestsModel", "mostOf", "(I)I"⟩ prog_10_method_48_code 1 (some .int)) ∈ UW := UW_in (lw_i5 (List.mem_of_getElem? (i := 231) rfl)) rfl
theorem mw_5_232 : (Cond.methodLink "FaultTestsModel" 225 ⟨"FaultTestsModel", "readsWire", "()Z"⟩) ∈ UW := UW_in (lw_i5 (List.mem_of_getElem? (i := 232) rfl)) rfl
theorem mw_5_234 : (Cond.instanceMethod ⟨"FaultTestsModel", "readsWire", "()Z"⟩) ∈ UW := UW_in (lw_i5 (List.mem_of_getElem? (i := 234) rfl)) rfl
theorem mw_5_235 : (Cond.code ⟨"FaultTestsModel", "readsWire", "()Z"⟩ prog_10_method_45_code 1 (some .boolean)) ∈ UW := UW_in (lw_i5 (List.mem_of_getElem? (i := 235) rfl)) rfl
theorem mw_5_237 : (Cond.methodLink "FaultTestsModel" 240 ⟨"FaultTestsModel", "readsOutputs", "()Z"⟩) ∈ UW := UW_in (lw_i5 (List.mem_of_getElem? (i := 237) rfl)) rfl
theorem mw_5_239 : (Cond.instanceMethod ⟨"FaultTestsModel", "readsOutputs", "()Z"⟩) ∈ UW := UW_in (lw_i5 (List.mem_of_getElem? (i := 239) rfl)) rfl
theorem mw_6_0 : (Cond.code ⟨"FaultTestsModel", "readsOutputs", "()Z"⟩ prog_10_method_50_code 3 (some .boolean)) ∈ UW := UW_in (lw_i6 (List.mem_of_getElem? (i := 0) rfl)) rfl
theorem mw_6_2 : (Cond.methodLink "FaultTestsModel" 245 ⟨"FaultTestsModel", "readsBridge", "(I)Z"⟩) ∈ UW := UW_in (lw_i6 (List.mem_of_getElem? (i := 2) rfl)) rfl
theorem mw_6_4 : (Cond.instanceMethod ⟨"FaultTestsModel", "readsBridge", "(I)Z"⟩) ∈ UW := UW_in (lw_i6 (List.mem_of_getElem? (i := 4) rfl)) rfl
theorem mw_6_5 : (Cond.code ⟨"FaultTestsModel", "readsBridge", "(I)Z"⟩ prog_10_method_52_code 5 (some .boolean)) ∈ UW := UW_in (lw_i6 (List.mem_of_getElem? (i := 5) rfl)) rfl
theorem mw_6_6 : (Cond.methodLink "FaultTestsModel" 229 ⟨"FaultTestsModel", "dependsOn", "(II)Z"⟩) ∈ UW := UW_in (lw_i6 (List.mem_of_getElem? (i := 6) rfl)) rfl
theorem mw_6_8 : (Cond.instanceMethod ⟨"FaultTestsModel", "dependsOn", "(II)Z"⟩) ∈ UW := UW_in (lw_i6 (List.mem_of_getElem? (i := 8) rfl)) rfl
theorem mw_6_9 : (Cond.code ⟨"FaultTestsModel", "dependsOn", "(II)Z"⟩ prog_10_method_51_code 5 (some .boolean)) ∈ UW := UW_in (lw_i6 (List.mem_of_getElem? (i := 9) rfl)) rfl
theorem mw_6_11 : (Cond.methodLink "FaultTestsModel" 250 ⟨"FaultTestsModel", "readsTest", "(I)Z"⟩) ∈ UW := UW_in (lw_i6 (List.mem_of_getElem? (i := 11) rfl)) rfl
theorem mw_6_13 : (Cond.instanceMethod ⟨"FaultTestsModel", "readsTest", "(I)Z"⟩) ∈ UW := UW_in (lw_i6 (List.mem_of_getElem? (i := 13) rfl)) rfl
theorem mw_6_14 : (Cond.code ⟨"FaultTestsModel", "readsTest", "(I)Z"⟩ prog_10_method_53_code 5 (some .boolean)) ∈ UW := UW_in (lw_i6 (List.mem_of_getElem? (i := 14) rfl)) rfl
theorem mw_6_16 : (Cond.methodLink "FaultTestsModel" 268 ⟨"FaultTestsModel", "change", "()V"⟩) ∈ UW := UW_in (lw_i6 (List.mem_of_getElem? (i := 16) rfl)) rfl
theorem mw_6_18 : (Cond.instanceMethod ⟨"FaultTestsModel", "change", "()V"⟩) ∈ UW := UW_in (lw_i6 (List.mem_of_getElem? (i := 18) rfl)) rfl
theorem mw_6_19 : (Cond.code ⟨"FaultTestsModel", "change", "()V"⟩ prog_10_method_6_code 3 none) ∈ UW := UW_in (lw_i6 (List.mem_of_getElem? (i := 19) rfl)) rfl
theorem mw_6_20 : (Cond.methodLink "FaultTestsModel" 67 ⟨"FaultTestsModel", "get", "(I)I"⟩) ∈ UW := UW_in (lw_i6 (List.mem_of_getElem? (i := 20) rfl)) rfl
theorem mw_6_22 : (Cond.instanceMethod ⟨"FaultTestsModel", "get", "(I)I"⟩) ∈ UW := UW_in (lw_i6 (List.mem_of_getElem? (i := 22) rfl)) rfl
theorem mw_6_23 : (Cond.code ⟨"FaultTestsModel", "get", "(I)I"⟩ prog_10_method_4_code 2 (some .int)) ∈ UW := UW_in (lw_i6 (List.mem_of_getElem? (i := 23) rfl)) rfl
theorem mw_6_24 : (Cond.methodLink "FaultTestsModel" 74 ⟨"FaultTestsModel", "wires", "()I"⟩) ∈ UW := UW_in (lw_i6 (List.mem_of_getElem? (i := 24) rfl)) rfl
theorem mw_6_26 : (Cond.instanceMethod ⟨"FaultTestsModel", "wires", "()I"⟩) ∈ UW := UW_in (lw_i6 (List.mem_of_getElem? (i := 26) rfl)) rfl
theorem mw_6_27 : (Cond.code ⟨"FaultTestsModel", "wires", "()I"⟩ prog_10_method_10_code 1 (some .int)) ∈ UW := UW_in (lw_i6 (List.mem_of_getElem? (i := 27) rfl)) rfl
theorem mw_6_28 : (Cond.methodLink "FaultTestsLaw" 97 ⟨"FaultTestsModel", "state", "(I)I"⟩) ∈ UW := UW_in (lw_i6 (List.mem_of_getElem? (i := 28) rfl)) rfl
theorem mw_6_29 : (Cond.instanceMethod ⟨"FaultTestsModel", "state", "(I)I"⟩) ∈ UW := UW_in (lw_i6 (List.mem_of_getElem? (i := 29) rfl)) rfl
theorem mw_6_30 : (Cond.selects "FaultTestsModel" ⟨"FaultTestsModel", "state", "(I)I"⟩ ⟨"FaultTestsModel", "state", "(I)I"⟩) ∈ UW := UW_in (lw_i6 (List.mem_of_getElem? (i := 30) rfl)) rfl
theorem mw_6_31 : (Cond.code ⟨"FaultTestsModel", "state", "(I)I"⟩ prog_10_method_61_code 2 (some .int)) ∈ UW := UW_in (lw_i6 (List.mem_of_getElem? (i := 31) rfl)) rfl
theorem mw_6_32 : (Cond.methodLink "FaultTestsModel" 280 ⟨"FaultTestsModel", "told", "(I)I"⟩) ∈ UW := UW_in (lw_i6 (List.mem_of_getElem? (i := 32) rfl)) rfl
theorem mw_6_34 : (Cond.instanceMethod ⟨"FaultTestsModel", "told", "(I)I"⟩) ∈ UW := UW_in (lw_i6 (List.mem_of_getElem? (i := 34) rfl)) rfl
theorem mw_6_35 : (Cond.code ⟨"FaultTestsModel", "told", "(I)I"⟩ prog_10_method_60_code 4 (some .int)) ∈ UW := UW_in (lw_i6 (List.mem_of_getElem? (i := 35) rfl)) rfl
theorem mw_6_36 : (Cond.methodLink "FaultTestsModel" 78 ⟨"FaultTestsModel", "inputs", "()I"⟩) ∈ UW := UW_in (lw_i6 (List.mem_of_getElem? (i := 36) rfl)) rfl
theorem mw_6_38 : (Cond.instanceMethod ⟨"FaultTestsModel", "inputs", "()I"⟩) ∈ UW := UW_in (lw_i6 (List.mem_of_getElem? (i := 38) rfl)) rfl
theorem mw_6_39 : (Cond.code ⟨"FaultTestsModel", "inputs", "()I"⟩ prog_10_method_9_code 1 (some .int)) ∈ UW := UW_in (lw_i6 (List.mem_of_getElem? (i := 39) rfl)) rfl
theorem mw_6_40 : (Cond.methodLink "FaultTestsModel" 109 ⟨"FaultTestsModel", "outputs", "()I"⟩) ∈ UW := UW_in (lw_i6 (List.mem_of_getElem? (i := 40) rfl)) rfl
theorem mw_6_42 : (Cond.instanceMethod ⟨"FaultTestsModel", "outputs", "()I"⟩) ∈ UW := UW_in (lw_i6 (List.mem_of_getElem? (i := 42) rfl)) rfl
theorem mw_6_43 : (Cond.code ⟨"FaultTestsModel", "outputs", "()I"⟩ prog_10_method_11_code 1 (some .int)) ∈ UW := UW_in (lw_i6 (List.mem_of_getElem? (i := 43) rfl)) rfl
theorem mw_6_44 : (Cond.methodLink "FaultTestsModel" 118 ⟨"FaultTestsModel", "faults", "()I"⟩) ∈ UW := UW_in (lw_i6 (List.mem_of_getElem? (i := 44) rfl)) rfl
theorem mw_6_46 : (Cond.instanceMethod ⟨"FaultTestsModel", "faults", "()I"⟩) ∈ UW := UW_in (lw_i6 (List.mem_of_getElem? (i := 46) rfl)) rfl
theorem mw_6_47 : (Cond.code ⟨"FaultTestsModel", "faults", "()I"⟩ prog_10_method_13_code 1 (some .int)) ∈ UW := UW_in (lw_i6 (List.mem_of_getElem? (i := 47) rfl)) rfl
theorem mw_6_48 : (Cond.methodLink "FaultTestsModel" 124 ⟨"FaultTestsModel", "tests", "()I"⟩) ∈ UW := UW_in (lw_i6 (List.mem_of_getElem? (i := 48) rfl)) rfl
theorem mw_6_50 : (Cond.instanceMethod ⟨"FaultTestsModel", "tests", "()I"⟩) ∈ UW := UW_in (lw_i6 (List.mem_of_getElem? (i := 50) rfl)) rfl
theorem mw_6_51 : (Cond.code ⟨"FaultTestsModel", "tests", "()I"⟩ prog_10_method_12_code 1 (some .int)) ∈ UW := UW_in (lw_i6 (List.mem_of_getElem? (i := 51) rfl)) rfl
theorem mw_6_52 : (Cond.methodLink "FaultTestsModel" 271 ⟨"FaultTestsModel", "seenMany", "()I"⟩) ∈ UW := UW_in (lw_i6 (List.mem_of_getElem? (i := 52) rfl)) rfl
theorem mw_6_54 : (Cond.instanceMethod ⟨"FaultTestsModel", "seenMany", "()I"⟩) ∈ UW := UW_in (lw_i6 (List.mem_of_getElem? (i := 54) rfl)) rfl
theorem mw_6_55 : (Cond.code ⟨"FaultTestsModel", "seenMany", "()I"⟩ prog_10_method_84_code 4 (some .int)) ∈ UW := UW_in (lw_i6 (List.mem_of_getElem? (i := 55) rfl)) rfl
theorem mw_6_56 : (Cond.methodLink "FaultTestsModel" 322 ⟨"FaultTestsModel", "seenAt", "(II)I"⟩) ∈ UW := UW_in (lw_i6 (List.mem_of_getElem? (i := 56) rfl)) rfl
theorem mw_6_58 : (Cond.instanceMethod ⟨"FaultTestsModel", "seenAt", "(II)I"⟩) ∈ UW := UW_in (lw_i6 (List.mem_of_getElem? (i := 58) rfl)) rfl
theorem mw_6_59 : (Cond.code ⟨"FaultTestsModel", "seenAt", "(II)I"⟩ prog_10_method_83_code 3 (some .int)) ∈ UW := UW_in (lw_i6 (List.mem_of_getElem? (i := 59) rfl)) rfl
theorem mw_6_60 : (Cond.methodLink "FaultTestsModel" 274 ⟨"FaultTestsModel", "foundMany", "()I"⟩) ∈ UW := UW_in (lw_i6 (List.mem_of_getElem? (i := 60) rfl)) rfl
theorem mw_6_62 : (Cond.instanceMethod ⟨"FaultTestsModel", "foundMany", "()I"⟩) ∈ UW := UW_in (lw_i6 (List.mem_of_getElem? (i := 62) rfl)) rfl
theorem mw_6_63 : (Cond.code ⟨"FaultTestsModel", "foundMany", "()I"⟩ prog_10_method_29_code 3 (some .int)) ∈ UW := UW_in (lw_i6 (List.mem_of_getElem? (i := 63) rfl)) rfl
theorem mw_6_64 : (Cond.methodLink "FaultTestsModel" 127 ⟨"FaultTestsModel", "finders", "()V"⟩) ∈ UW := UW_in (lw_i6 (List.mem_of_getElem? (i := 64) rfl)) rfl
theorem mw_6_66 : (Cond.instanceMethod ⟨"FaultTestsModel", "finders", "()V"⟩) ∈ UW := UW_in (lw_i6 (List.mem_of_getElem? (i := 66) rfl)) rfl
theorem mw_6_67 : (Cond.code ⟨"FaultTestsModel", "finders", "()V"⟩ prog_10_method_28_code 3 none) ∈ UW := UW_in (lw_i6 (List.mem_of_getElem? (i := 67) rfl)) rfl
theorem mw_6_68 : (Cond.methodLink "FaultTestsModel" 115 ⟨"FaultTestsModel", "asksTest", "(I)V"⟩) ∈ UW := UW_in (lw_i6 (List.mem_of_getElem? (i := 68) rfl)) rfl
theorem mw_6_70 : (Cond.instanceMethod ⟨"FaultTestsModel", "asksTest", "(I)V"⟩) ∈ UW := UW_in (lw_i6 (List.mem_of_getElem? (i := 70) rfl)) rfl
theorem mw_6_71 : (Cond.code ⟨"FaultTestsModel", "asksTest", "(I)V"⟩ prog_10_method_23_code 3 none) ∈ UW := UW_in (lw_i6 (List.mem_of_getElem? (i := 71) rfl)) rfl
theorem mw_6_72 : (Cond.methodLink "FaultTestsModel" 102 ⟨"FaultTestsModel", "cleans", "()V"⟩) ∈ UW := UW_in (lw_i6 (List.mem_of_getElem? (i := 72) rfl)) rfl
theorem mw_6_74 : (Cond.instanceMethod ⟨"FaultTestsModel", "cleans", "()V"⟩) ∈ UW := UW_in (lw_i6 (List.mem_of_getElem? (i := 74) rfl)) rfl
theorem mw_6_75 : (Cond.code ⟨"FaultTestsModel", "cleans", "()V"⟩ prog_10_method_21_code 2 none) ∈ UW := UW_in (lw_i6 (List.mem_of_getElem? (i := 75) rfl)) rfl
theorem mw_6_76 : (Cond.methodLink "FaultTestsModel" 98 ⟨"FaultTestsModel", "gate", "(I[I)I"⟩) ∈ UW := UW_in (lw_i6 (List.mem_of_getElem? (i := 76) rfl)) rfl
theorem mw_6_78 : (Cond.instanceMethod ⟨"FaultTestsModel", "gate", "(I[I)I"⟩) ∈ UW := UW_in (lw_i6 (List.mem_of_getElem? (i := 78) rfl)) rfl
theorem mw_6_79 : (Cond.code ⟨"FaultTestsModel", "gate", "(I[I)I"⟩ prog_10_method_20_code 8 (some .int)) ∈ UW := UW_in (lw_i6 (List.mem_of_getElem? (i := 79) rfl)) rfl
theorem mw_6_80 : (Cond.methodLink "FaultTestsModel" 88 ⟨"FaultTestsModel", "kindOf", "(I)I"⟩) ∈ UW := UW_in (lw_i6 (List.mem_of_getElem? (i := 80) rfl)) rfl
theorem mw_6_82 : (Cond.instanceMethod ⟨"FaultTestsModel", "kindOf", "(I)I"⟩) ∈ UW := UW_in (lw_i6 (List.mem_of_getElem? (i := 82) rfl)) rfl
theorem mw_6_83 : (Cond.code ⟨"FaultTestsModel", "kindOf", "(I)I"⟩ prog_10_method_14_code 2 (some .int)) ∈ UW := UW_in (lw_i6 (List.mem_of_getElem? (i := 83) rfl)) rfl
theorem mw_6_84 : (Cond.methodLink "FaultTestsModel" 84 ⟨"FaultTestsModel", "operandOf", "(II)I"⟩) ∈ UW := UW_in (lw_i6 (List.mem_of_getElem? (i := 84) rfl)) rfl
theorem mw_6_86 : (Cond.instanceMethod ⟨"FaultTestsModel", "operandOf", "(II)I"⟩) ∈ UW := UW_in (lw_i6 (List.mem_of_getElem? (i := 86) rfl)) rfl
theorem mw_6_87 : (Cond.code ⟨"FaultTestsModel", "operandOf", "(II)I"⟩ prog_10_method_16_code 3 (some .int)) ∈ UW := UW_in (lw_i6 (List.mem_of_getElem? (i := 87) rfl)) rfl
theorem mw_6_88 : (Cond.methodLink "FaultTestsModel" 91 ⟨"FaultTestsModel", "turned", "(I)I"⟩) ∈ UW := UW_in (lw_i6 (List.mem_of_getElem? (i := 88) rfl)) rfl
theorem mw_6_89 : (Cond.static ⟨"FaultTestsModel", "turned", "(I)I"⟩) ∈ UW := UW_in (lw_i6 (List.mem_of_getElem? (i := 89) rfl)) rfl
theorem mw_6_90 : (Cond.code ⟨"FaultTestsModel", "turned", "(I)I"⟩ prog_10_method_18_code 1 (some .int)) ∈ UW := UW_in (lw_i6 (List.mem_of_getElem? (i := 90) rfl)) rfl
theorem mw_6_91 : (Cond.methodLink "FaultTestsModel" 81 ⟨"FaultTestsModel", "have", "(I)I"⟩) ∈ UW := UW_in (lw_i6 (List.mem_of_getElem? (i := 91) rfl)) rfl
theorem mw_6_93 : (Cond.instanceMethod ⟨"FaultTestsModel", "have", "(I)I"⟩) ∈ UW := UW_in (lw_i6 (List.mem_of_getElem? (i := 93) rfl)) rfl
theorem mw_6_94 : (Cond.code ⟨"FaultTestsModel", "have", "(I)I"⟩ prog_10_method_15_code 2 (some .int)) ∈ UW := UW_in (lw_i6 (List.mem_of_getElem? (i := 94) rfl)) rfl
theorem mw_6_95 : (Cond.methodLink "FaultTestsModel" 94 ⟨"FaultTestsModel", "decided", "(III)I"⟩) ∈ UW := UW_in (lw_i6 (List.mem_of_getElem? (i := 95) rfl)) rfl
theorem mw_6_96 : (Cond.static ⟨"FaultTestsModel", "decided", "(III)I"⟩) ∈ UW := UW_in (lw_i6 (List.mem_of_getElem? (i := 96) rfl)) rfl
theorem mw_6_97 : (Cond.code ⟨"FaultTestsModel", "decided", "(III)I"⟩ prog_10_method_19_code 3 (some .int)) ∈ UW := UW_in (lw_i6 (List.mem_of_getElem? (i := 97) rfl)) rfl
theorem mw_6_98 : (Cond.methodLink "FaultTestsModel" 121 ⟨"FaultTestsModel", "found", "(I)I"⟩) ∈ UW := UW_in (lw_i6 (List.mem_of_getElem? (i := 98) rfl)) rfl
theorem mw_6_100 : (Cond.instanceMethod ⟨"FaultTestsModel", "found", "(I)I"⟩) ∈ UW := UW_in (lw_i6 (List.mem_of_getElem? (i := 100) rfl)) rfl
theorem mw_6_101 : (Cond.code ⟨"FaultTestsModel", "found", "(I)I"⟩ prog_10_method_26_code 6 (some .int)) ∈ UW := UW_in (lw_i6 (List.mem_of_getElem? (i := 101) rfl)) rfl
theorem mw_6_102 : (Cond.methodLink "FaultTestsModel" 105 ⟨"FaultTestsModel", "bends", "(I)V"⟩) ∈ UW := UW_in (lw_i6 (List.mem_of_getElem? (i := 102) rfl)) rfl
theorem mw_6_104 : (Cond.instanceMethod ⟨"FaultTestsModel", "bends", "(I)V"⟩) ∈ UW := UW_in (lw_i6 (List.mem_of_getElem? (i := 104) rfl)) rfl
theorem mw_6_105 : (Cond.code ⟨"FaultTestsModel", "bends", "(I)V"⟩ prog_10_method_22_code 6 none) ∈ UW := UW_in (lw_i6 (List.mem_of_getElem? (i := 105) rfl)) rfl
theorem mw_6_106 : (Cond.methodLink "FaultTestsModel" 112 ⟨"FaultTestsModel", "atOutput", "(I[I)I"⟩) ∈ UW := UW_in (lw_i6 (List.mem_of_getElem? (i := 106) rfl)) rfl
theorem mw_6_108 : (Cond.instanceMethod ⟨"FaultTestsModel", "atOutput", "(I[I)I"⟩) ∈ UW := UW_in (lw_i6 (List.mem_of_getElem? (i := 108) rfl)) rfl
theorem mw_6_109 : (Cond.code ⟨"FaultTestsModel", "atOutput", "(I[I)I"⟩ prog_10_method_25_code 3 (some .int)) ∈ UW := UW_in (lw_i6 (List.mem_of_getElem? (i := 109) rfl)) rfl
theorem mw_6_110 : (Cond.methodLink "FaultTestsModel" 277 ⟨"FaultTestsModel", "levelOf", "(I)I"⟩) ∈ UW := UW_in (lw_i6 (List.mem_of_getElem? (i := 110) rfl)) rfl
theorem mw_6_112 : (Cond.instanceMethod ⟨"FaultTestsModel", "levelOf", "(I)I"⟩) ∈ UW := UW_in (lw_i6 (List.mem_of_getElem? (i := 112) rfl)) rfl
theorem mw_6_113 : (Cond.code ⟨"FaultTestsModel", "levelOf", "(I)I"⟩ prog_10_method_17_code 6 (some .int)) ∈ UW := UW_in (lw_i6 (List.mem_of_getElem? (i := 113) rfl)) rfl
theorem mw_6_114 : (Cond.methodLink "FaultTestsLaw" 101 ⟨"FaultTestsModel", "wire", "(II)I"⟩) ∈ UW := UW_in (lw_i6 (List.mem_of_getElem? (i := 114) rfl)) rfl
theorem mw_6_115 : (Cond.instanceMethod ⟨"FaultTestsModel", "wire", "(II)I"⟩) ∈ UW := UW_in (lw_i6 (List.mem_of_getElem? (i := 115) rfl)) rfl
theorem mw_6_116 : (Cond.selects "FaultTestsModel" ⟨"FaultTestsModel", "wire", "(II)I"⟩ ⟨"FaultTestsModel", "wire", "(II)I"⟩) ∈ UW := UW_in (lw_i6 (List.mem_of_getElem? (i := 116) rfl)) rfl
theorem mw_6_117 : (Cond.code ⟨"FaultTestsModel", "wire", "(II)I"⟩ prog_10_method_65_code 3 (some .int)) ∈ UW := UW_in (lw_i6 (List.mem_of_getElem? (i := 117) rfl)) rfl
theorem mw_6_118 : (Cond.methodLink "FaultTestsModel" 289 ⟨"FaultTestsModel", "isWire", "(I)Z"⟩) ∈ UW := UW_in (lw_i6 (List.mem_of_getElem? (i := 118) rfl)) rfl
theorem mw_6_120 : (Cond.instanceMethod ⟨"FaultTestsModel", "isWire", "(I)Z"⟩) ∈ UW := UW_in (lw_i6 (List.mem_of_getElem? (i := 120) rfl)) rfl
theorem mw_6_121 : (Cond.code ⟨"FaultTestsModel", "isWire", "(I)Z"⟩ prog_10_method_57_code 2 (some .boolean)) ∈ UW := UW_in (lw_i6 (List.mem_of_getElem? (i := 121) rfl)) rfl
theorem mw_6_122 : (Cond.methodLink "FaultTestsModel" 292 ⟨"FaultTestsModel", "ofWire", "(II)I"⟩) ∈ UW := UW_in (lw_i6 (List.mem_of_getElem? (i := 122) rfl)) rfl
theorem mw_6_124 : (Cond.instanceMethod ⟨"FaultTestsModel", "ofWire", "(II)I"⟩) ∈ UW := UW_in (lw_i6 (List.mem_of_getElem? (i := 124) rfl)) rfl
theorem mw_6_125 : (Cond.code ⟨"FaultTestsModel", "ofWire", "(II)I"⟩ prog_10_method_64_code 3 (some .int)) ∈ UW := UW_in (lw_i6 (List.mem_of_getElem? (i := 125) rfl)) rfl
theorem mw_6_126 : (Cond.methodLink "FaultTestsModel" 283 ⟨"FaultTestsModel", "usesOf", "(I)I"⟩) ∈ UW := UW_in (lw_i6 (List.mem_of_getElem? (i := 126) rfl)) rfl
theorem mw_6_128 : (Cond.instanceMethod ⟨"FaultTestsModel", "usesOf", "(I)I"⟩) ∈ UW := UW_in (lw_i6 (List.mem_of_getElem? (i := 128) rfl)) rfl
theorem mw_6_129 : (Cond.code ⟨"FaultTestsModel", "usesOf", "(I)I"⟩ prog_10_method_62_code 5 (some .int)) ∈ UW := UW_in (lw_i6 (List.mem_of_getElem? (i := 129) rfl)) rfl
theorem mw_6_130 : (Cond.methodLink "FaultTestsModel" 286 ⟨"FaultTestsModel", "outputOf", "(I)I"⟩) ∈ UW := UW_in (lw_i6 (List.mem_of_getElem? (i := 130) rfl)) rfl
theorem mw_6_132 : (Cond.instanceMethod ⟨"FaultTestsModel", "outputOf", "(I)I"⟩) ∈ UW := UW_in (lw_i6 (List.mem_of_getElem? (i := 132) rfl)) rfl
theorem mw_6_133 : (Cond.code ⟨"FaultTestsModel", "outputOf", "(I)I"⟩ prog_10_method_63_code 3 (some .int)) ∈ UW := UW_in (lw_i6 (List.mem_of_getElem? (i := 133) rfl)) rfl
theorem mw_6_134 : (Cond.methodLink "FaultTestsLaw" 104 ⟨"FaultTestsModel", "operand", "(II)I"⟩) ∈ UW := UW_in (lw_i6 (List.mem_of_getElem? (i := 134) rfl)) rfl
theorem mw_6_135 : (Cond.instanceMethod ⟨"FaultTestsModel", "operand", "(II)I"⟩) ∈ UW := UW_in (lw_i6 (List.mem_of_getElem? (i := 135) rfl)) rfl
theorem mw_6_136 : (Cond.selects "FaultTestsModel" ⟨"FaultTestsModel", "operand", "(II)I"⟩ ⟨"FaultTestsModel", "operand", "(II)I"⟩) ∈ UW := UW_in (lw_i6 (List.mem_of_getElem? (i := 136) rfl)) rfl
theorem mw_6_137 : (Cond.code ⟨"FaultTestsModel", "operand", "(II)I"⟩ prog_10_method_66_code 3 (some .int)) ∈ UW := UW_in (lw_i6 (List.mem_of_getElem? (i := 137) rfl)) rfl
theorem mw_6_138 : (Cond.methodLink "FaultTestsLaw" 107 ⟨"FaultTestsModel", "value", "(II)I"⟩) ∈ UW := UW_in (lw_i6 (List.mem_of_getElem? (i := 138) rfl)) rfl
theorem mw_6_139 : (Cond.instanceMethod ⟨"FaultTestsModel", "value", "(II)I"⟩) ∈ UW := UW_in (lw_i6 (List.mem_of_getElem? (i := 139) rfl)) rfl
theorem mw_6_140 : (Cond.selects "FaultTestsModel" ⟨"FaultTestsModel", "value", "(II)I"⟩ ⟨"FaultTestsModel", "value", "(II)I"⟩) ∈ UW := UW_in (lw_i6 (List.mem_of_getElem? (i := 140) rfl)) rfl
theorem mw_6_141 : (Cond.code ⟨"FaultTestsModel", "value", "(II)I"⟩ prog_10_method_67_code 3 (some .int)) ∈ UW := UW_in (lw_i6 (List.mem_of_getElem? (i := 141) rfl)) rfl
theorem mw_6_142 : (Cond.methodLink "FaultTestsModel" 295 ⟨"FaultTestsModel", "isTest", "(I)Z"⟩) ∈ UW := UW_in (lw_i6 (List.mem_of_getElem? (i := 142) rfl)) rfl
theorem mw_6_144 : (Cond.instanceMethod ⟨"FaultTestsModel", "isTest", "(I)Z"⟩) ∈ UW := UW_in (lw_i6 (List.mem_of_getElem? (i := 144) rfl)) rfl
theorem mw_6_145 : (Cond.code ⟨"FaultTestsModel", "isTest", "(I)Z"⟩ prog_10_method_59_code 2 (some .boolean)) ∈ UW := UW_in (lw_i6 (List.mem_of_getElem? (i := 145) rfl)) rfl
theorem mw_6_146 : (Cond.methodLink "FaultTestsLaw" 111 ⟨"FaultTestsModel", "faulty", "(III)I"⟩) ∈ UW := UW_in (lw_i6 (List.mem_of_getElem? (i := 146) rfl)) rfl
theorem mw_6_147 : (Cond.instanceMethod ⟨"FaultTestsModel", "faulty", "(III)I"⟩) ∈ UW := UW_in (lw_i6 (List.mem_of_getElem? (i := 147) rfl)) rfl
theorem mw_6_148 : (Cond.selects "FaultTestsModel" ⟨"FaultTestsModel", "faulty", "(III)I"⟩ ⟨"FaultTestsModel", "faulty", "(III)I"⟩) ∈ UW := UW_in (lw_i6 (List.mem_of_getElem? (i := 148) rfl)) rfl
theorem mw_6_149 : (Cond.code ⟨"FaultTestsModel", "faulty", "(III)I"⟩ prog_10_method_68_code 4 (some .int)) ∈ UW := UW_in (lw_i6 (List.mem_of_getElem? (i := 149) rfl)) rfl
theorem mw_6_150 : (Cond.methodLink "FaultTestsModel" 298 ⟨"FaultTestsModel", "isFault", "(I)Z"⟩) ∈ UW := UW_in (lw_i6 (List.mem_of_getElem? (i := 150) rfl)) rfl
theorem mw_6_152 : (Cond.instanceMethod ⟨"FaultTestsModel", "isFault", "(I)Z"⟩) ∈ UW := UW_in (lw_i6 (List.mem_of_getElem? (i := 152) rfl)) rfl
theorem mw_6_153 : (Cond.code ⟨"FaultTestsModel", "isFault", "(I)Z"⟩ prog_10_method_58_code 2 (some .boolean)) ∈ UW := UW_in (lw_i6 (List.mem_of_getElem? (i := 153) rfl)) rfl
theorem mw_6_154 : (Cond.methodLink "FaultTestsLaw" 114 ⟨"FaultTestsModel", "finds", "(II)I"⟩) ∈ UW := UW_in (lw_i6 (List.mem_of_getElem? (i := 154) rfl)) rfl
theorem mw_6_155 : (Cond.instanceMethod ⟨"FaultTestsModel", "finds", "(II)I"⟩) ∈ UW := UW_in (lw_i6 (List.mem_of_getElem? (i := 155) rfl)) rfl
theorem mw_6_156 : (Cond.selects "FaultTestsModel" ⟨"FaultTestsModel", "finds", "(II)I"⟩ ⟨"FaultTestsModel", "finds", "(II)I"⟩) ∈ UW := UW_in (lw_i6 (List.mem_of_getElem? (i := 156) rfl)) rfl
theorem mw_6_157 : (Cond.code ⟨"FaultTestsModel", "finds", "(II)I"⟩ prog_10_method_69_code 3 (some .int)) ∈ UW := UW_in (lw_i6 (List.mem_of_getElem? (i := 157) rfl)) rfl
theorem mw_6_158 : (Cond.methodLink "FaultTestsLaw" 117 ⟨"FaultTestsModel", "tellsApart", "(III)Z"⟩) ∈ UW := UW_in (lw_i6 (List.mem_of_getElem? (i := 158) rfl)) rfl
theorem mw_6_159 : (Cond.instanceMethod ⟨"FaultTestsModel", "tellsApart", "(III)Z"⟩) ∈ UW := UW_in (lw_i6 (List.mem_of_getElem? (i := 159) rfl)) rfl
theorem mw_6_160 : (Cond.selects "FaultTestsModel" ⟨"FaultTestsModel", "tellsApart", "(III)Z"⟩ ⟨"FaultTestsModel", "tellsApart", "(III)Z"⟩) ∈ UW := UW_in (lw_i6 (List.mem_of_getElem? (i := 160) rfl)) rfl
theorem mw_6_161 : (Cond.code ⟨"FaultTestsModel", "tellsApart", "(III)Z"⟩ prog_10_method_70_code 5 (some .boolean)) ∈ UW := UW_in (lw_i6 (List.mem_of_getElem? (i := 161) rfl)) rfl
theorem mw_6_162 : (Cond.methodLink "FaultTestsLaw" 120 ⟨"FaultTestsModel", "worth", "(I)I"⟩) ∈ UW := UW_in (lw_i6 (List.mem_of_getElem? (i := 162) rfl)) rfl
theorem mw_6_163 : (Cond.instanceMethod ⟨"FaultTestsModel", "worth", "(I)I"⟩) ∈ UW := UW_in (lw_i6 (List.mem_of_getElem? (i := 163) rfl)) rfl
theorem mw_6_164 : (Cond.selects "FaultTestsModel" ⟨"FaultTestsModel", "worth", "(I)I"⟩ ⟨"FaultTestsModel", "worth", "(I)I"⟩) ∈ UW := UW_in (lw_i6 (List.mem_of_getElem? (i := 164) rfl)) rfl
theorem mw_6_165 : (Cond.code ⟨"FaultTestsModel", "worth", "(I)I"⟩ prog_10_method_71_code 2 (some .int)) ∈ UW := UW_in (lw_i6 (List.mem_of_getElem? (i := 165) rfl)) rfl
theorem mw_6_166 : (Cond.methodLink "FaultTestsModel" 301 ⟨"FaultTestsModel", "worthOf", "(I)I"⟩) ∈ UW := UW_in (lw_i6 (List.mem_of_getElem? (i := 166) rfl)) rfl
theorem mw_6_168 : (Cond.instanceMethod ⟨"FaultTestsModel", "worthOf", "(I)I"⟩) ∈ UW := UW_in (lw_i6 (List.mem_of_getElem? (i := 168) rfl)) rfl
theorem mw_6_169 : (Cond.code ⟨"FaultTestsModel", "worthOf", "(I)I"⟩ prog_10_method_27_code 4 (some .int)) ∈ UW := UW_in (lw_i6 (List.mem_of_getElem? (i := 169) rfl)) rfl
theorem mw_6_170 : (Cond.methodLink "FaultTestsLaw" 123 ⟨"FaultTestsModel", "testFor", "(I)I"⟩) ∈ UW := UW_in (lw_i6 (List.mem_of_getElem? (i := 170) rfl)) rfl
theorem mw_6_171 : (Cond.instanceMethod ⟨"FaultTestsModel", "testFor", "(I)I"⟩) ∈ UW := UW_in (lw_i6 (List.mem_of_getElem? (i := 171) rfl)) rfl
theorem mw_6_172 : (Cond.selects "FaultTestsModel" ⟨"FaultTestsModel", "testFor", "(I)I"⟩ ⟨"FaultTestsModel", "testFor", "(I)I"⟩) ∈ UW := UW_in (lw_i6 (List.mem_of_getElem? (i := 172) rfl)) rfl
theorem mw_6_173 : (Cond.code ⟨"FaultTestsModel", "testFor", "(I)I"⟩ prog_10_method_72_code 2 (some .int)) ∈ UW := UW_in (lw_i6 (List.mem_of_getElem? (i := 173) rfl)) rfl
theorem mw_6_174 : (Cond.methodLink "FaultTestsModel" 304 ⟨"FaultTestsModel", "lays", "()V"⟩) ∈ UW := UW_in (lw_i6 (List.mem_of_getElem? (i := 174) rfl)) rfl
theorem mw_6_176 : (Cond.instanceMethod ⟨"FaultTestsModel", "lays", "()V"⟩) ∈ UW := UW_in (lw_i6 (List.mem_of_getElem? (i := 176) rfl)) rfl
theorem mw_6_177 : (Cond.code ⟨"FaultTestsModel", "lays", "()V"⟩ prog_10_method_32_code 3 none) ∈ UW := UW_in (lw_i6 (List.mem_of_getElem? (i := 177) rfl)) rfl
theorem mw_6_178 : (Cond.methodLink "FaultTestsModel" 130 ⟨"FaultTestsModel", "fulls", "()I"⟩) ∈ UW := UW_in (lw_i6 (List.mem_of_getElem? (i := 178) rfl)) rfl
theorem mw_6_180 : (Cond.instanceMethod ⟨"FaultTestsModel", "fulls", "()I"⟩) ∈ UW := UW_in (lw_i6 (List.mem_of_getElem? (i := 180) rfl)) rfl
theorem mw_6_181 : (Cond.code ⟨"FaultTestsModel", "fulls", "()I"⟩ prog_10_method_30_code 1 (some .int)) ∈ UW := UW_in (lw_i6 (List.mem_of_getElem? (i := 181) rfl)) rfl
theorem mw_6_182 : (Cond.methodLink "FaultTestsModel" 133 ⟨"FaultTestsModel", "asksFull", "(I)V"⟩) ∈ UW := UW_in (lw_i6 (List.mem_of_getElem? (i := 182) rfl)) rfl
theorem mw_6_184 : (Cond.instanceMethod ⟨"FaultTestsModel", "asksFull", "(I)V"⟩) ∈ UW := UW_in (lw_i6 (List.mem_of_getElem? (i := 184) rfl)) rfl
theorem mw_6_185 : (Cond.code ⟨"FaultTestsModel", "asksFull", "(I)V"⟩ prog_10_method_24_code 3 none) ∈ UW := UW_in (lw_i6 (List.mem_of_getElem? (i := 185) rfl)) rfl
theorem mw_6_186 : (Cond.methodLink "FaultTestsModel" 136 ⟨"FaultTestsModel", "bitsAt", "([I)I"⟩) ∈ UW := UW_in (lw_i6 (List.mem_of_getElem? (i := 186) rfl)) rfl
theorem mw_6_188 : (Cond.instanceMethod ⟨"FaultTestsModel", "bitsAt", "([I)I"⟩) ∈ UW := UW_in (lw_i6 (List.mem_of_getElem? (i := 188) rfl)) rfl
theorem mw_6_189 : (Cond.code ⟨"FaultTestsModel", "bitsAt", "([I)I"⟩ prog_10_method_31_code 4 (some .int)) ∈ UW := UW_in (lw_i6 (List.mem_of_getElem? (i := 189) rfl)) rfl
theorem mw_6_190 : (Cond.methodLink "FaultTestsModel" 140 ⟨"FaultTestsModel", "between", "(II)I"⟩) ∈ UW := UW_in (lw_i6 (List.mem_of_getElem? (i := 190) rfl)) rfl
theorem mw_6_192 : (Cond.instanceMethod ⟨"FaultTestsModel", "between", "(II)I"⟩) ∈ UW := UW_in (lw_i6 (List.mem_of_getElem? (i := 192) rfl)) rfl
theorem mw_6_193 : (Cond.code ⟨"FaultTestsModel", "between", "(II)I"⟩ prog_10_method_33_code 4 (some .int)) ∈ UW := UW_in (lw_i6 (List.mem_of_getElem? (i := 193) rfl)) rfl
theorem mw_6_194 : (Cond.methodLink "FaultTestsLaw" 126 ⟨"FaultTestsModel", "testBetween", "(II)I"⟩) ∈ UW := UW_in (lw_i6 (List.mem_of_getElem? (i := 194) rfl)) rfl
theorem mw_6_195 : (Cond.instanceMethod ⟨"FaultTestsModel", "testBetween", "(II)I"⟩) ∈ UW := UW_in (lw_i6 (List.mem_of_getElem? (i := 195) rfl)) rfl
theorem mw_6_196 : (Cond.selects "FaultTestsModel" ⟨"FaultTestsModel", "testBetween", "(II)I"⟩ ⟨"FaultTestsModel", "testBetween", "(II)I"⟩) ∈ UW := UW_in (lw_i6 (List.mem_of_getElem? (i := 196) rfl)) rfl
theorem mw_6_197 : (Cond.code ⟨"FaultTestsModel", "testBetween", "(II)I"⟩ prog_10_method_73_code 3 (some .int)) ∈ UW := UW_in (lw_i6 (List.mem_of_getElem? (i := 197) rfl)) rfl
theorem mw_6_198 : (Cond.methodLink "FaultTestsLaw" 130 ⟨"FaultTestsModel", "hidden", "()I"⟩) ∈ UW := UW_in (lw_i6 (List.mem_of_getElem? (i := 198) rfl)) rfl
theorem mw_6_199 : (Cond.instanceMethod ⟨"FaultTestsModel", "hidden", "()I"⟩) ∈ UW := UW_in (lw_i6 (List.mem_of_getElem? (i := 199) rfl)) rfl
theorem mw_6_200 : (Cond.selects "FaultTestsModel" ⟨"FaultTestsModel", "hidden", "()I"⟩ ⟨"FaultTestsModel", "hidden", "()I"⟩) ∈ UW := UW_in (lw_i6 (List.mem_of_getElem? (i := 200) rfl)) rfl
theorem mw_6_201 : (Cond.code ⟨"FaultTestsModel", "hidden", "()I"⟩ prog_10_method_75_code 1 (some .int)) ∈ UW := UW_in (lw_i6 (List.mem_of_getElem? (i := 201) rfl)) rfl
theorem mw_6_202 : (Cond.methodLink "FaultTestsModel" 310 ⟨"FaultTestsModel", "hiddenMany", "()I"⟩) ∈ UW := UW_in (lw_i6 (List.mem_of_getElem? (i := 202) rfl)) rfl
theorem mw_6_204 : (Cond.instanceMethod ⟨"FaultTestsModel", "hiddenMany", "()I"⟩) ∈ UW := UW_in (lw_i6 (List.mem_of_getElem? (i := 204) rfl)) rfl
theorem mw_6_205 : (Cond.code ⟨"FaultTestsModel", "hiddenMany", "()I"⟩ prog_10_method_74_code 3 (some .int)) ∈ UW := UW_in (lw_i6 (List.mem_of_getElem? (i := 205) rfl)) rfl
theorem mw_6_206 : (Cond.methodLink "FaultTestsModel" 307 ⟨"FaultTestsModel", "isHidden", "(I)Z"⟩) ∈ UW := UW_in (lw_i6 (List.mem_of_getElem? (i := 206) rfl)) rfl
theorem mw_6_208 : (Cond.instanceMethod ⟨"FaultTestsModel", "isHidden", "(I)Z"⟩) ∈ UW := UW_in (lw_i6 (List.mem_of_getElem? (i := 208) rfl)) rfl
theorem mw_6_209 : (Cond.code ⟨"FaultTestsModel", "isHidden", "(I)Z"⟩ prog_10_method_34_code 2 (some .boolean)) ∈ UW := UW_in (lw_i6 (List.mem_of_getElem? (i := 209) rfl)) rfl
theorem mw_6_210 : (Cond.methodLink "FaultTestsLaw" 133 ⟨"FaultTestsModel", "alike", "(I)I"⟩) ∈ UW := UW_in (lw_i6 (List.mem_of_getElem? (i := 210) rfl)) rfl
theorem mw_6_211 : (Cond.instanceMethod ⟨"FaultTestsModel", "alike", "(I)I"⟩) ∈ UW := UW_in (lw_i6 (List.mem_of_getElem? (i := 211) rfl)) rfl
theorem mw_6_212 : (Cond.selects "FaultTestsModel" ⟨"FaultTestsModel", "alike", "(I)I"⟩ ⟨"FaultTestsModel", "alike", "(I)I"⟩) ∈ UW := UW_in (lw_i6 (List.mem_of_getElem? (i := 212) rfl)) rfl
theorem mw_6_213 : (Cond.code ⟨"FaultTestsModel", "alike", "(I)I"⟩ prog_10_method_77_code 2 (some .int)) ∈ UW := UW_in (lw_i6 (List.mem_of_getElem? (i := 213) rfl)) rfl
theorem mw_6_214 : (Cond.methodLink "FaultTestsModel" 313 ⟨"FaultTestsModel", "firstAlike", "(I)I"⟩) ∈ UW := UW_in (lw_i6 (List.mem_of_getElem? (i := 214) rfl)) rfl
theorem mw_6_216 : (Cond.instanceMethod ⟨"FaultTestsModel", "firstAlike", "(I)I"⟩) ∈ UW := UW_in (lw_i6 (List.mem_of_getElem? (i := 216) rfl)) rfl
theorem mw_6_217 : (Cond.code ⟨"FaultTestsModel", "firstAlike", "(I)I"⟩ prog_10_method_76_code 3 (some .int)) ∈ UW := UW_in (lw_i6 (List.mem_of_getElem? (i := 217) rfl)) rfl
theorem mw_6_218 : (Cond.methodLink "FaultTestsLaw" 137 ⟨"FaultTestsModel", "classes", "()I"⟩) ∈ UW := UW_in (lw_i6 (List.mem_of_getElem? (i := 218) rfl)) rfl
theorem mw_6_219 : (Cond.instanceMethod ⟨"FaultTestsModel", "classes", "()I"⟩) ∈ UW := UW_in (lw_i6 (List.mem_of_getElem? (i := 219) rfl)) rfl
theorem mw_6_220 : (Cond.selects "FaultTestsModel" ⟨"FaultTestsModel", "classes", "()I"⟩ ⟨"FaultTestsModel", "classes", "()I"⟩) ∈ UW := UW_in (lw_i6 (List.mem_of_getElem? (i := 220) rfl)) rfl
theorem mw_6_221 : (Cond.code ⟨"FaultTestsModel", "classes", "()I"⟩ prog_10_method_78_code 3 (some .int)) ∈ UW := UW_in (lw_i6 (List.mem_of_getElem? (i := 221) rfl)) rfl
theorem mw_6_222 : (Cond.methodLink "FaultTestsLaw" 142 ⟨"FaultTestsModel", "coverage", "()D"⟩) ∈ UW := UW_in (lw_i6 (List.mem_of_getElem? (i := 222) rfl)) rfl
theorem mw_6_223 : (Cond.instanceMethod ⟨"FaultTestsModel", "coverage", "()D"⟩) ∈ UW := UW_in (lw_i6 (List.mem_of_getElem? (i := 223) rfl)) rfl
theorem mw_6_224 : (Cond.selects "FaultTestsModel" ⟨"FaultTestsModel", "coverage", "()D"⟩ ⟨"FaultTestsModel", "coverage", "()D"⟩) ∈ UW := UW_in (lw_i6 (List.mem_of_getElem? (i := 224) rfl)) rfl
theorem mw_6_225 : (Cond.code ⟨"FaultTestsModel", "coverage", "()D"⟩ prog_10_method_79_code 2 (some .double)) ∈ UW := UW_in (lw_i6 (List.mem_of_getElem? (i := 225) rfl)) rfl
theorem mw_6_226 : (Cond.methodLink "FaultTestsLaw" 146 ⟨"FaultTestsModel", "leastSet", "()I"⟩) ∈ UW := UW_in (lw_i6 (List.mem_of_getElem? (i := 226) rfl)) rfl
theorem mw_6_227 : (Cond.instanceMethod ⟨"FaultTestsModel", "leastSet", "()I"⟩) ∈ UW := UW_in (lw_i6 (List.mem_of_getElem? (i := 227) rfl)) rfl
theorem mw_6_228 : (Cond.selects "FaultTestsModel" ⟨"FaultTestsModel", "leastSet", "()I"⟩ ⟨"FaultTestsModel", "leastSet", "()I"⟩) ∈ UW := UW_in (lw_i6 (List.mem_of_getElem? (i := 228) rfl)) rfl
theorem mw_6_229 : (Cond.code ⟨"FaultTestsModel", "leastSet", "()I"⟩ prog_10_method_82_code 3 (some .int)) ∈ UW := UW_in (lw_i6 (List.mem_of_getElem? (i := 229) rfl)) rfl
theorem mw_6_230 : (Cond.methodLink "FaultTestsModel" 316 ⟨"FaultTestsModel", "bitsOf", "(I)I"⟩) ∈ UW := UW_in (lw_i6 (List.mem_of_getElem? (i := 230) rfl)) rfl
theorem mw_6_231 : (Cond.static ⟨"FaultTestsModel", "bitsOf", "(I)I"⟩) ∈ UW := UW_in (lw_i6 (List.mem_of_getElem? (i := 231) rfl)) rfl
theorem mw_6_232 : (Cond.code ⟨"FaultTestsModel", "bitsOf", "(I)I"⟩ prog_10_method_80_code 3 (some .int)) ∈ UW := UW_in (lw_i6 (List.mem_of_getElem? (i := 232) rfl)) rfl
theorem mw_6_233 : (Cond.methodLink "FaultTestsModel" 319 ⟨"FaultTestsModel", "findsAll", "(I)Z"⟩) ∈ UW := UW_in (lw_i6 (List.mem_of_getElem? (i := 233) rfl)) rfl
theorem mw_6_235 : (Cond.instanceMethod ⟨"FaultTestsModel", "findsAll", "(I)Z"⟩) ∈ UW := UW_in (lw_i6 (List.mem_of_getElem? (i := 235) rfl)) rfl
theorem mw_6_236 : (Cond.code ⟨"FaultTestsModel", "findsAll", "(I)Z"⟩ prog_10_method_81_code 3 (some .boolean)) ∈ UW := UW_in (lw_i6 (List.mem_of_getElem? (i := 236) rfl)) rfl
theorem mw_6_237 : (Cond.methodLink "FaultTestsLaw" 150 ⟨"FaultTestsModel", "suspects", "()I"⟩) ∈ UW := UW_in (lw_i6 (List.mem_of_getElem? (i := 237) rfl)) rfl
theorem mw_6_238 : (Cond.instanceMethod ⟨"FaultTestsModel", "suspects", "()I"⟩) ∈ UW := UW_in (lw_i6 (List.mem_of_getElem? (i := 238) rfl)) rfl
theorem mw_6_239 : (Cond.selects "FaultTestsModel" ⟨"FaultTestsModel", "suspects", "()I"⟩ ⟨"FaultTestsModel", "suspects", "()I"⟩) ∈ UW := UW_in (lw_i6 (List.mem_of_getElem? (i := 239) rfl)) rfl
theorem mw_7_0 : (Cond.code ⟨"FaultTestsModel", "suspects", "()I"⟩ prog_10_method_88_code 1 (some .int)) ∈ UW := UW_in (lw_i7 (List.mem_of_getElem? (i := 0) rfl)) rfl
theorem mw_7_1 : (Cond.methodLink "FaultTestsModel" 331 ⟨"FaultTestsModel", "fitting", "()I"⟩) ∈ UW := UW_in (lw_i7 (List.mem_of_getElem? (i := 1) rfl)) rfl
theorem mw_7_3 : (Cond.instanceMethod ⟨"FaultTestsModel", "fitting", "()I"⟩) ∈ UW := UW_in (lw_i7 (List.mem_of_getElem? (i := 3) rfl)) rfl
theorem mw_7_4 : (Cond.code ⟨"FaultTestsModel", "fitting", "()I"⟩ prog_10_method_87_code 3 (some .int)) ∈ UW := UW_in (lw_i7 (List.mem_of_getElem? (i := 4) rfl)) rfl
theorem mw_7_5 : (Cond.methodLink "FaultTestsModel" 325 ⟨"FaultTestsModel", "faultAtIndex", "(I)I"⟩) ∈ UW := UW_in (lw_i7 (List.mem_of_getElem? (i := 5) rfl)) rfl
theorem mw_7_7 : (Cond.instanceMethod ⟨"FaultTestsModel", "faultAtIndex", "(I)I"⟩) ∈ UW := UW_in (lw_i7 (List.mem_of_getElem? (i := 7) rfl)) rfl
theorem mw_7_8 : (Cond.code ⟨"FaultTestsModel", "faultAtIndex", "(I)I"⟩ prog_10_method_86_code 2 (some .int)) ∈ UW := UW_in (lw_i7 (List.mem_of_getElem? (i := 8) rfl)) rfl
theorem mw_7_9 : (Cond.methodLink "FaultTestsModel" 328 ⟨"FaultTestsModel", "isFit", "(I)Z"⟩) ∈ UW := UW_in (lw_i7 (List.mem_of_getElem? (i := 9) rfl)) rfl
theorem mw_7_11 : (Cond.instanceMethod ⟨"FaultTestsModel", "isFit", "(I)Z"⟩) ∈ UW := UW_in (lw_i7 (List.mem_of_getElem? (i := 11) rfl)) rfl
theorem mw_7_12 : (Cond.code ⟨"FaultTestsModel", "isFit", "(I)Z"⟩ prog_10_method_85_code 4 (some .boolean)) ∈ UW := UW_in (lw_i7 (List.mem_of_getElem? (i := 12) rfl)) rfl
theorem mw_7_13 : (Cond.methodLink "FaultTestsLaw" 153 ⟨"FaultTestsModel", "suspect", "(I)I"⟩) ∈ UW := UW_in (lw_i7 (List.mem_of_getElem? (i := 13) rfl)) rfl
theorem mw_7_14 : (Cond.instanceMethod ⟨"FaultTestsModel", "suspect", "(I)I"⟩) ∈ UW := UW_in (lw_i7 (List.mem_of_getElem? (i := 14) rfl)) rfl
theorem mw_7_15 : (Cond.selects "FaultTestsModel" ⟨"FaultTestsModel", "suspect", "(I)I"⟩ ⟨"FaultTestsModel", "suspect", "(I)I"⟩) ∈ UW := UW_in (lw_i7 (List.mem_of_getElem? (i := 15) rfl)) rfl
theorem mw_7_16 : (Cond.code ⟨"FaultTestsModel", "suspect", "(I)I"⟩ prog_10_method_89_code 5 (some .int)) ∈ UW := UW_in (lw_i7 (List.mem_of_getElem? (i := 16) rfl)) rfl
theorem mw_7_17 : (Cond.methodLink "FaultTestsLaw" 157 ⟨"FaultTestsModel", "nextTest", "()I"⟩) ∈ UW := UW_in (lw_i7 (List.mem_of_getElem? (i := 17) rfl)) rfl
theorem mw_7_18 : (Cond.instanceMethod ⟨"FaultTestsModel", "nextTest", "()I"⟩) ∈ UW := UW_in (lw_i7 (List.mem_of_getElem? (i := 18) rfl)) rfl
theorem mw_7_19 : (Cond.selects "FaultTestsModel" ⟨"FaultTestsModel", "nextTest", "()I"⟩ ⟨"FaultTestsModel", "nextTest", "()I"⟩) ∈ UW := UW_in (lw_i7 (List.mem_of_getElem? (i := 19) rfl)) rfl
theorem mw_7_20 : (Cond.code ⟨"FaultTestsModel", "nextTest", "()I"⟩ prog_10_method_91_code 5 (some .int)) ∈ UW := UW_in (lw_i7 (List.mem_of_getElem? (i := 20) rfl)) rfl
theorem mw_7_21 : (Cond.methodLink "FaultTestsModel" 334 ⟨"FaultTestsModel", "greatest", "(I)I"⟩) ∈ UW := UW_in (lw_i7 (List.mem_of_getElem? (i := 21) rfl)) rfl
theorem mw_7_23 : (Cond.instanceMethod ⟨"FaultTestsModel", "greatest", "(I)I"⟩) ∈ UW := UW_in (lw_i7 (List.mem_of_getElem? (i := 23) rfl)) rfl
theorem mw_7_24 : (Cond.code ⟨"FaultTestsModel", "greatest", "(I)I"⟩ prog_10_method_90_code 6 (some .int)) ∈ UW := UW_in (lw_i7 (List.mem_of_getElem? (i := 24) rfl)) rfl
theorem mw_7_25 : (Cond.methodLink "FaultTestsLaw" 160 ⟨"FaultTestsModel", "addTest", "(II)I"⟩) ∈ UW := UW_in (lw_i7 (List.mem_of_getElem? (i := 25) rfl)) rfl
theorem mw_7_26 : (Cond.instanceMethod ⟨"FaultTestsModel", "addTest", "(II)I"⟩) ∈ UW := UW_in (lw_i7 (List.mem_of_getElem? (i := 26) rfl)) rfl
theorem mw_7_27 : (Cond.selects "FaultTestsModel" ⟨"FaultTestsModel", "addTest", "(II)I"⟩ ⟨"FaultTestsModel", "addTest", "(II)I"⟩) ∈ UW := UW_in (lw_i7 (List.mem_of_getElem? (i := 27) rfl)) rfl
theorem mw_7_28 : (Cond.code ⟨"FaultTestsModel", "addTest", "(II)I"⟩ prog_10_method_93_code 3 (some .int)) ∈ UW := UW_in (lw_i7 (List.mem_of_getElem? (i := 28) rfl)) rfl
theorem mw_7_29 : (Cond.methodLink "FaultTestsModel" 337 ⟨"FaultTestsModel", "adds", "(II)V"⟩) ∈ UW := UW_in (lw_i7 (List.mem_of_getElem? (i := 29) rfl)) rfl
theorem mw_7_31 : (Cond.instanceMethod ⟨"FaultTestsModel", "adds", "(II)V"⟩) ∈ UW := UW_in (lw_i7 (List.mem_of_getElem? (i := 31) rfl)) rfl
theorem mw_7_32 : (Cond.code ⟨"FaultTestsModel", "adds", "(II)V"⟩ prog_10_method_92_code 5 none) ∈ UW := UW_in (lw_i7 (List.mem_of_getElem? (i := 32) rfl)) rfl
theorem mw_7_33 : (Cond.methodLink "FaultTestsLaw" 163 ⟨"FaultTestsModel", "removeTest", "(I)I"⟩) ∈ UW := UW_in (lw_i7 (List.mem_of_getElem? (i := 33) rfl)) rfl
theorem mw_7_34 : (Cond.instanceMethod ⟨"FaultTestsModel", "removeTest", "(I)I"⟩) ∈ UW := UW_in (lw_i7 (List.mem_of_getElem? (i := 34) rfl)) rfl
theorem mw_7_35 : (Cond.selects "FaultTestsModel" ⟨"FaultTestsModel", "removeTest", "(I)I"⟩ ⟨"FaultTestsModel", "removeTest", "(I)I"⟩) ∈ UW := UW_in (lw_i7 (List.mem_of_getElem? (i := 35) rfl)) rfl
theorem mw_7_36 : (Cond.code ⟨"FaultTestsModel", "removeTest", "(I)I"⟩ prog_10_method_94_code 4 (some .int)) ∈ UW := UW_in (lw_i7 (List.mem_of_getElem? (i := 36) rfl)) rfl
theorem mw_7_37 : (Cond.methodLink "FaultTestsLaw" 166 ⟨"FaultTestsModel", "setKind", "(II)I"⟩) ∈ UW := UW_in (lw_i7 (List.mem_of_getElem? (i := 37) rfl)) rfl
theorem mw_7_38 : (Cond.instanceMethod ⟨"FaultTestsModel", "setKind", "(II)I"⟩) ∈ UW := UW_in (lw_i7 (List.mem_of_getElem? (i := 38) rfl)) rfl
theorem mw_7_39 : (Cond.selects "FaultTestsModel" ⟨"FaultTestsModel", "setKind", "(II)I"⟩ ⟨"FaultTestsModel", "setKind", "(II)I"⟩) ∈ UW := UW_in (lw_i7 (List.mem_of_getElem? (i := 39) rfl)) rfl
theorem mw_7_40 : (Cond.code ⟨"FaultTestsModel", "setKind", "(II)I"⟩ prog_10_method_95_code 4 (some .int)) ∈ UW := UW_in (lw_i7 (List.mem_of_getElem? (i := 40) rfl)) rfl
theorem mw_7_41 : (Cond.methodLink "FaultTestsLaw" 169 ⟨"FaultTestsModel", "see", "(III)I"⟩) ∈ UW := UW_in (lw_i7 (List.mem_of_getElem? (i := 41) rfl)) rfl
theorem mw_7_42 : (Cond.instanceMethod ⟨"FaultTestsModel", "see", "(III)I"⟩) ∈ UW := UW_in (lw_i7 (List.mem_of_getElem? (i := 42) rfl)) rfl
theorem mw_7_43 : (Cond.selects "FaultTestsModel" ⟨"FaultTestsModel", "see", "(III)I"⟩ ⟨"FaultTestsModel", "see", "(III)I"⟩) ∈ UW := UW_in (lw_i7 (List.mem_of_getElem? (i := 43) rfl)) rfl
theorem mw_7_44 : (Cond.code ⟨"FaultTestsModel", "see", "(III)I"⟩ prog_10_method_96_code 4 (some .int)) ∈ UW := UW_in (lw_i7 (List.mem_of_getElem? (i := 44) rfl)) rfl
theorem mw_7_45 : (Cond.methodLink "FaultTestsLaw" 173 ⟨"FaultTestsModel", "forget", "()I"⟩) ∈ UW := UW_in (lw_i7 (List.mem_of_getElem? (i := 45) rfl)) rfl
theorem mw_7_46 : (Cond.instanceMethod ⟨"FaultTestsModel", "forget", "()I"⟩) ∈ UW := UW_in (lw_i7 (List.mem_of_getElem? (i := 46) rfl)) rfl
theorem mw_7_47 : (Cond.selects "FaultTestsModel" ⟨"FaultTestsModel", "forget", "()I"⟩ ⟨"FaultTestsModel", "forget", "()I"⟩) ∈ UW := UW_in (lw_i7 (List.mem_of_getElem? (i := 47) rfl)) rfl
theorem mw_7_48 : (Cond.code ⟨"FaultTestsModel", "forget", "()I"⟩ prog_10_method_97_code 3 (some .int)) ∈ UW := UW_in (lw_i7 (List.mem_of_getElem? (i := 48) rfl)) rfl
theorem mw_7_49 : (Cond.methodLink "FaultTestsLaw" 177 ⟨"FaultTestsModel", "complete", "()I"⟩) ∈ UW := UW_in (lw_i7 (List.mem_of_getElem? (i := 49) rfl)) rfl
theorem mw_7_50 : (Cond.instanceMethod ⟨"FaultTestsModel", "complete", "()I"⟩) ∈ UW := UW_in (lw_i7 (List.mem_of_getElem? (i := 50) rfl)) rfl
theorem mw_7_51 : (Cond.selects "FaultTestsModel" ⟨"FaultTestsModel", "complete", "()I"⟩ ⟨"FaultTestsModel", "complete", "()I"⟩) ∈ UW := UW_in (lw_i7 (List.mem_of_getElem? (i := 51) rfl)) rfl
theorem mw_7_52 : (Cond.code ⟨"FaultTestsModel", "complete", "()I"⟩ prog_10_method_98_code 8 (some .int)) ∈ UW := UW_in (lw_i7 (List.mem_of_getElem? (i := 52) rfl)) rfl
theorem mw_7_53 : (Cond.methodLink "FaultTestsLaw" 181 ⟨"FaultTestsModel", "undo", "()I"⟩) ∈ UW := UW_in (lw_i7 (List.mem_of_getElem? (i := 53) rfl)) rfl
theorem mw_7_54 : (Cond.instanceMethod ⟨"FaultTestsModel", "undo", "()I"⟩) ∈ UW := UW_in (lw_i7 (List.mem_of_getElem? (i := 54) rfl)) rfl
theorem mw_7_55 : (Cond.selects "FaultTestsModel" ⟨"FaultTestsModel", "undo", "()I"⟩ ⟨"FaultTestsModel", "undo", "()I"⟩) ∈ UW := UW_in (lw_i7 (List.mem_of_getElem? (i := 55) rfl)) rfl
theorem mw_7_56 : (Cond.code ⟨"FaultTestsModel", "undo", "()I"⟩ prog_10_method_99_code 1 (some .int)) ∈ UW := UW_in (lw_i7 (List.mem_of_getElem? (i := 56) rfl)) rfl
theorem mw_7_57 : (Cond.methodLink "FaultTestsLaw" 186 ⟨"FaultTestsModel", "checksum", "()J"⟩) ∈ UW := UW_in (lw_i7 (List.mem_of_getElem? (i := 57) rfl)) rfl
theorem mw_7_58 : (Cond.instanceMethod ⟨"FaultTestsModel", "checksum", "()J"⟩) ∈ UW := UW_in (lw_i7 (List.mem_of_getElem? (i := 58) rfl)) rfl
theorem mw_7_59 : (Cond.selects "FaultTestsModel" ⟨"FaultTestsModel", "checksum", "()J"⟩ ⟨"FaultTestsModel", "checksum", "()J"⟩) ∈ UW := UW_in (lw_i7 (List.mem_of_getElem? (i := 59) rfl)) rfl
theorem mw_7_60 : (Cond.code ⟨"FaultTestsModel", "checksum", "()J"⟩ prog_10_method_101_code 5 (some .long)) ∈ UW := UW_in (lw_i7 (List.mem_of_getElem? (i := 60) rfl)) rfl
theorem mw_7_61 : (Cond.methodLink "FaultTestsModel" 342 ⟨"FaultTestsModel", "joins", "(JJ)J"⟩) ∈ UW := UW_in (lw_i7 (List.mem_of_getElem? (i := 61) rfl)) rfl
theorem mw_7_62 : (Cond.static ⟨"FaultTestsModel", "joins", "(JJ)J"⟩) ∈ UW := UW_in (lw_i7 (List.mem_of_getElem? (i := 62) rfl)) rfl
theorem mw_7_63 : (Cond.code ⟨"FaultTestsModel", "joins", "(JJ)J"⟩ prog_10_method_100_code 4 (some .long)) ∈ UW := UW_in (lw_i7 (List.mem_of_getElem? (i := 63) rfl)) rfl
theorem mw_7_64 : (Cond.constantLong "FaultTestsModel" 340 (31 : Int64)) ∈ UW := UW_in (lw_i7 (List.mem_of_getElem? (i := 64) rfl)) rfl
theorem mw_7_65 : (Cond.sameMethod "java/lang/Throwable" "java/lang/Throwable" "fillInStackTrace" "(I)Ljava/lang/Throwable;") ∈ UW := UW_in (lw_i7 (List.mem_of_getElem? (i := 65) rfl)) rfl
theorem mw_7_81 : (Cond.fieldLink "java/lang/String" 9 "java/lang/String" "value" "[B") ∈ UW := UW_in (lw_i7 (List.mem_of_getElem? (i := 81) rfl)) rfl
theorem mw_7_82 : (Cond.fieldLink "java/lang/String" 15 "java/lang/String" "coder" "B") ∈ UW := UW_in (lw_i7 (List.mem_of_getElem? (i := 82) rfl)) rfl
theorem lw_q1 {q : MethodName × Nat} (h : q ∈ lw_privs_1) : q ∈ lw_privs := List.mem_append_left _ h
theorem lw_q2 {q : MethodName × Nat} (h : q ∈ lw_privs_2) : q ∈ lw_privs := List.mem_append_right _ (List.mem_append_left _ h)
theorem lw_q3 {q : MethodName × Nat} (h : q ∈ lw_privs_3) : q ∈ lw_privs := List.mem_append_right _ (List.mem_append_right _ (List.mem_append_left _ h))
theorem lw_q4 {q : MethodName × Nat} (h : q ∈ lw_privs_4) : q ∈ lw_privs := List.mem_append_right _ (List.mem_append_right _ (List.mem_append_right _ (List.mem_append_left _ h)))
theorem lw_q5 {q : MethodName × Nat} (h : q ∈ lw_privs_5) : q ∈ lw_privs := List.mem_append_right _ (List.mem_append_right _ (List.mem_append_right _ (List.mem_append_right _ (List.mem_append_left _ h))))
theorem lw_q6 {q : MethodName × Nat} (h : q ∈ lw_privs_6) : q ∈ lw_privs := List.mem_append_right _ (List.mem_append_right _ (List.mem_append_right _ (List.mem_append_right _ (List.mem_append_right _ (h)))))
theorem lw_sel {q : MethodName × Nat} (h : q ∈ lw_privs) : Cond.selects q.1.cls q.1 q.1 ∈ lw_tbl := List.mem_append_left _ (List.mem_map.mpr ⟨q, h, rfl⟩)
theorem mp_1_0 : (Cond.selects "FaultTests" ⟨"FaultTests", "refreshFullRows", "()V"⟩ ⟨"FaultTests", "refreshFullRows", "()V"⟩) ∈ UW := UW_in (lw_sel (lw_q1 (List.mem_of_getElem? (i := 0) rfl))) rfl
theorem mp_1_1 : (Cond.selects "FaultTests$Lanes" ⟨"FaultTests$Lanes", "runGate", "(LFaultTests$Circuit;I)V"⟩ ⟨"FaultTests$Lanes", "runGate", "(LFaultTests$Circuit;I)V"⟩) ∈ UW := UW_in (lw_sel (lw_q1 (List.mem_of_getElem? (i := 1) rfl))) rfl
theorem mp_1_2 : (Cond.selects "FaultTests$Rows" ⟨"FaultTests$Rows", "store", "(LFaultTests$Circuit;LFaultTests$Lanes;II)V"⟩ ⟨"FaultTests$Rows", "store", "(LFaultTests$Circuit;LFaultTests$Lanes;II)V"⟩) ∈ UW := UW_in (lw_sel (lw_q1 (List.mem_of_getElem? (i := 2) rfl))) rfl
theorem mp_1_3 : (Cond.selects "FaultTests$Lanes" ⟨"FaultTests$Lanes", "setSites", "(LFaultTests$Circuit;LFaultTests$Lanes;I)I"⟩ ⟨"FaultTests$Lanes", "setSites", "(LFaultTests$Circuit;LFaultTests$Lanes;I)I"⟩) ∈ UW := UW_in (lw_sel (lw_q1 (List.mem_of_getElem? (i := 3) rfl))) rfl
theorem mp_1_4 : (Cond.selects "FaultTests" ⟨"FaultTests", "firstAlike", "(I)I"⟩ ⟨"FaultTests", "firstAlike", "(I)I"⟩) ∈ UW := UW_in (lw_sel (lw_q1 (List.mem_of_getElem? (i := 4) rfl))) rfl
theorem mp_1_5 : (Cond.selects "FaultTests" ⟨"FaultTests", "listFoundByTests", "()J"⟩ ⟨"FaultTests", "listFoundByTests", "()J"⟩) ∈ UW := UW_in (lw_sel (lw_q1 (List.mem_of_getElem? (i := 5) rfl))) rfl
theorem mp_1_6 : (Cond.selects "FaultTests" ⟨"FaultTests", "refreshTestRows", "()V"⟩ ⟨"FaultTests", "refreshTestRows", "()V"⟩) ∈ UW := UW_in (lw_sel (lw_q1 (List.mem_of_getElem? (i := 6) rfl))) rfl
theorem mp_1_7 : (Cond.selects "FaultTests" ⟨"FaultTests", "listFound", "(LFaultTests$Rows;I[J)J"⟩ ⟨"FaultTests", "listFound", "(LFaultTests$Rows;I[J)J"⟩) ∈ UW := UW_in (lw_sel (lw_q1 (List.mem_of_getElem? (i := 7) rfl))) rfl
theorem mp_1_8 : (Cond.selects "FaultTests" ⟨"FaultTests", "listFitting", "()I"⟩ ⟨"FaultTests", "listFitting", "()I"⟩) ∈ UW := UW_in (lw_sel (lw_q1 (List.mem_of_getElem? (i := 8) rfl))) rfl
theorem mp_1_9 : (Cond.selects "FaultTests" ⟨"FaultTests", "fits", "(I)Z"⟩ ⟨"FaultTests", "fits", "(I)Z"⟩) ∈ UW := UW_in (lw_sel (lw_q1 (List.mem_of_getElem? (i := 9) rfl))) rfl
theorem mp_1_10 : (Cond.selects "FaultTests" ⟨"FaultTests", "greatestPart", "(II)I"⟩ ⟨"FaultTests", "greatestPart", "(II)I"⟩) ∈ UW := UW_in (lw_sel (lw_q1 (List.mem_of_getElem? (i := 10) rfl))) rfl
theorem mp_1_11 : (Cond.selects "FaultTests" ⟨"FaultTests", "listFoundByFull", "()V"⟩ ⟨"FaultTests", "listFoundByFull", "()V"⟩) ∈ UW := UW_in (lw_sel (lw_q1 (List.mem_of_getElem? (i := 11) rfl))) rfl
theorem mp_1_12 : (Cond.selects "FaultTests" ⟨"FaultTests", "bestFullTest", "(J)I"⟩ ⟨"FaultTests", "bestFullTest", "(J)I"⟩) ∈ UW := UW_in (lw_sel (lw_q1 (List.mem_of_getElem? (i := 12) rfl))) rfl
theorem mp_1_13 : (Cond.selects "FaultTests" ⟨"FaultTests", "forgetRows", "()V"⟩ ⟨"FaultTests", "forgetRows", "()V"⟩) ∈ UW := UW_in (lw_sel (lw_q1 (List.mem_of_getElem? (i := 13) rfl))) rfl
theorem mp_1_14 : (Cond.selects "java/lang/Throwable" ⟨"java/lang/Throwable", "fillInStackTrace", "(I)Ljava/lang/Throwable;"⟩ ⟨"java/lang/Throwable", "fillInStackTrace", "(I)Ljava/lang/Throwable;"⟩) ∈ UW := UW_in (lw_sel (lw_q1 (List.mem_of_getElem? (i := 14) rfl))) rfl
theorem mp_1_15 : (Cond.selects "FaultTests" ⟨"FaultTests", "checksumOfWires", "(J)J"⟩ ⟨"FaultTests", "checksumOfWires", "(J)J"⟩) ∈ UW := UW_in (lw_sel (lw_q1 (List.mem_of_getElem? (i := 15) rfl))) rfl
theorem mp_2_0 : (Cond.selects "FaultTests" ⟨"FaultTests", "checkWire", "(I)V"⟩ ⟨"FaultTests", "checkWire", "(I)V"⟩) ∈ UW := UW_in (lw_sel (lw_q2 (List.mem_of_getElem? (i := 0) rfl))) rfl
theorem mp_2_1 : (Cond.selects "FaultTests" ⟨"FaultTests", "checksumOfTests", "(J)J"⟩ ⟨"FaultTests", "checksumOfTests", "(J)J"⟩) ∈ UW := UW_in (lw_sel (lw_q2 (List.mem_of_getElem? (i := 1) rfl))) rfl
theorem mp_2_2 : (Cond.selects "FaultTests$SetupReader" ⟨"FaultTests$SetupReader", "advance", "()V"⟩ ⟨"FaultTests$SetupReader", "advance", "()V"⟩) ∈ UW := UW_in (lw_sel (lw_q2 (List.mem_of_getElem? (i := 2) rfl))) rfl
theorem mp_2_3 : (Cond.selects "FaultTests$SetupReader" ⟨"FaultTests$SetupReader", "readCircuit", "()Z"⟩ ⟨"FaultTests$SetupReader", "readCircuit", "()Z"⟩) ∈ UW := UW_in (lw_sel (lw_q2 (List.mem_of_getElem? (i := 3) rfl))) rfl
theorem mp_2_4 : (Cond.selects "FaultTests$SetupReader" ⟨"FaultTests$SetupReader", "isWord", "(Ljava/lang/String;)Z"⟩ ⟨"FaultTests$SetupReader", "isWord", "(Ljava/lang/String;)Z"⟩) ∈ UW := UW_in (lw_sel (lw_q2 (List.mem_of_getElem? (i := 4) rfl))) rfl
theorem mp_2_5 : (Cond.selects "FaultTests$SetupReader" ⟨"FaultTests$SetupReader", "fail", "(I)Z"⟩ ⟨"FaultTests$SetupReader", "fail", "(I)Z"⟩) ∈ UW := UW_in (lw_sel (lw_q2 (List.mem_of_getElem? (i := 5) rfl))) rfl
theorem mp_2_6 : (Cond.selects "FaultTests$SetupReader" ⟨"FaultTests$SetupReader", "readSemicolon", "()Z"⟩ ⟨"FaultTests$SetupReader", "readSemicolon", "()Z"⟩) ∈ UW := UW_in (lw_sel (lw_q2 (List.mem_of_getElem? (i := 6) rfl))) rfl
theorem mp_2_7 : (Cond.selects "FaultTests$SetupReader" ⟨"FaultTests$SetupReader", "readStatement", "()Z"⟩ ⟨"FaultTests$SetupReader", "readStatement", "()Z"⟩) ∈ UW := UW_in (lw_sel (lw_q2 (List.mem_of_getElem? (i := 7) rfl))) rfl
theorem mp_2_8 : (Cond.selects "FaultTests$SetupReader" ⟨"FaultTests$SetupReader", "readGate", "()Z"⟩ ⟨"FaultTests$SetupReader", "readGate", "()Z"⟩) ∈ UW := UW_in (lw_sel (lw_q2 (List.mem_of_getElem? (i := 8) rfl))) rfl
theorem mp_2_9 : (Cond.selects "FaultTests$SetupReader" ⟨"FaultTests$SetupReader", "kindOfWord", "()I"⟩ ⟨"FaultTests$SetupReader", "kindOfWord", "()I"⟩) ∈ UW := UW_in (lw_sel (lw_q2 (List.mem_of_getElem? (i := 9) rfl))) rfl
theorem mp_2_10 : (Cond.selects "FaultTests$SetupReader" ⟨"FaultTests$SetupReader", "readOutputs", "()Z"⟩ ⟨"FaultTests$SetupReader", "readOutputs", "()Z"⟩) ∈ UW := UW_in (lw_sel (lw_q2 (List.mem_of_getElem? (i := 10) rfl))) rfl
theorem mp_2_11 : (Cond.selects "FaultTests$SetupReader" ⟨"FaultTests$SetupReader", "readBridge", "()Z"⟩ ⟨"FaultTests$SetupReader", "readBridge", "()Z"⟩) ∈ UW := UW_in (lw_sel (lw_q2 (List.mem_of_getElem? (i := 11) rfl))) rfl
theorem mp_2_12 : (Cond.selects "FaultTests$SetupReader" ⟨"FaultTests$SetupReader", "isKnownWire", "()Z"⟩ ⟨"FaultTests$SetupReader", "isKnownWire", "()Z"⟩) ∈ UW := UW_in (lw_sel (lw_q2 (List.mem_of_getElem? (i := 12) rfl))) rfl
theorem mp_2_13 : (Cond.selects "FaultTests$SetupReader" ⟨"FaultTests$SetupReader", "readTest", "()Z"⟩ ⟨"FaultTests$SetupReader", "readTest", "()Z"⟩) ∈ UW := UW_in (lw_sel (lw_q2 (List.mem_of_getElem? (i := 13) rfl))) rfl
theorem mp_2_14 : (Cond.selects "FaultTests" ⟨"FaultTests", "checkTest", "(I)V"⟩ ⟨"FaultTests", "checkTest", "(I)V"⟩) ∈ UW := UW_in (lw_sel (lw_q2 (List.mem_of_getElem? (i := 14) rfl))) rfl
theorem mp_2_15 : (Cond.selects "FaultTests" ⟨"FaultTests", "checkFault", "(I)V"⟩ ⟨"FaultTests", "checkFault", "(I)V"⟩) ∈ UW := UW_in (lw_sel (lw_q2 (List.mem_of_getElem? (i := 15) rfl))) rfl
theorem mp_3_0 : (Cond.selects "FaultTests" ⟨"FaultTests", "areInputs", "(I)Z"⟩ ⟨"FaultTests", "areInputs", "(I)Z"⟩) ∈ UW := UW_in (lw_sel (lw_q3 (List.mem_of_getElem? (i := 0) rfl))) rfl
theorem mp_3_1 : (Cond.selects "FaultTestsModel" ⟨"FaultTestsModel", "plain", "()V"⟩ ⟨"FaultTestsModel", "plain", "()V"⟩) ∈ UW := UW_in (lw_sel (lw_q3 (List.mem_of_getElem? (i := 1) rfl))) rfl
theorem mp_3_2 : (Cond.selects "FaultTestsModel" ⟨"FaultTestsModel", "put", "(II)V"⟩ ⟨"FaultTestsModel", "put", "(II)V"⟩) ∈ UW := UW_in (lw_sel (lw_q3 (List.mem_of_getElem? (i := 2) rfl))) rfl
theorem mp_3_3 : (Cond.selects "FaultTestsModel" ⟨"FaultTestsModel", "four", "(I)V"⟩ ⟨"FaultTestsModel", "four", "(I)V"⟩) ∈ UW := UW_in (lw_sel (lw_q3 (List.mem_of_getElem? (i := 3) rfl))) rfl
theorem mp_3_4 : (Cond.selects "FaultTestsModel" ⟨"FaultTestsModel", "right", "(ZI)Z"⟩ ⟨"FaultTestsModel", "right", "(ZI)Z"⟩) ∈ UW := UW_in (lw_sel (lw_q3 (List.mem_of_getElem? (i := 4) rfl))) rfl
theorem mp_3_5 : (Cond.selects "FaultTestsModel" ⟨"FaultTestsModel", "readsAll", "()Z"⟩ ⟨"FaultTestsModel", "readsAll", "()Z"⟩) ∈ UW := UW_in (lw_sel (lw_q3 (List.mem_of_getElem? (i := 5) rfl))) rfl
theorem mp_3_6 : (Cond.selects "FaultTestsModel" ⟨"FaultTestsModel", "takes", "(Ljava/lang/String;)Z"⟩ ⟨"FaultTestsModel", "takes", "(Ljava/lang/String;)Z"⟩) ∈ UW := UW_in (lw_sel (lw_q3 (List.mem_of_getElem? (i := 6) rfl))) rfl
theorem mp_3_7 : (Cond.selects "FaultTestsModel" ⟨"FaultTestsModel", "here", "()I"⟩ ⟨"FaultTestsModel", "here", "()I"⟩) ∈ UW := UW_in (lw_sel (lw_q3 (List.mem_of_getElem? (i := 7) rfl))) rfl
theorem mp_3_8 : (Cond.selects "FaultTestsModel" ⟨"FaultTestsModel", "fails", "(II)Z"⟩ ⟨"FaultTestsModel", "fails", "(II)Z"⟩) ∈ UW := UW_in (lw_sel (lw_q3 (List.mem_of_getElem? (i := 8) rfl))) rfl
theorem mp_3_9 : (Cond.selects "FaultTestsModel" ⟨"FaultTestsModel", "reads", "(II)Z"⟩ ⟨"FaultTestsModel", "reads", "(II)Z"⟩) ∈ UW := UW_in (lw_sel (lw_q3 (List.mem_of_getElem? (i := 9) rfl))) rfl
theorem mp_3_10 : (Cond.selects "FaultTestsModel" ⟨"FaultTestsModel", "sign", "(I)Z"⟩ ⟨"FaultTestsModel", "sign", "(I)Z"⟩) ∈ UW := UW_in (lw_sel (lw_q3 (List.mem_of_getElem? (i := 10) rfl))) rfl
theorem mp_3_11 : (Cond.selects "FaultTestsModel" ⟨"FaultTestsModel", "readsLine", "()Z"⟩ ⟨"FaultTestsModel", "readsLine", "()Z"⟩) ∈ UW := UW_in (lw_sel (lw_q3 (List.mem_of_getElem? (i := 11) rfl))) rfl
theorem mp_3_12 : (Cond.selects "FaultTestsModel" ⟨"FaultTestsModel", "readsGate", "(I)Z"⟩ ⟨"FaultTestsModel", "readsGate", "(I)Z"⟩) ∈ UW := UW_in (lw_sel (lw_q3 (List.mem_of_getElem? (i := 12) rfl))) rfl
theorem mp_3_13 : (Cond.selects "FaultTestsModel" ⟨"FaultTestsModel", "kindHere", "()I"⟩ ⟨"FaultTestsModel", "kindHere", "()I"⟩) ∈ UW := UW_in (lw_sel (lw_q3 (List.mem_of_getElem? (i := 13) rfl))) rfl
theorem mp_3_14 : (Cond.selects "FaultTestsModel" ⟨"FaultTestsModel", "readsWire", "()Z"⟩ ⟨"FaultTestsModel", "readsWire", "()Z"⟩) ∈ UW := UW_in (lw_sel (lw_q3 (List.mem_of_getElem? (i := 14) rfl))) rfl
theorem mp_3_15 : (Cond.selects "FaultTestsModel" ⟨"FaultTestsModel", "readsOutputs", "()Z"⟩ ⟨"FaultTestsModel", "readsOutputs", "()Z"⟩) ∈ UW := UW_in (lw_sel (lw_q3 (List.mem_of_getElem? (i := 15) rfl))) rfl
theorem mp_4_0 : (Cond.selects "FaultTestsModel" ⟨"FaultTestsModel", "readsBridge", "(I)Z"⟩ ⟨"FaultTestsModel", "readsBridge", "(I)Z"⟩) ∈ UW := UW_in (lw_sel (lw_q4 (List.mem_of_getElem? (i := 0) rfl))) rfl
theorem mp_4_1 : (Cond.selects "FaultTestsModel" ⟨"FaultTestsModel", "dependsOn", "(II)Z"⟩ ⟨"FaultTestsModel", "dependsOn", "(II)Z"⟩) ∈ UW := UW_in (lw_sel (lw_q4 (List.mem_of_getElem? (i := 1) rfl))) rfl
theorem mp_4_2 : (Cond.selects "FaultTestsModel" ⟨"FaultTestsModel", "readsTest", "(I)Z"⟩ ⟨"FaultTestsModel", "readsTest", "(I)Z"⟩) ∈ UW := UW_in (lw_sel (lw_q4 (List.mem_of_getElem? (i := 2) rfl))) rfl
theorem mp_4_3 : (Cond.selects "FaultTestsModel" ⟨"FaultTestsModel", "change", "()V"⟩ ⟨"FaultTestsModel", "change", "()V"⟩) ∈ UW := UW_in (lw_sel (lw_q4 (List.mem_of_getElem? (i := 3) rfl))) rfl
theorem mp_4_4 : (Cond.selects "FaultTestsModel" ⟨"FaultTestsModel", "get", "(I)I"⟩ ⟨"FaultTestsModel", "get", "(I)I"⟩) ∈ UW := UW_in (lw_sel (lw_q4 (List.mem_of_getElem? (i := 4) rfl))) rfl
theorem mp_4_5 : (Cond.selects "FaultTestsModel" ⟨"FaultTestsModel", "wires", "()I"⟩ ⟨"FaultTestsModel", "wires", "()I"⟩) ∈ UW := UW_in (lw_sel (lw_q4 (List.mem_of_getElem? (i := 5) rfl))) rfl
theorem mp_4_6 : (Cond.selects "FaultTestsModel" ⟨"FaultTestsModel", "told", "(I)I"⟩ ⟨"FaultTestsModel", "told", "(I)I"⟩) ∈ UW := UW_in (lw_sel (lw_q4 (List.mem_of_getElem? (i := 6) rfl))) rfl
theorem mp_4_7 : (Cond.selects "FaultTestsModel" ⟨"FaultTestsModel", "inputs", "()I"⟩ ⟨"FaultTestsModel", "inputs", "()I"⟩) ∈ UW := UW_in (lw_sel (lw_q4 (List.mem_of_getElem? (i := 7) rfl))) rfl
theorem mp_4_8 : (Cond.selects "FaultTestsModel" ⟨"FaultTestsModel", "outputs", "()I"⟩ ⟨"FaultTestsModel", "outputs", "()I"⟩) ∈ UW := UW_in (lw_sel (lw_q4 (List.mem_of_getElem? (i := 8) rfl))) rfl
theorem mp_4_9 : (Cond.selects "FaultTestsModel" ⟨"FaultTestsModel", "faults", "()I"⟩ ⟨"FaultTestsModel", "faults", "()I"⟩) ∈ UW := UW_in (lw_sel (lw_q4 (List.mem_of_getElem? (i := 9) rfl))) rfl
theorem mp_4_10 : (Cond.selects "FaultTestsModel" ⟨"FaultTestsModel", "tests", "()I"⟩ ⟨"FaultTestsModel", "tests", "()I"⟩) ∈ UW := UW_in (lw_sel (lw_q4 (List.mem_of_getElem? (i := 10) rfl))) rfl
theorem mp_4_11 : (Cond.selects "FaultTestsModel" ⟨"FaultTestsModel", "seenMany", "()I"⟩ ⟨"FaultTestsModel", "seenMany", "()I"⟩) ∈ UW := UW_in (lw_sel (lw_q4 (List.mem_of_getElem? (i := 11) rfl))) rfl
theorem mp_4_12 : (Cond.selects "FaultTestsModel" ⟨"FaultTestsModel", "seenAt", "(II)I"⟩ ⟨"FaultTestsModel", "seenAt", "(II)I"⟩) ∈ UW := UW_in (lw_sel (lw_q4 (List.mem_of_getElem? (i := 12) rfl))) rfl
theorem mp_4_13 : (Cond.selects "FaultTestsModel" ⟨"FaultTestsModel", "foundMany", "()I"⟩ ⟨"FaultTestsModel", "foundMany", "()I"⟩) ∈ UW := UW_in (lw_sel (lw_q4 (List.mem_of_getElem? (i := 13) rfl))) rfl
theorem mp_4_14 : (Cond.selects "FaultTestsModel" ⟨"FaultTestsModel", "finders", "()V"⟩ ⟨"FaultTestsModel", "finders", "()V"⟩) ∈ UW := UW_in (lw_sel (lw_q4 (List.mem_of_getElem? (i := 14) rfl))) rfl
theorem mp_4_15 : (Cond.selects "FaultTestsModel" ⟨"FaultTestsModel", "asksTest", "(I)V"⟩ ⟨"FaultTestsModel", "asksTest", "(I)V"⟩) ∈ UW := UW_in (lw_sel (lw_q4 (List.mem_of_getElem? (i := 15) rfl))) rfl
theorem mp_5_0 : (Cond.selects "FaultTestsModel" ⟨"FaultTestsModel", "cleans", "()V"⟩ ⟨"FaultTestsModel", "cleans", "()V"⟩) ∈ UW := UW_in (lw_sel (lw_q5 (List.mem_of_getElem? (i := 0) rfl))) rfl
theorem mp_5_1 : (Cond.selects "FaultTestsModel" ⟨"FaultTestsModel", "gate", "(I[I)I"⟩ ⟨"FaultTestsModel", "gate", "(I[I)I"⟩) ∈ UW := UW_in (lw_sel (lw_q5 (List.mem_of_getElem? (i := 1) rfl))) rfl
theorem mp_5_2 : (Cond.selects "FaultTestsModel" ⟨"FaultTestsModel", "kindOf", "(I)I"⟩ ⟨"FaultTestsModel", "kindOf", "(I)I"⟩) ∈ UW := UW_in (lw_sel (lw_q5 (List.mem_of_getElem? (i := 2) rfl))) rfl
theorem mp_5_3 : (Cond.selects "FaultTestsModel" ⟨"FaultTestsModel", "operandOf", "(II)I"⟩ ⟨"FaultTestsModel", "operandOf", "(II)I"⟩) ∈ UW := UW_in (lw_sel (lw_q5 (List.mem_of_getElem? (i := 3) rfl))) rfl
theorem mp_5_4 : (Cond.selects "FaultTestsModel" ⟨"FaultTestsModel", "have", "(I)I"⟩ ⟨"FaultTestsModel", "have", "(I)I"⟩) ∈ UW := UW_in (lw_sel (lw_q5 (List.mem_of_getElem? (i := 4) rfl))) rfl
theorem mp_5_5 : (Cond.selects "FaultTestsModel" ⟨"FaultTestsModel", "found", "(I)I"⟩ ⟨"FaultTestsModel", "found", "(I)I"⟩) ∈ UW := UW_in (lw_sel (lw_q5 (List.mem_of_getElem? (i := 5) rfl))) rfl
theorem mp_5_6 : (Cond.selects "FaultTestsModel" ⟨"FaultTestsModel", "bends", "(I)V"⟩ ⟨"FaultTestsModel", "bends", "(I)V"⟩) ∈ UW := UW_in (lw_sel (lw_q5 (List.mem_of_getElem? (i := 6) rfl))) rfl
theorem mp_5_7 : (Cond.selects "FaultTestsModel" ⟨"FaultTestsModel", "atOutput", "(I[I)I"⟩ ⟨"FaultTestsModel", "atOutput", "(I[I)I"⟩) ∈ UW := UW_in (lw_sel (lw_q5 (List.mem_of_getElem? (i := 7) rfl))) rfl
theorem mp_5_8 : (Cond.selects "FaultTestsModel" ⟨"FaultTestsModel", "levelOf", "(I)I"⟩ ⟨"FaultTestsModel", "levelOf", "(I)I"⟩) ∈ UW := UW_in (lw_sel (lw_q5 (List.mem_of_getElem? (i := 8) rfl))) rfl
theorem mp_5_9 : (Cond.selects "FaultTestsModel" ⟨"FaultTestsModel", "isWire", "(I)Z"⟩ ⟨"FaultTestsModel", "isWire", "(I)Z"⟩) ∈ UW := UW_in (lw_sel (lw_q5 (List.mem_of_getElem? (i := 9) rfl))) rfl
theorem mp_5_10 : (Cond.selects "FaultTestsModel" ⟨"FaultTestsModel", "ofWire", "(II)I"⟩ ⟨"FaultTestsModel", "ofWire", "(II)I"⟩) ∈ UW := UW_in (lw_sel (lw_q5 (List.mem_of_getElem? (i := 10) rfl))) rfl
theorem mp_5_11 : (Cond.selects "FaultTestsModel" ⟨"FaultTestsModel", "usesOf", "(I)I"⟩ ⟨"FaultTestsModel", "usesOf", "(I)I"⟩) ∈ UW := UW_in (lw_sel (lw_q5 (List.mem_of_getElem? (i := 11) rfl))) rfl
theorem mp_5_12 : (Cond.selects "FaultTestsModel" ⟨"FaultTestsModel", "outputOf", "(I)I"⟩ ⟨"FaultTestsModel", "outputOf", "(I)I"⟩) ∈ UW := UW_in (lw_sel (lw_q5 (List.mem_of_getElem? (i := 12) rfl))) rfl
theorem mp_5_13 : (Cond.selects "FaultTestsModel" ⟨"FaultTestsModel", "isTest", "(I)Z"⟩ ⟨"FaultTestsModel", "isTest", "(I)Z"⟩) ∈ UW := UW_in (lw_sel (lw_q5 (List.mem_of_getElem? (i := 13) rfl))) rfl
theorem mp_5_14 : (Cond.selects "FaultTestsModel" ⟨"FaultTestsModel", "isFault", "(I)Z"⟩ ⟨"FaultTestsModel", "isFault", "(I)Z"⟩) ∈ UW := UW_in (lw_sel (lw_q5 (List.mem_of_getElem? (i := 14) rfl))) rfl
theorem mp_5_15 : (Cond.selects "FaultTestsModel" ⟨"FaultTestsModel", "worthOf", "(I)I"⟩ ⟨"FaultTestsModel", "worthOf", "(I)I"⟩) ∈ UW := UW_in (lw_sel (lw_q5 (List.mem_of_getElem? (i := 15) rfl))) rfl
theorem mp_6_0 : (Cond.selects "FaultTestsModel" ⟨"FaultTestsModel", "lays", "()V"⟩ ⟨"FaultTestsModel", "lays", "()V"⟩) ∈ UW := UW_in (lw_sel (lw_q6 (List.mem_of_getElem? (i := 0) rfl))) rfl
theorem mp_6_1 : (Cond.selects "FaultTestsModel" ⟨"FaultTestsModel", "fulls", "()I"⟩ ⟨"FaultTestsModel", "fulls", "()I"⟩) ∈ UW := UW_in (lw_sel (lw_q6 (List.mem_of_getElem? (i := 1) rfl))) rfl
theorem mp_6_2 : (Cond.selects "FaultTestsModel" ⟨"FaultTestsModel", "asksFull", "(I)V"⟩ ⟨"FaultTestsModel", "asksFull", "(I)V"⟩) ∈ UW := UW_in (lw_sel (lw_q6 (List.mem_of_getElem? (i := 2) rfl))) rfl
theorem mp_6_3 : (Cond.selects "FaultTestsModel" ⟨"FaultTestsModel", "bitsAt", "([I)I"⟩ ⟨"FaultTestsModel", "bitsAt", "([I)I"⟩) ∈ UW := UW_in (lw_sel (lw_q6 (List.mem_of_getElem? (i := 3) rfl))) rfl
theorem mp_6_4 : (Cond.selects "FaultTestsModel" ⟨"FaultTestsModel", "between", "(II)I"⟩ ⟨"FaultTestsModel", "between", "(II)I"⟩) ∈ UW := UW_in (lw_sel (lw_q6 (List.mem_of_getElem? (i := 4) rfl))) rfl
theorem mp_6_5 : (Cond.selects "FaultTestsModel" ⟨"FaultTestsModel", "hiddenMany", "()I"⟩ ⟨"FaultTestsModel", "hiddenMany", "()I"⟩) ∈ UW := UW_in (lw_sel (lw_q6 (List.mem_of_getElem? (i := 5) rfl))) rfl
theorem mp_6_6 : (Cond.selects "FaultTestsModel" ⟨"FaultTestsModel", "isHidden", "(I)Z"⟩ ⟨"FaultTestsModel", "isHidden", "(I)Z"⟩) ∈ UW := UW_in (lw_sel (lw_q6 (List.mem_of_getElem? (i := 6) rfl))) rfl
theorem mp_6_7 : (Cond.selects "FaultTestsModel" ⟨"FaultTestsModel", "firstAlike", "(I)I"⟩ ⟨"FaultTestsModel", "firstAlike", "(I)I"⟩) ∈ UW := UW_in (lw_sel (lw_q6 (List.mem_of_getElem? (i := 7) rfl))) rfl
theorem mp_6_8 : (Cond.selects "FaultTestsModel" ⟨"FaultTestsModel", "findsAll", "(I)Z"⟩ ⟨"FaultTestsModel", "findsAll", "(I)Z"⟩) ∈ UW := UW_in (lw_sel (lw_q6 (List.mem_of_getElem? (i := 8) rfl))) rfl
theorem mp_6_9 : (Cond.selects "FaultTestsModel" ⟨"FaultTestsModel", "fitting", "()I"⟩ ⟨"FaultTestsModel", "fitting", "()I"⟩) ∈ UW := UW_in (lw_sel (lw_q6 (List.mem_of_getElem? (i := 9) rfl))) rfl
theorem mp_6_10 : (Cond.selects "FaultTestsModel" ⟨"FaultTestsModel", "faultAtIndex", "(I)I"⟩ ⟨"FaultTestsModel", "faultAtIndex", "(I)I"⟩) ∈ UW := UW_in (lw_sel (lw_q6 (List.mem_of_getElem? (i := 10) rfl))) rfl
theorem mp_6_11 : (Cond.selects "FaultTestsModel" ⟨"FaultTestsModel", "isFit", "(I)Z"⟩ ⟨"FaultTestsModel", "isFit", "(I)Z"⟩) ∈ UW := UW_in (lw_sel (lw_q6 (List.mem_of_getElem? (i := 11) rfl))) rfl
theorem mp_6_12 : (Cond.selects "FaultTestsModel" ⟨"FaultTestsModel", "greatest", "(I)I"⟩ ⟨"FaultTestsModel", "greatest", "(I)I"⟩) ∈ UW := UW_in (lw_sel (lw_q6 (List.mem_of_getElem? (i := 12) rfl))) rfl
theorem mp_6_13 : (Cond.selects "FaultTestsModel" ⟨"FaultTestsModel", "adds", "(II)V"⟩ ⟨"FaultTestsModel", "adds", "(II)V"⟩) ∈ UW := UW_in (lw_sel (lw_q6 (List.mem_of_getElem? (i := 13) rfl))) rfl
