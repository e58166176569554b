/-! The words of the tables that a run keeps, one by one. -/
theorem sel_private {y : MethodName} {s : State} {args : Array Value} {C : String} {n : Nat} (hy : y.cls ≠ "java/lang/invoke/MethodHandle" ∧ y.cls ≠ "java/lang/invoke/VarHandle") (hins : (Cond.instantiable C n).before args s = true) (hpriv : (Cond.privateMethod y).before args s = true) (hinst : (Cond.instanceMethod y).before args s = true) (hsame : (Cond.sameMethod y.cls y.cls y.name y.desc).before args s = true) : (Cond.selects C y y).before args s = true := by
  obtain ⟨c, k, hc, hk, -, -, -, -⟩ := Cond.instantiable_spec hins
  obtain ⟨mk, methM, hnamed, hmethM, -, -⟩ := Cond.instanceMethod_spec hinst
  have hfound : s.methodFound? y.cls y.name y.desc = some mk := State.methodFound?_of_named hnamed hy
  obtain ⟨-, ky, hky, hni⟩ := Cond.sameMethod_spec (findClass_of_methodNamed hnamed) hfound hsame
  have hsel : selectMethod {} s.vm c mk = .method mk := selectMethod_private hmethM (Cond.privateMethod_at hpriv mk methM hnamed hmethM)
  simp only [Cond.before, Cond.holds, Cond.value, hc, hfound, hnamed, hsel, hky]
  simp
  exact hni
def sbPriv : List MethodName := [⟨"java/lang/AbstractStringBuilder", "appendNull", "()Ljava/lang/AbstractStringBuilder;"⟩, ⟨"java/lang/AbstractStringBuilder", "ensureCapacityInternal", "(I)V"⟩, ⟨"java/lang/AbstractStringBuilder", "newCapacity", "(I)I"⟩, ⟨"java/lang/AbstractStringBuilder", "putStringAt", "(ILjava/lang/String;)V"⟩, ⟨"java/lang/AbstractStringBuilder", "inflateIfNeededFor", "(Ljava/lang/String;)V"⟩]
def lw_tbl2 : List Cond := sbPriv.map (fun y => Cond.selects "java/lang/StringBuilder" y y) ++ lw_tbl
theorem sb_words : ∀ y ∈ sbPriv, (y.cls ≠ "java/lang/invoke/MethodHandle" ∧ y.cls ≠ "java/lang/invoke/VarHandle") ∧ Cond.privateMethod y ∈ tables_1 ∧ Cond.instanceMethod y ∈ tables_1 ∧ Cond.sameMethod y.cls y.cls y.name y.desc ∈ tables_1 := by decide +kernel
theorem sb_inst : Cond.instantiable "java/lang/StringBuilder" 4 ∈ tables_1 := by decide +kernel
theorem tbl2_hts {args : Array Value} {s : State} (hts : ∀ w ∈ lw_tbl, w.before args s = true) : ∀ w ∈ lw_tbl2, w.before args s = true := by
  intro w hw
  have ht : ∀ w ∈ tables_1, w.before args s = true := fun w h => hts w (List.mem_append_right _ h)
  rcases List.mem_append.mp hw with hw | hw
  · obtain ⟨y, hy, rfl⟩ := List.mem_map.mp hw
    obtain ⟨h0, h1, h2, h3⟩ := sb_words y hy
    exact sel_private h0 (ht _ sb_inst) (ht _ h1) (ht _ h2) (ht _ h3)
  · exact hts w hw
def UW : List Cond := lw_tbl2.filter goodWord
theorem UW_in2 {w : Cond} (h : w ∈ lw_tbl2) (hg : goodWord w = true) : w ∈ UW := List.mem_filter.mpr ⟨h, hg⟩
theorem UW_in {w : Cond} (h : w ∈ lw_tbl) (hg : goodWord w = true) : w ∈ UW := UW_in2 (List.mem_append_right _ h) hg
theorem UW_good {w : Cond} (h : w ∈ UW) : w ∈ lw_tbl2 ∧ goodWord w = true := List.mem_filter.mp h
theorem UW_GoodIn {c : Cond} : GoodIn (c :: UW) UW := fun w h => ⟨List.mem_cons_of_mem _ h, good_of_word (UW_good h).2⟩
theorem lw_in1 {w : Cond} (h : w ∈ tables_1) : w ∈ lw_tbl := List.mem_append_right _ h
theorem lw_i1 {w : Cond} (h : w ∈ tables_1_1) : w ∈ lw_tbl := lw_in1 (List.mem_append_left _ h)
theorem lw_i2 {w : Cond} (h : w ∈ tables_1_2) : w ∈ lw_tbl := lw_in1 (List.mem_append_right _ (List.mem_append_left _ h))
theorem lw_i3 {w : Cond} (h : w ∈ tables_1_3) : w ∈ lw_tbl := lw_in1 (List.mem_append_right _ (List.mem_append_right _ (List.mem_append_left _ h)))
theorem lw_i4 {w : Cond} (h : w ∈ tables_1_4) : w ∈ lw_tbl := lw_in1 (List.mem_append_right _ (List.mem_append_right _ (List.mem_append_right _ (List.mem_append_left _ h))))
theorem lw_i5 {w : Cond} (h : w ∈ tables_1_5) : w ∈ lw_tbl := lw_in1 (List.mem_append_right _ (List.mem_append_right _ (List.mem_append_right _ (List.mem_append_right _ (h)))))
theorem mw_1_0 : (Cond.initialized "FaultTestsLaw") ∈ UW := UW_in (lw_i1 (List.mem_of_getElem? (i := 0) rfl)) rfl
theorem mw_1_1 : (Cond.initialized "FaultTestsLaw$Model") ∈ UW := UW_in (lw_i1 (List.mem_of_getElem? (i := 1) rfl)) rfl
theorem mw_1_2 : (Cond.initialized "java/lang/AbstractStringBuilder") ∈ UW := UW_in (lw_i1 (List.mem_of_getElem? (i := 2) rfl)) rfl
theorem mw_1_3 : (Cond.initialized "java/lang/StringBuilder") ∈ UW := UW_in (lw_i1 (List.mem_of_getElem? (i := 3) rfl)) rfl
theorem mw_1_4 : (Cond.initialized "java/lang/String") ∈ UW := UW_in (lw_i1 (List.mem_of_getElem? (i := 4) rfl)) rfl
theorem mw_1_5 : (Cond.initialized "java/lang/StringUTF16") ∈ UW := UW_in (lw_i1 (List.mem_of_getElem? (i := 5) rfl)) rfl
theorem mw_1_6 : (Cond.initialized "jdk/internal/util/ArraysSupport") ∈ UW := UW_in (lw_i1 (List.mem_of_getElem? (i := 6) rfl)) rfl
theorem mw_1_7 : (Cond.initialized "java/lang/Math") ∈ UW := UW_in (lw_i1 (List.mem_of_getElem? (i := 7) rfl)) rfl
theorem mw_1_8 : (Cond.initialized "java/util/Arrays") ∈ UW := UW_in (lw_i1 (List.mem_of_getElem? (i := 8) rfl)) rfl
theorem mw_1_9 : (Cond.initialized "java/lang/System") ∈ UW := UW_in (lw_i1 (List.mem_of_getElem? (i := 9) rfl)) rfl
theorem mw_1_10 : (Cond.initialized "jdk/internal/util/Preconditions") ∈ UW := UW_in (lw_i1 (List.mem_of_getElem? (i := 10) rfl)) rfl
theorem mw_1_11 : (Cond.initialized "java/lang/StringLatin1") ∈ UW := UW_in (lw_i1 (List.mem_of_getElem? (i := 11) rfl)) rfl
theorem mw_1_12 : (Cond.initialized "java/lang/Number") ∈ UW := UW_in (lw_i1 (List.mem_of_getElem? (i := 12) rfl)) rfl
theorem mw_1_13 : (Cond.initialized "java/lang/Integer") ∈ UW := UW_in (lw_i1 (List.mem_of_getElem? (i := 13) rfl)) rfl
theorem mw_1_14 : (Cond.initialized "FaultTests") ∈ UW := UW_in (lw_i1 (List.mem_of_getElem? (i := 14) rfl)) rfl
theorem mw_1_15 : (Cond.initialized "FaultTests$SetupReader") ∈ UW := UW_in (lw_i1 (List.mem_of_getElem? (i := 15) rfl)) rfl
theorem mw_1_16 : (Cond.initialized "FaultTests$Setup") ∈ UW := UW_in (lw_i1 (List.mem_of_getElem? (i := 16) rfl)) rfl
theorem mw_1_17 : (Cond.initialized "FaultTests$Circuit") ∈ UW := UW_in (lw_i1 (List.mem_of_getElem? (i := 17) rfl)) rfl
theorem mw_1_18 : (Cond.initialized "FaultTests$TestList") ∈ UW := UW_in (lw_i1 (List.mem_of_getElem? (i := 18) rfl)) rfl
theorem mw_1_19 : (Cond.initialized "FaultTests$History") ∈ UW := UW_in (lw_i1 (List.mem_of_getElem? (i := 19) rfl)) rfl
theorem mw_1_20 : (Cond.initialized "FaultTests$Rows") ∈ UW := UW_in (lw_i1 (List.mem_of_getElem? (i := 20) rfl)) rfl
theorem mw_1_21 : (Cond.initialized "FaultTests$Lanes") ∈ UW := UW_in (lw_i1 (List.mem_of_getElem? (i := 21) rfl)) rfl
theorem mw_1_22 : (Cond.initialized "java/lang/Throwable") ∈ UW := UW_in (lw_i1 (List.mem_of_getElem? (i := 22) rfl)) rfl
theorem mw_1_23 : (Cond.initialized "java/lang/Exception") ∈ UW := UW_in (lw_i1 (List.mem_of_getElem? (i := 23) rfl)) rfl
theorem mw_1_24 : (Cond.initialized "java/lang/RuntimeException") ∈ UW := UW_in (lw_i1 (List.mem_of_getElem? (i := 24) rfl)) rfl
theorem mw_1_25 : (Cond.initialized "java/lang/IllegalArgumentException") ∈ UW := UW_in (lw_i1 (List.mem_of_getElem? (i := 25) rfl)) rfl
theorem mw_1_26 : (Cond.initialized "java/lang/Long") ∈ UW := UW_in (lw_i1 (List.mem_of_getElem? (i := 26) rfl)) rfl
theorem mw_1_27 : (Cond.initialized "java/lang/IllegalStateException") ∈ UW := UW_in (lw_i1 (List.mem_of_getElem? (i := 27) rfl)) rfl
theorem mw_1_28 : (Cond.initialized "java/lang/IndexOutOfBoundsException") ∈ UW := UW_in (lw_i1 (List.mem_of_getElem? (i := 28) rfl)) rfl
theorem mw_1_29 : (Cond.classLink "FaultTestsLaw" 19 "FaultTests") ∈ UW := UW_in (lw_i1 (List.mem_of_getElem? (i := 29) rfl)) rfl
theorem mw_1_30 : (Cond.instantiable "FaultTests" 12) ∈ UW := UW_in (lw_i1 (List.mem_of_getElem? (i := 30) rfl)) rfl
theorem mw_1_31 : (Cond.methodLink "FaultTestsLaw" 127 ⟨"FaultTests", "<init>", "()V"⟩) ∈ UW := UW_in (lw_i1 (List.mem_of_getElem? (i := 31) rfl)) rfl
theorem mw_1_32 : (Cond.instanceMethod ⟨"FaultTests", "<init>", "()V"⟩) ∈ UW := UW_in (lw_i1 (List.mem_of_getElem? (i := 32) rfl)) rfl
theorem mw_1_33 : (Cond.code ⟨"FaultTests", "<init>", "()V"⟩ prog_1_method_1_code 1 none) ∈ UW := UW_in (lw_i1 (List.mem_of_getElem? (i := 33) rfl)) rfl
theorem mw_1_34 : (Cond.methodLink "FaultTests" 3 ⟨"java/lang/Object", "<init>", "()V"⟩) ∈ UW := UW_in (lw_i1 (List.mem_of_getElem? (i := 34) rfl)) rfl
theorem mw_1_35 : (Cond.instanceMethod ⟨"java/lang/Object", "<init>", "()V"⟩) ∈ UW := UW_in (lw_i1 (List.mem_of_getElem? (i := 35) rfl)) rfl
theorem mw_1_36 : (Cond.code ⟨"java/lang/Object", "<init>", "()V"⟩ object_method_1_code 1 none) ∈ UW := UW_in (lw_i1 (List.mem_of_getElem? (i := 36) rfl)) rfl
theorem mw_1_37 : (Cond.classLink "FaultTests" 9 "FaultTests$SetupReader") ∈ UW := UW_in (lw_i1 (List.mem_of_getElem? (i := 37) rfl)) rfl
theorem mw_1_38 : (Cond.instantiable "FaultTests$SetupReader" 10) ∈ UW := UW_in (lw_i1 (List.mem_of_getElem? (i := 38) rfl)) rfl
theorem mw_1_40 : (Cond.instanceMethod ⟨"FaultTests$SetupReader", "<init>", "()V"⟩) ∈ UW := UW_in (lw_i1 (List.mem_of_getElem? (i := 40) rfl)) rfl
theorem mw_1_41 : (Cond.code ⟨"FaultTests$SetupReader", "<init>", "()V"⟩ prog_7_method_1_code 1 none) ∈ UW := UW_in (lw_i1 (List.mem_of_getElem? (i := 41) rfl)) rfl
theorem mw_1_42 : (Cond.methodLink "FaultTests$SetupReader" 3 ⟨"java/lang/Object", "<init>", "()V"⟩) ∈ UW := UW_in (lw_i1 (List.mem_of_getElem? (i := 42) rfl)) rfl
theorem mw_1_43 : (Cond.classLink "FaultTests$SetupReader" 9 "FaultTests$Setup") ∈ UW := UW_in (lw_i1 (List.mem_of_getElem? (i := 43) rfl)) rfl
theorem mw_1_44 : (Cond.instantiable "FaultTests$Setup" 2) ∈ UW := UW_in (lw_i1 (List.mem_of_getElem? (i := 44) rfl)) rfl
theorem mw_1_46 : (Cond.instanceMethod ⟨"FaultTests$Setup", "<init>", "()V"⟩) ∈ UW := UW_in (lw_i1 (List.mem_of_getElem? (i := 46) rfl)) rfl
theorem mw_1_47 : (Cond.code ⟨"FaultTests$Setup", "<init>", "()V"⟩ prog_6_method_1_code 1 none) ∈ UW := UW_in (lw_i1 (List.mem_of_getElem? (i := 47) rfl)) rfl
theorem mw_1_48 : (Cond.methodLink "FaultTests$Setup" 1 ⟨"java/lang/Object", "<init>", "()V"⟩) ∈ UW := UW_in (lw_i1 (List.mem_of_getElem? (i := 48) rfl)) rfl
theorem mw_1_49 : (Cond.classLink "FaultTests$Setup" 7 "FaultTests$Circuit") ∈ UW := UW_in (lw_i1 (List.mem_of_getElem? (i := 49) rfl)) rfl
theorem mw_1_50 : (Cond.instantiable "FaultTests$Circuit" 14) ∈ UW := UW_in (lw_i1 (List.mem_of_getElem? (i := 50) rfl)) rfl
theorem mw_1_51 : (Cond.methodLink "FaultTests$Setup" 9 ⟨"FaultTests$Circuit", "<init>", "()V"⟩) ∈ UW := UW_in (lw_i1 (List.mem_of_getElem? (i := 51) rfl)) rfl
theorem mw_1_52 : (Cond.instanceMethod ⟨"FaultTests$Circuit", "<init>", "()V"⟩) ∈ UW := UW_in (lw_i1 (List.mem_of_getElem? (i := 52) rfl)) rfl
theorem mw_1_53 : (Cond.code ⟨"FaultTests$Circuit", "<init>", "()V"⟩ prog_2_method_1_code 1 none) ∈ UW := UW_in (lw_i1 (List.mem_of_getElem? (i := 53) rfl)) rfl
theorem mw_1_54 : (Cond.methodLink "FaultTests$Circuit" 3 ⟨"java/lang/Object", "<init>", "()V"⟩) ∈ UW := UW_in (lw_i1 (List.mem_of_getElem? (i := 54) rfl)) rfl
theorem mw_1_55 : (Cond.methodLink "FaultTests$Circuit" 42 ⟨"FaultTests$Circuit", "clear", "(I)V"⟩) ∈ UW := UW_in (lw_i1 (List.mem_of_getElem? (i := 55) rfl)) rfl
theorem mw_1_56 : (Cond.instanceMethod ⟨"FaultTests$Circuit", "clear", "(I)V"⟩) ∈ UW := UW_in (lw_i1 (List.mem_of_getElem? (i := 56) rfl)) rfl
theorem mw_1_57 : (Cond.selects "FaultTests$Circuit" ⟨"FaultTests$Circuit", "clear", "(I)V"⟩ ⟨"FaultTests$Circuit", "clear", "(I)V"⟩) ∈ UW := UW_in (lw_i1 (List.mem_of_getElem? (i := 57) rfl)) rfl
theorem mw_1_58 : (Cond.code ⟨"FaultTests$Circuit", "clear", "(I)V"⟩ prog_2_method_2_code 3 none) ∈ UW := UW_in (lw_i1 (List.mem_of_getElem? (i := 58) rfl)) rfl
theorem mw_1_59 : (Cond.fieldLink "FaultTests$Circuit" 46 "FaultTests$Circuit" "inputs" "I") ∈ UW := UW_in (lw_i1 (List.mem_of_getElem? (i := 59) rfl)) rfl
theorem mw_1_60 : (Cond.fieldLink "FaultTests$Lanes" 46 "FaultTests$Circuit" "inputs" "I") ∈ UW := UW_in (lw_i1 (List.mem_of_getElem? (i := 60) rfl)) rfl
theorem mw_1_61 : (Cond.fieldLink "FaultTests" 109 "FaultTests$Circuit" "inputs" "I") ∈ UW := UW_in (lw_i1 (List.mem_of_getElem? (i := 61) rfl)) rfl
theorem mw_1_62 : (Cond.fieldLink "FaultTests$SetupReader" 163 "FaultTests$Circuit" "inputs" "I") ∈ UW := UW_in (lw_i1 (List.mem_of_getElem? (i := 62) rfl)) rfl
theorem mw_1_63 : (Cond.fieldLink "FaultTests$Circuit" 50 "FaultTests$Circuit" "wires" "I") ∈ UW := UW_in (lw_i1 (List.mem_of_getElem? (i := 63) rfl)) rfl
theorem mw_1_64 : (Cond.fieldLink "FaultTests" 101 "FaultTests$Circuit" "wires" "I") ∈ UW := UW_in (lw_i1 (List.mem_of_getElem? (i := 64) rfl)) rfl
theorem mw_1_65 : (Cond.fieldLink "FaultTests$Lanes" 49 "FaultTests$Circuit" "wires" "I") ∈ UW := UW_in (lw_i1 (List.mem_of_getElem? (i := 65) rfl)) rfl
theorem mw_1_66 : (Cond.fieldLink "FaultTests$SetupReader" 118 "FaultTests$Circuit" "wires" "I") ∈ UW := UW_in (lw_i1 (List.mem_of_getElem? (i := 66) rfl)) rfl
theorem mw_1_67 : (Cond.fieldLink "FaultTests$Circuit" 53 "FaultTests$Circuit" "outputs" "I") ∈ UW := UW_in (lw_i1 (List.mem_of_getElem? (i := 67) rfl)) rfl
theorem mw_1_68 : (Cond.fieldLink "FaultTests$Rows" 50 "FaultTests$Circuit" "outputs" "I") ∈ UW := UW_in (lw_i1 (List.mem_of_getElem? (i := 68) rfl)) rfl
theorem mw_1_69 : (Cond.fieldLink "FaultTests" 112 "FaultTests$Circuit" "outputs" "I") ∈ UW := UW_in (lw_i1 (List.mem_of_getElem? (i := 69) rfl)) rfl
theorem mw_1_70 : (Cond.fieldLink "FaultTests$Circuit" 56 "FaultTests$Circuit" "bridges" "I") ∈ UW := UW_in (lw_i1 (List.mem_of_getElem? (i := 70) rfl)) rfl
theorem mw_1_71 : (Cond.fieldLink "FaultTests" 119 "FaultTests$Circuit" "bridges" "I") ∈ UW := UW_in (lw_i1 (List.mem_of_getElem? (i := 71) rfl)) rfl
theorem mw_1_72 : (Cond.fieldLink "FaultTests$Circuit" 9 "FaultTests$Circuit" "kind" "[I") ∈ UW := UW_in (lw_i1 (List.mem_of_getElem? (i := 72) rfl)) rfl
theorem mw_1_73 : (Cond.fieldLink "FaultTests$Lanes" 72 "FaultTests$Circuit" "kind" "[I") ∈ UW := UW_in (lw_i1 (List.mem_of_getElem? (i := 73) rfl)) rfl
theorem mw_1_74 : (Cond.fieldLink "FaultTests$Circuit" 15 "FaultTests$Circuit" "operandCount" "[I") ∈ UW := UW_in (lw_i1 (List.mem_of_getElem? (i := 74) rfl)) rfl
theorem mw_1_75 : (Cond.fieldLink "FaultTests$Lanes" 78 "FaultTests$Circuit" "operandCount" "[I") ∈ UW := UW_in (lw_i1 (List.mem_of_getElem? (i := 75) rfl)) rfl
theorem mw_1_76 : (Cond.fieldLink "FaultTests$Circuit" 18 "FaultTests$Circuit" "operand" "[I") ∈ UW := UW_in (lw_i1 (List.mem_of_getElem? (i := 76) rfl)) rfl
theorem mw_1_77 : (Cond.fieldLink "FaultTests$Lanes" 75 "FaultTests$Circuit" "operand" "[I") ∈ UW := UW_in (lw_i1 (List.mem_of_getElem? (i := 77) rfl)) rfl
theorem mw_1_78 : (Cond.fieldLink "FaultTests$Circuit" 21 "FaultTests$Circuit" "level" "[I") ∈ UW := UW_in (lw_i1 (List.mem_of_getElem? (i := 78) rfl)) rfl
theorem mw_1_79 : (Cond.fieldLink "FaultTests$Circuit" 24 "FaultTests$Circuit" "uses" "[I") ∈ UW := UW_in (lw_i1 (List.mem_of_getElem? (i := 79) rfl)) rfl
theorem mw_1_80 : (Cond.fieldLink "FaultTests$Circuit" 27 "FaultTests$Circuit" "below" "[I") ∈ UW := UW_in (lw_i1 (List.mem_of_getElem? (i := 80) rfl)) rfl
theorem mw_1_81 : (Cond.fieldLink "FaultTests$Lanes" 60 "FaultTests$Circuit" "below" "[I") ∈ UW := UW_in (lw_i1 (List.mem_of_getElem? (i := 81) rfl)) rfl
theorem mw_1_82 : (Cond.fieldLink "FaultTests$Circuit" 30 "FaultTests$Circuit" "outputWire" "[I") ∈ UW := UW_in (lw_i1 (List.mem_of_getElem? (i := 82) rfl)) rfl
theorem mw_1_83 : (Cond.fieldLink "FaultTests$Rows" 58 "FaultTests$Circuit" "outputWire" "[I") ∈ UW := UW_in (lw_i1 (List.mem_of_getElem? (i := 83) rfl)) rfl
theorem mw_1_84 : (Cond.fieldLink "FaultTests$Circuit" 33 "FaultTests$Circuit" "bridgeFirst" "[I") ∈ UW := UW_in (lw_i1 (List.mem_of_getElem? (i := 84) rfl)) rfl
theorem mw_1_85 : (Cond.fieldLink "FaultTests$Lanes" 63 "FaultTests$Circuit" "bridgeFirst" "[I") ∈ UW := UW_in (lw_i1 (List.mem_of_getElem? (i := 85) rfl)) rfl
theorem mw_1_86 : (Cond.fieldLink "FaultTests$Circuit" 36 "FaultTests$Circuit" "bridgeSecond" "[I") ∈ UW := UW_in (lw_i1 (List.mem_of_getElem? (i := 86) rfl)) rfl
theorem mw_1_87 : (Cond.fieldLink "FaultTests$Lanes" 66 "FaultTests$Circuit" "bridgeSecond" "[I") ∈ UW := UW_in (lw_i1 (List.mem_of_getElem? (i := 87) rfl)) rfl
theorem mw_1_88 : (Cond.fieldLink "FaultTests$Circuit" 39 "FaultTests$Circuit" "bridgeKind" "[I") ∈ UW := UW_in (lw_i1 (List.mem_of_getElem? (i := 88) rfl)) rfl
theorem mw_1_89 : (Cond.fieldLink "FaultTests$Lanes" 69 "FaultTests$Circuit" "bridgeKind" "[I") ∈ UW := UW_in (lw_i1 (List.mem_of_getElem? (i := 89) rfl)) rfl
theorem mw_1_90 : (Cond.lays "FaultTests$Circuit" "FaultTests$Circuit" "inputs" "I") ∈ UW := UW_in (lw_i1 (List.mem_of_getElem? (i := 90) rfl)) rfl
theorem mw_1_92 : (Cond.lays "FaultTests$Circuit" "FaultTests$Circuit" "wires" "I") ∈ UW := UW_in (lw_i1 (List.mem_of_getElem? (i := 92) rfl)) rfl
theorem mw_1_94 : (Cond.lays "FaultTests$Circuit" "FaultTests$Circuit" "outputs" "I") ∈ UW := UW_in (lw_i1 (List.mem_of_getElem? (i := 94) rfl)) rfl
theorem mw_1_96 : (Cond.lays "FaultTests$Circuit" "FaultTests$Circuit" "bridges" "I") ∈ UW := UW_in (lw_i1 (List.mem_of_getElem? (i := 96) rfl)) rfl
theorem mw_1_98 : (Cond.laysFinal "FaultTests$Circuit" "FaultTests$Circuit" "kind" "[I") ∈ UW := UW_in (lw_i1 (List.mem_of_getElem? (i := 98) rfl)) rfl
theorem mw_1_100 : (Cond.laysFinal "FaultTests$Circuit" "FaultTests$Circuit" "operandCount" "[I") ∈ UW := UW_in (lw_i1 (List.mem_of_getElem? (i := 100) rfl)) rfl
theorem mw_1_102 : (Cond.laysFinal "FaultTests$Circuit" "FaultTests$Circuit" "operand" "[I") ∈ UW := UW_in (lw_i1 (List.mem_of_getElem? (i := 102) rfl)) rfl
theorem mw_1_104 : (Cond.laysFinal "FaultTests$Circuit" "FaultTests$Circuit" "level" "[I") ∈ UW := UW_in (lw_i1 (List.mem_of_getElem? (i := 104) rfl)) rfl
theorem mw_1_106 : (Cond.laysFinal "FaultTests$Circuit" "FaultTests$Circuit" "uses" "[I") ∈ UW := UW_in (lw_i1 (List.mem_of_getElem? (i := 106) rfl)) rfl
theorem mw_1_108 : (Cond.laysFinal "FaultTests$Circuit" "FaultTests$Circuit" "below" "[I") ∈ UW := UW_in (lw_i1 (List.mem_of_getElem? (i := 108) rfl)) rfl
theorem mw_1_110 : (Cond.laysFinal "FaultTests$Circuit" "FaultTests$Circuit" "outputWire" "[I") ∈ UW := UW_in (lw_i1 (List.mem_of_getElem? (i := 110) rfl)) rfl
theorem mw_1_112 : (Cond.laysFinal "FaultTests$Circuit" "FaultTests$Circuit" "bridgeFirst" "[I") ∈ UW := UW_in (lw_i1 (List.mem_of_getElem? (i := 112) rfl)) rfl
theorem mw_1_114 : (Cond.laysFinal "FaultTests$Circuit" "FaultTests$Circuit" "bridgeSecond" "[I") ∈ UW := UW_in (lw_i1 (List.mem_of_getElem? (i := 114) rfl)) rfl
theorem mw_1_116 : (Cond.laysFinal "FaultTests$Circuit" "FaultTests$Circuit" "bridgeKind" "[I") ∈ UW := UW_in (lw_i1 (List.mem_of_getElem? (i := 116) rfl)) rfl
theorem mw_1_118 : (Cond.superclass "FaultTests$Circuit" "java/lang/Object") ∈ UW := UW_in (lw_i1 (List.mem_of_getElem? (i := 118) rfl)) rfl
theorem mw_1_119 : (Cond.arrayClass .int) ∈ UW := UW_in (lw_i1 (List.mem_of_getElem? (i := 119) rfl)) rfl
theorem mw_1_120 : (Cond.classLink "FaultTests$Setup" 16 "FaultTests$TestList") ∈ UW := UW_in (lw_i1 (List.mem_of_getElem? (i := 120) rfl)) rfl
theorem mw_1_121 : (Cond.instantiable "FaultTests$TestList" 5) ∈ UW := UW_in (lw_i1 (List.mem_of_getElem? (i := 121) rfl)) rfl
theorem mw_1_123 : (Cond.instanceMethod ⟨"FaultTests$TestList", "<init>", "()V"⟩) ∈ UW := UW_in (lw_i1 (List.mem_of_getElem? (i := 123) rfl)) rfl
theorem mw_1_124 : (Cond.code ⟨"FaultTests$TestList", "<init>", "()V"⟩ prog_8_method_1_code 1 none) ∈ UW := UW_in (lw_i1 (List.mem_of_getElem? (i := 124) rfl)) rfl
theorem mw_1_125 : (Cond.methodLink "FaultTests$TestList" 3 ⟨"java/lang/Object", "<init>", "()V"⟩) ∈ UW := UW_in (lw_i1 (List.mem_of_getElem? (i := 125) rfl)) rfl
theorem mw_1_126 : (Cond.fieldLink "FaultTests$TestList" 9 "FaultTests$TestList" "count" "I") ∈ UW := UW_in (lw_i1 (List.mem_of_getElem? (i := 126) rfl)) rfl
theorem mw_1_127 : (Cond.fieldLink "FaultTests$Lanes" 33 "FaultTests$TestList" "count" "I") ∈ UW := UW_in (lw_i1 (List.mem_of_getElem? (i := 127) rfl)) rfl
theorem mw_1_128 : (Cond.fieldLink "FaultTests" 126 "FaultTests$TestList" "count" "I") ∈ UW := UW_in (lw_i1 (List.mem_of_getElem? (i := 128) rfl)) rfl
theorem mw_1_129 : (Cond.fieldLink "FaultTests$TestList" 15 "FaultTests$TestList" "ones" "[I") ∈ UW := UW_in (lw_i1 (List.mem_of_getElem? (i := 129) rfl)) rfl
theorem mw_1_130 : (Cond.fieldLink "FaultTests$Lanes" 39 "FaultTests$TestList" "ones" "[I") ∈ UW := UW_in (lw_i1 (List.mem_of_getElem? (i := 130) rfl)) rfl
theorem mw_1_131 : (Cond.fieldLink "FaultTests$TestList" 19 "FaultTests$TestList" "unknowns" "[I") ∈ UW := UW_in (lw_i1 (List.mem_of_getElem? (i := 131) rfl)) rfl
theorem mw_1_132 : (Cond.fieldLink "FaultTests$Lanes" 43 "FaultTests$TestList" "unknowns" "[I") ∈ UW := UW_in (lw_i1 (List.mem_of_getElem? (i := 132) rfl)) rfl
theorem mw_1_133 : (Cond.fieldLink "FaultTests$TestList" 22 "FaultTests$TestList" "seenZero" "[I") ∈ UW := UW_in (lw_i1 (List.mem_of_getElem? (i := 133) rfl)) rfl
theorem mw_1_134 : (Cond.fieldLink "FaultTests$TestList" 25 "FaultTests$TestList" "seenOne" "[I") ∈ UW := UW_in (lw_i1 (List.mem_of_getElem? (i := 134) rfl)) rfl
theorem mw_1_135 : (Cond.lays "FaultTests$TestList" "FaultTests$TestList" "count" "I") ∈ UW := UW_in (lw_i1 (List.mem_of_getElem? (i := 135) rfl)) rfl
theorem mw_1_137 : (Cond.laysFinal "FaultTests$TestList" "FaultTests$TestList" "ones" "[I") ∈ UW := UW_in (lw_i1 (List.mem_of_getElem? (i := 137) rfl)) rfl
theorem mw_1_139 : (Cond.laysFinal "FaultTests$TestList" "FaultTests$TestList" "unknowns" "[I") ∈ UW := UW_in (lw_i1 (List.mem_of_getElem? (i := 139) rfl)) rfl
theorem mw_1_141 : (Cond.laysFinal "FaultTests$TestList" "FaultTests$TestList" "seenZero" "[I") ∈ UW := UW_in (lw_i1 (List.mem_of_getElem? (i := 141) rfl)) rfl
theorem mw_1_143 : (Cond.laysFinal "FaultTests$TestList" "FaultTests$TestList" "seenOne" "[I") ∈ UW := UW_in (lw_i1 (List.mem_of_getElem? (i := 143) rfl)) rfl
theorem mw_1_145 : (Cond.superclass "FaultTests$TestList" "java/lang/Object") ∈ UW := UW_in (lw_i1 (List.mem_of_getElem? (i := 145) rfl)) rfl
theorem mw_1_146 : (Cond.fieldLink "FaultTests$Setup" 10 "FaultTests$Setup" "circuit" "LFaultTests$Circuit;") ∈ UW := UW_in (lw_i1 (List.mem_of_getElem? (i := 146) rfl)) rfl
theorem mw_1_147 : (Cond.fieldLink "FaultTests" 97 "FaultTests$Setup" "circuit" "LFaultTests$Circuit;") ∈ UW := UW_in (lw_i1 (List.mem_of_getElem? (i := 147) rfl)) rfl
theorem mw_1_148 : (Cond.fieldLink "FaultTests$SetupReader" 100 "FaultTests$Setup" "circuit" "LFaultTests$Circuit;") ∈ UW := UW_in (lw_i1 (List.mem_of_getElem? (i := 148) rfl)) rfl
theorem mw_1_149 : (Cond.fieldLink "FaultTests$Setup" 19 "FaultTests$Setup" "tests" "LFaultTests$TestList;") ∈ UW := UW_in (lw_i1 (List.mem_of_getElem? (i := 149) rfl)) rfl
theorem mw_1_150 : (Cond.fieldLink "FaultTests" 122 "FaultTests$Setup" "tests" "LFaultTests$TestList;") ∈ UW := UW_in (lw_i1 (List.mem_of_getElem? (i := 150) rfl)) rfl
theorem mw_1_151 : (Cond.fieldLink "FaultTests$SetupReader" 154 "FaultTests$Setup" "tests" "LFaultTests$TestList;") ∈ UW := UW_in (lw_i1 (List.mem_of_getElem? (i := 151) rfl)) rfl
theorem mw_1_152 : (Cond.laysFinal "FaultTests$Setup" "FaultTests$Setup" "circuit" "LFaultTests$Circuit;") ∈ UW := UW_in (lw_i1 (List.mem_of_getElem? (i := 152) rfl)) rfl
theorem mw_1_154 : (Cond.laysFinal "FaultTests$Setup" "FaultTests$Setup" "tests" "LFaultTests$TestList;") ∈ UW := UW_in (lw_i1 (List.mem_of_getElem? (i := 154) rfl)) rfl
theorem mw_1_156 : (Cond.superclass "FaultTests$Setup" "java/lang/Object") ∈ UW := UW_in (lw_i1 (List.mem_of_getElem? (i := 156) rfl)) rfl
theorem mw_1_157 : (Cond.fieldLink "FaultTests$SetupReader" 12 "FaultTests$SetupReader" "setup" "LFaultTests$Setup;") ∈ UW := UW_in (lw_i1 (List.mem_of_getElem? (i := 157) rfl)) rfl
theorem mw_1_158 : (Cond.fieldLink "FaultTests" 88 "FaultTests$SetupReader" "setup" "LFaultTests$Setup;") ∈ UW := UW_in (lw_i1 (List.mem_of_getElem? (i := 158) rfl)) rfl
theorem mw_1_159 : (Cond.fieldLink "FaultTests$SetupReader" 18 "FaultTests$SetupReader" "textLength" "I") ∈ UW := UW_in (lw_i1 (List.mem_of_getElem? (i := 159) rfl)) rfl
theorem mw_1_160 : (Cond.fieldLink "FaultTests" 66 "FaultTests$SetupReader" "textLength" "I") ∈ UW := UW_in (lw_i1 (List.mem_of_getElem? (i := 160) rfl)) rfl
theorem mw_1_161 : (Cond.fieldLink "FaultTests$SetupReader" 22 "FaultTests$SetupReader" "errorAt" "I") ∈ UW := UW_in (lw_i1 (List.mem_of_getElem? (i := 161) rfl)) rfl
theorem mw_1_162 : (Cond.fieldLink "FaultTests$SetupReader" 25 "FaultTests$SetupReader" "text" "[I") ∈ UW := UW_in (lw_i1 (List.mem_of_getElem? (i := 162) rfl)) rfl
theorem mw_1_163 : (Cond.fieldLink "FaultTests$SetupReader" 29 "FaultTests$SetupReader" "error" "I") ∈ UW := UW_in (lw_i1 (List.mem_of_getElem? (i := 163) rfl)) rfl
theorem mw_1_164 : (Cond.fieldLink "FaultTests$SetupReader" 32 "FaultTests$SetupReader" "end" "I") ∈ UW := UW_in (lw_i1 (List.mem_of_getElem? (i := 164) rfl)) rfl
theorem mw_1_165 : (Cond.fieldLink "FaultTests$SetupReader" 35 "FaultTests$SetupReader" "position" "I") ∈ UW := UW_in (lw_i1 (List.mem_of_getElem? (i := 165) rfl)) rfl
theorem mw_1_166 : (Cond.fieldLink "FaultTests$SetupReader" 38 "FaultTests$SetupReader" "token" "I") ∈ UW := UW_in (lw_i1 (List.mem_of_getElem? (i := 166) rfl)) rfl
theorem mw_1_167 : (Cond.fieldLink "FaultTests$SetupReader" 41 "FaultTests$SetupReader" "tokenStart" "I") ∈ UW := UW_in (lw_i1 (List.mem_of_getElem? (i := 167) rfl)) rfl
theorem mw_1_168 : (Cond.fieldLink "FaultTests$SetupReader" 44 "FaultTests$SetupReader" "number" "I") ∈ UW := UW_in (lw_i1 (List.mem_of_getElem? (i := 168) rfl)) rfl
theorem mw_1_169 : (Cond.laysFinal "FaultTests$SetupReader" "FaultTests$SetupReader" "setup" "LFaultTests$Setup;") ∈ UW := UW_in (lw_i1 (List.mem_of_getElem? (i := 169) rfl)) rfl
theorem mw_1_171 : (Cond.lays "FaultTests$SetupReader" "FaultTests$SetupReader" "textLength" "I") ∈ UW := UW_in (lw_i1 (List.mem_of_getElem? (i := 171) rfl)) rfl
theorem mw_1_173 : (Cond.lays "FaultTests$SetupReader" "FaultTests$SetupReader" "errorAt" "I") ∈ UW := UW_in (lw_i1 (List.mem_of_getElem? (i := 173) rfl)) rfl
theorem mw_1_175 : (Cond.laysFinal "FaultTests$SetupReader" "FaultTests$SetupReader" "text" "[I") ∈ UW := UW_in (lw_i1 (List.mem_of_getElem? (i := 175) rfl)) rfl
theorem mw_1_177 : (Cond.lays "FaultTests$SetupReader" "FaultTests$SetupReader" "error" "I") ∈ UW := UW_in (lw_i1 (List.mem_of_getElem? (i := 177) rfl)) rfl
theorem mw_1_179 : (Cond.lays "FaultTests$SetupReader" "FaultTests$SetupReader" "end" "I") ∈ UW := UW_in (lw_i1 (List.mem_of_getElem? (i := 179) rfl)) rfl
theorem mw_1_181 : (Cond.lays "FaultTests$SetupReader" "FaultTests$SetupReader" "position" "I") ∈ UW := UW_in (lw_i1 (List.mem_of_getElem? (i := 181) rfl)) rfl
theorem mw_1_183 : (Cond.lays "FaultTests$SetupReader" "FaultTests$SetupReader" "token" "I") ∈ UW := UW_in (lw_i1 (List.mem_of_getElem? (i := 183) rfl)) rfl
theorem mw_1_185 : (Cond.lays "FaultTests$SetupReader" "FaultTests$SetupReader" "tokenStart" "I") ∈ UW := UW_in (lw_i1 (List.mem_of_getElem? (i := 185) rfl)) rfl
theorem mw_1_187 : (Cond.lays "FaultTests$SetupReader" "FaultTests$SetupReader" "number" "I") ∈ UW := UW_in (lw_i1 (List.mem_of_getElem? (i := 187) rfl)) rfl
theorem mw_1_189 : (Cond.superclass "FaultTests$SetupReader" "java/lang/Object") ∈ UW := UW_in (lw_i1 (List.mem_of_getElem? (i := 189) rfl)) rfl
theorem mw_1_190 : (Cond.classLink "FaultTests" 16 "FaultTests$Setup") ∈ UW := UW_in (lw_i1 (List.mem_of_getElem? (i := 190) rfl)) rfl
theorem mw_1_192 : (Cond.classLink "FaultTests" 23 "FaultTests$History") ∈ UW := UW_in (lw_i1 (List.mem_of_getElem? (i := 192) rfl)) rfl
theorem mw_1_193 : (Cond.instantiable "FaultTests$History" 3) ∈ UW := UW_in (lw_i1 (List.mem_of_getElem? (i := 193) rfl)) rfl
theorem mw_1_194 : (Cond.methodLink "FaultTests" 25 ⟨"FaultTests$History", "<init>", "()V"⟩) ∈ UW := UW_in (lw_i1 (List.mem_of_getElem? (i := 194) rfl)) rfl
theorem mw_1_195 : (Cond.instanceMethod ⟨"FaultTests$History", "<init>", "()V"⟩) ∈ UW := UW_in (lw_i1 (List.mem_of_getElem? (i := 195) rfl)) rfl
theorem mw_1_196 : (Cond.code ⟨"FaultTests$History", "<init>", "()V"⟩ prog_3_method_1_code 2 none) ∈ UW := UW_in (lw_i1 (List.mem_of_getElem? (i := 196) rfl)) rfl
theorem mw_1_197 : (Cond.methodLink "FaultTests$History" 3 ⟨"java/lang/Object", "<init>", "()V"⟩) ∈ UW := UW_in (lw_i1 (List.mem_of_getElem? (i := 197) rfl)) rfl
theorem mw_1_198 : (Cond.classLink "FaultTests$History" 18 "FaultTests$Setup") ∈ UW := UW_in (lw_i1 (List.mem_of_getElem? (i := 198) rfl)) rfl
theorem mw_1_201 : (Cond.fieldLink "FaultTests$History" 9 "FaultTests$History" "count" "I") ∈ UW := UW_in (lw_i1 (List.mem_of_getElem? (i := 201) rfl)) rfl
theorem mw_1_202 : (Cond.fieldLink "FaultTests$History" 15 "FaultTests$History" "next" "I") ∈ UW := UW_in (lw_i1 (List.mem_of_getElem? (i := 202) rfl)) rfl
theorem mw_1_203 : (Cond.fieldLink "FaultTests$History" 20 "FaultTests$History" "ring" "[LFaultTests$Setup;") ∈ UW := UW_in (lw_i1 (List.mem_of_getElem? (i := 203) rfl)) rfl
theorem mw_1_204 : (Cond.lays "FaultTests$History" "FaultTests$History" "count" "I") ∈ UW := UW_in (lw_i1 (List.mem_of_getElem? (i := 204) rfl)) rfl
theorem mw_1_206 : (Cond.lays "FaultTests$History" "FaultTests$History" "next" "I") ∈ UW := UW_in (lw_i1 (List.mem_of_getElem? (i := 206) rfl)) rfl
theorem mw_1_208 : (Cond.laysFinal "FaultTests$History" "FaultTests$History" "ring" "[LFaultTests$Setup;") ∈ UW := UW_in (lw_i1 (List.mem_of_getElem? (i := 208) rfl)) rfl
theorem mw_1_210 : (Cond.superclass "FaultTests$History" "java/lang/Object") ∈ UW := UW_in (lw_i1 (List.mem_of_getElem? (i := 210) rfl)) rfl
theorem mw_1_211 : (Cond.classLink "FaultTests" 30 "FaultTests$Rows") ∈ UW := UW_in (lw_i1 (List.mem_of_getElem? (i := 211) rfl)) rfl
theorem mw_1_212 : (Cond.instantiable "FaultTests$Rows" 5) ∈ UW := UW_in (lw_i1 (List.mem_of_getElem? (i := 212) rfl)) rfl
theorem mw_1_213 : (Cond.methodLink "FaultTests" 32 ⟨"FaultTests$Rows", "<init>", "(I)V"⟩) ∈ UW := UW_in (lw_i1 (List.mem_of_getElem? (i := 213) rfl)) rfl
theorem mw_1_214 : (Cond.instanceMethod ⟨"FaultTests$Rows", "<init>", "(I)V"⟩) ∈ UW := UW_in (lw_i1 (List.mem_of_getElem? (i := 214) rfl)) rfl
theorem mw_1_215 : (Cond.code ⟨"FaultTests$Rows", "<init>", "(I)V"⟩ prog_5_method_1_code 2 none) ∈ UW := UW_in (lw_i1 (List.mem_of_getElem? (i := 215) rfl)) rfl
theorem mw_1_216 : (Cond.methodLink "FaultTests$Rows" 3 ⟨"java/lang/Object", "<init>", "()V"⟩) ∈ UW := UW_in (lw_i1 (List.mem_of_getElem? (i := 216) rfl)) rfl
theorem mw_1_217 : (Cond.classLink "FaultTests$Rows" 9 "FaultTests$Lanes") ∈ UW := UW_in (lw_i1 (List.mem_of_getElem? (i := 217) rfl)) rfl
theorem mw_1_218 : (Cond.instantiable "FaultTests$Lanes" 2) ∈ UW := UW_in (lw_i1 (List.mem_of_getElem? (i := 218) rfl)) rfl
theorem mw_1_220 : (Cond.instanceMethod ⟨"FaultTests$Lanes", "<init>", "()V"⟩) ∈ UW := UW_in (lw_i1 (List.mem_of_getElem? (i := 220) rfl)) rfl
theorem mw_1_221 : (Cond.code ⟨"FaultTests$Lanes", "<init>", "()V"⟩ prog_4_method_1_code 1 none) ∈ UW := UW_in (lw_i1 (List.mem_of_getElem? (i := 221) rfl)) rfl
theorem mw_1_222 : (Cond.methodLink "FaultTests$Lanes" 3 ⟨"java/lang/Object", "<init>", "()V"⟩) ∈ UW := UW_in (lw_i1 (List.mem_of_getElem? (i := 222) rfl)) rfl
theorem mw_1_223 : (Cond.fieldLink "FaultTests$Lanes" 9 "FaultTests$Lanes" "zero" "[J") ∈ UW := UW_in (lw_i1 (List.mem_of_getElem? (i := 223) rfl)) rfl
theorem mw_1_224 : (Cond.fieldLink "FaultTests$Rows" 57 "FaultTests$Lanes" "zero" "[J") ∈ UW := UW_in (lw_i1 (List.mem_of_getElem? (i := 224) rfl)) rfl
theorem mw_1_225 : (Cond.fieldLink "FaultTests$Lanes" 15 "FaultTests$Lanes" "one" "[J") ∈ UW := UW_in (lw_i1 (List.mem_of_getElem? (i := 225) rfl)) rfl
theorem mw_1_226 : (Cond.fieldLink "FaultTests$Rows" 62 "FaultTests$Lanes" "one" "[J") ∈ UW := UW_in (lw_i1 (List.mem_of_getElem? (i := 226) rfl)) rfl
theorem mw_1_227 : (Cond.laysFinal "FaultTests$Lanes" "FaultTests$Lanes" "zero" "[J") ∈ UW := UW_in (lw_i1 (List.mem_of_getElem? (i := 227) rfl)) rfl
theorem mw_1_229 : (Cond.laysFinal "FaultTests$Lanes" "FaultTests$Lanes" "one" "[J") ∈ UW := UW_in (lw_i1 (List.mem_of_getElem? (i := 229) rfl)) rfl
theorem mw_1_231 : (Cond.superclass "FaultTests$Lanes" "java/lang/Object") ∈ UW := UW_in (lw_i1 (List.mem_of_getElem? (i := 231) rfl)) rfl
theorem mw_1_232 : (Cond.arrayClass .long) ∈ UW := UW_in (lw_i1 (List.mem_of_getElem? (i := 232) rfl)) rfl
theorem mw_1_233 : (Cond.fieldLink "FaultTests$Rows" 12 "FaultTests$Rows" "good" "LFaultTests$Lanes;") ∈ UW := UW_in (lw_i1 (List.mem_of_getElem? (i := 233) rfl)) rfl
theorem mw_1_234 : (Cond.fieldLink "FaultTests" 180 "FaultTests$Rows" "good" "LFaultTests$Lanes;") ∈ UW := UW_in (lw_i1 (List.mem_of_getElem? (i := 234) rfl)) rfl
theorem mw_1_235 : (Cond.fieldLink "FaultTests$Rows" 18 "FaultTests$Rows" "bad" "LFaultTests$Lanes;") ∈ UW := UW_in (lw_i1 (List.mem_of_getElem? (i := 235) rfl)) rfl
theorem mw_1_236 : (Cond.fieldLink "FaultTests" 193 "FaultTests$Rows" "bad" "LFaultTests$Lanes;") ∈ UW := UW_in (lw_i1 (List.mem_of_getElem? (i := 236) rfl)) rfl
theorem mw_1_237 : (Cond.fieldLink "FaultTests$Rows" 25 "FaultTests$Rows" "zero" "[J") ∈ UW := UW_in (lw_i1 (List.mem_of_getElem? (i := 237) rfl)) rfl
theorem mw_1_238 : (Cond.fieldLink "FaultTests$Rows" 29 "FaultTests$Rows" "one" "[J") ∈ UW := UW_in (lw_i1 (List.mem_of_getElem? (i := 238) rfl)) rfl
theorem mw_1_239 : (Cond.fieldLink "FaultTests$Rows" 21 "FaultTests$Rows" "words" "I") ∈ UW := UW_in (lw_i1 (List.mem_of_getElem? (i := 239) rfl)) rfl
theorem mw_2_0 : (Cond.laysFinal "FaultTests$Rows" "FaultTests$Rows" "good" "LFaultTests$Lanes;") ∈ UW := UW_in (lw_i2 (List.mem_of_getElem? (i := 0) rfl)) rfl
theorem mw_2_2 : (Cond.laysFinal "FaultTests$Rows" "FaultTests$Rows" "bad" "LFaultTests$Lanes;") ∈ UW := UW_in (lw_i2 (List.mem_of_getElem? (i := 2) rfl)) rfl
theorem mw_2_4 : (Cond.laysFinal "FaultTests$Rows" "FaultTests$Rows" "zero" "[J") ∈ UW := UW_in (lw_i2 (List.mem_of_getElem? (i := 4) rfl)) rfl
theorem mw_2_6 : (Cond.laysFinal "FaultTests$Rows" "FaultTests$Rows" "one" "[J") ∈ UW := UW_in (lw_i2 (List.mem_of_getElem? (i := 6) rfl)) rfl
theorem mw_2_8 : (Cond.laysFinal "FaultTests$Rows" "FaultTests$Rows" "words" "I") ∈ UW := UW_in (lw_i2 (List.mem_of_getElem? (i := 8) rfl)) rfl
theorem mw_2_10 : (Cond.superclass "FaultTests$Rows" "java/lang/Object") ∈ UW := UW_in (lw_i2 (List.mem_of_getElem? (i := 10) rfl)) rfl
theorem mw_2_11 : (Cond.fieldLink "FaultTests" 12 "FaultTests" "reader" "LFaultTests$SetupReader;") ∈ UW := UW_in (lw_i2 (List.mem_of_getElem? (i := 11) rfl)) rfl
theorem mw_2_12 : (Cond.fieldLink "FaultTests" 19 "FaultTests" "now" "LFaultTests$Setup;") ∈ UW := UW_in (lw_i2 (List.mem_of_getElem? (i := 12) rfl)) rfl
theorem mw_2_13 : (Cond.fieldLink "FaultTests" 26 "FaultTests" "history" "LFaultTests$History;") ∈ UW := UW_in (lw_i2 (List.mem_of_getElem? (i := 13) rfl)) rfl
theorem mw_2_14 : (Cond.fieldLink "FaultTests" 35 "FaultTests" "fullRows" "LFaultTests$Rows;") ∈ UW := UW_in (lw_i2 (List.mem_of_getElem? (i := 14) rfl)) rfl
theorem mw_2_15 : (Cond.fieldLink "FaultTests" 39 "FaultTests" "testRows" "LFaultTests$Rows;") ∈ UW := UW_in (lw_i2 (List.mem_of_getElem? (i := 15) rfl)) rfl
theorem mw_2_16 : (Cond.fieldLink "FaultTests" 42 "FaultTests" "fullRowsFresh" "Z") ∈ UW := UW_in (lw_i2 (List.mem_of_getElem? (i := 16) rfl)) rfl
theorem mw_2_17 : (Cond.fieldLink "FaultTests" 46 "FaultTests" "testRowsFresh" "Z") ∈ UW := UW_in (lw_i2 (List.mem_of_getElem? (i := 17) rfl)) rfl
theorem mw_2_18 : (Cond.fieldLink "FaultTests" 49 "FaultTests" "fitting" "[I") ∈ UW := UW_in (lw_i2 (List.mem_of_getElem? (i := 18) rfl)) rfl
theorem mw_2_19 : (Cond.fieldLink "FaultTests" 53 "FaultTests" "partSizes" "[I") ∈ UW := UW_in (lw_i2 (List.mem_of_getElem? (i := 19) rfl)) rfl
theorem mw_2_20 : (Cond.fieldLink "FaultTests" 56 "FaultTests" "foundBy" "[J") ∈ UW := UW_in (lw_i2 (List.mem_of_getElem? (i := 20) rfl)) rfl
theorem mw_2_21 : (Cond.fieldLink "FaultTests" 60 "FaultTests" "foundUpTo" "[J") ∈ UW := UW_in (lw_i2 (List.mem_of_getElem? (i := 21) rfl)) rfl
theorem mw_2_22 : (Cond.fieldLink "FaultTests" 63 "FaultTests" "foundByFull" "[J") ∈ UW := UW_in (lw_i2 (List.mem_of_getElem? (i := 22) rfl)) rfl
theorem mw_2_23 : (Cond.laysFinal "FaultTests" "FaultTests" "reader" "LFaultTests$SetupReader;") ∈ UW := UW_in (lw_i2 (List.mem_of_getElem? (i := 23) rfl)) rfl
theorem mw_2_25 : (Cond.laysFinal "FaultTests" "FaultTests" "now" "LFaultTests$Setup;") ∈ UW := UW_in (lw_i2 (List.mem_of_getElem? (i := 25) rfl)) rfl
theorem mw_2_27 : (Cond.laysFinal "FaultTests" "FaultTests" "history" "LFaultTests$History;") ∈ UW := UW_in (lw_i2 (List.mem_of_getElem? (i := 27) rfl)) rfl
theorem mw_2_29 : (Cond.laysFinal "FaultTests" "FaultTests" "fullRows" "LFaultTests$Rows;") ∈ UW := UW_in (lw_i2 (List.mem_of_getElem? (i := 29) rfl)) rfl
theorem mw_2_31 : (Cond.laysFinal "FaultTests" "FaultTests" "testRows" "LFaultTests$Rows;") ∈ UW := UW_in (lw_i2 (List.mem_of_getElem? (i := 31) rfl)) rfl
theorem mw_2_33 : (Cond.lays "FaultTests" "FaultTests" "fullRowsFresh" "Z") ∈ UW := UW_in (lw_i2 (List.mem_of_getElem? (i := 33) rfl)) rfl
theorem mw_2_35 : (Cond.lays "FaultTests" "FaultTests" "testRowsFresh" "Z") ∈ UW := UW_in (lw_i2 (List.mem_of_getElem? (i := 35) rfl)) rfl
theorem mw_2_37 : (Cond.laysFinal "FaultTests" "FaultTests" "fitting" "[I") ∈ UW := UW_in (lw_i2 (List.mem_of_getElem? (i := 37) rfl)) rfl
theorem mw_2_39 : (Cond.laysFinal "FaultTests" "FaultTests" "partSizes" "[I") ∈ UW := UW_in (lw_i2 (List.mem_of_getElem? (i := 39) rfl)) rfl
theorem mw_2_41 : (Cond.laysFinal "FaultTests" "FaultTests" "foundBy" "[J") ∈ UW := UW_in (lw_i2 (List.mem_of_getElem? (i := 41) rfl)) rfl
theorem mw_2_43 : (Cond.laysFinal "FaultTests" "FaultTests" "foundUpTo" "[J") ∈ UW := UW_in (lw_i2 (List.mem_of_getElem? (i := 43) rfl)) rfl
theorem mw_2_45 : (Cond.laysFinal "FaultTests" "FaultTests" "foundByFull" "[J") ∈ UW := UW_in (lw_i2 (List.mem_of_getElem? (i := 45) rfl)) rfl
theorem mw_2_47 : (Cond.superclass "FaultTests" "java/lang/Object") ∈ UW := UW_in (lw_i2 (List.mem_of_getElem? (i := 47) rfl)) rfl
theorem mw_2_48 : (Cond.methodLink "FaultTestsLaw" 132 ⟨"FaultTests", "state", "(I)I"⟩) ∈ UW := UW_in (lw_i2 (List.mem_of_getElem? (i := 48) rfl)) rfl
theorem mw_2_49 : (Cond.instanceMethod ⟨"FaultTests", "state", "(I)I"⟩) ∈ UW := UW_in (lw_i2 (List.mem_of_getElem? (i := 49) rfl)) rfl
theorem mw_2_50 : (Cond.selects "FaultTests" ⟨"FaultTests", "state", "(I)I"⟩ ⟨"FaultTests", "state", "(I)I"⟩) ∈ UW := UW_in (lw_i2 (List.mem_of_getElem? (i := 50) rfl)) rfl
theorem mw_2_51 : (Cond.code ⟨"FaultTests", "state", "(I)I"⟩ prog_1_method_5_code 2 (some .int)) ∈ UW := UW_in (lw_i2 (List.mem_of_getElem? (i := 51) rfl)) rfl
theorem mw_2_52 : (Cond.methodLink "FaultTests" 115 ⟨"FaultTests$Circuit", "faultCount", "()I"⟩) ∈ UW := UW_in (lw_i2 (List.mem_of_getElem? (i := 52) rfl)) rfl
theorem mw_2_53 : (Cond.instanceMethod ⟨"FaultTests$Circuit", "faultCount", "()I"⟩) ∈ UW := UW_in (lw_i2 (List.mem_of_getElem? (i := 53) rfl)) rfl
theorem mw_2_54 : (Cond.selects "FaultTests$Circuit" ⟨"FaultTests$Circuit", "faultCount", "()I"⟩ ⟨"FaultTests$Circuit", "faultCount", "()I"⟩) ∈ UW := UW_in (lw_i2 (List.mem_of_getElem? (i := 54) rfl)) rfl
theorem mw_2_55 : (Cond.code ⟨"FaultTests$Circuit", "faultCount", "()I"⟩ prog_2_method_13_code 1 (some .int)) ∈ UW := UW_in (lw_i2 (List.mem_of_getElem? (i := 55) rfl)) rfl
theorem mw_2_56 : (Cond.methodLink "FaultTests" 131 ⟨"FaultTests$TestList", "countSeen", "()I"⟩) ∈ UW := UW_in (lw_i2 (List.mem_of_getElem? (i := 56) rfl)) rfl
theorem mw_2_57 : (Cond.instanceMethod ⟨"FaultTests$TestList", "countSeen", "()I"⟩) ∈ UW := UW_in (lw_i2 (List.mem_of_getElem? (i := 57) rfl)) rfl
theorem mw_2_58 : (Cond.selects "FaultTests$TestList" ⟨"FaultTests$TestList", "countSeen", "()I"⟩ ⟨"FaultTests$TestList", "countSeen", "()I"⟩) ∈ UW := UW_in (lw_i2 (List.mem_of_getElem? (i := 58) rfl)) rfl
theorem mw_2_59 : (Cond.code ⟨"FaultTests$TestList", "countSeen", "()I"⟩ prog_8_method_11_code 3 (some .int)) ∈ UW := UW_in (lw_i2 (List.mem_of_getElem? (i := 59) rfl)) rfl
theorem mw_2_60 : (Cond.methodLink "FaultTests$TestList" 47 ⟨"java/lang/Integer", "bitCount", "(I)I"⟩) ∈ UW := UW_in (lw_i2 (List.mem_of_getElem? (i := 60) rfl)) rfl
theorem mw_2_61 : (Cond.static ⟨"java/lang/Integer", "bitCount", "(I)I"⟩) ∈ UW := UW_in (lw_i2 (List.mem_of_getElem? (i := 61) rfl)) rfl
theorem mw_2_62 : (Cond.code ⟨"java/lang/Integer", "bitCount", "(I)I"⟩ prog_18_method_49_code 1 (some .int)) ∈ UW := UW_in (lw_i2 (List.mem_of_getElem? (i := 62) rfl)) rfl
theorem mw_2_63 : (Cond.constant "java/lang/Integer" 265 (1431655765 : Int32)) ∈ UW := UW_in (lw_i2 (List.mem_of_getElem? (i := 63) rfl)) rfl
theorem mw_2_64 : (Cond.constant "java/lang/Integer" 266 (858993459 : Int32)) ∈ UW := UW_in (lw_i2 (List.mem_of_getElem? (i := 64) rfl)) rfl
theorem mw_2_65 : (Cond.constant "java/lang/Integer" 267 (252645135 : Int32)) ∈ UW := UW_in (lw_i2 (List.mem_of_getElem? (i := 65) rfl)) rfl
theorem mw_2_66 : (Cond.methodLink "FaultTests" 134 ⟨"FaultTests", "listFoundByTests", "()J"⟩) ∈ UW := UW_in (lw_i2 (List.mem_of_getElem? (i := 66) rfl)) rfl
theorem mw_2_68 : (Cond.instanceMethod ⟨"FaultTests", "listFoundByTests", "()J"⟩) ∈ UW := UW_in (lw_i2 (List.mem_of_getElem? (i := 68) rfl)) rfl
theorem mw_2_69 : (Cond.code ⟨"FaultTests", "listFoundByTests", "()J"⟩ prog_1_method_41_code 1 (some .long)) ∈ UW := UW_in (lw_i2 (List.mem_of_getElem? (i := 69) rfl)) rfl
theorem mw_2_70 : (Cond.methodLink "FaultTests" 177 ⟨"FaultTests", "refreshTestRows", "()V"⟩) ∈ UW := UW_in (lw_i2 (List.mem_of_getElem? (i := 70) rfl)) rfl
theorem mw_2_72 : (Cond.instanceMethod ⟨"FaultTests", "refreshTestRows", "()V"⟩) ∈ UW := UW_in (lw_i2 (List.mem_of_getElem? (i := 72) rfl)) rfl
theorem mw_2_73 : (Cond.code ⟨"FaultTests", "refreshTestRows", "()V"⟩ prog_1_method_40_code 1 none) ∈ UW := UW_in (lw_i2 (List.mem_of_getElem? (i := 73) rfl)) rfl
theorem mw_2_74 : (Cond.methodLink "FaultTests" 324 ⟨"FaultTests$Lanes", "setTestInputs", "(ILFaultTests$TestList;)V"⟩) ∈ UW := UW_in (lw_i2 (List.mem_of_getElem? (i := 74) rfl)) rfl
theorem mw_2_75 : (Cond.instanceMethod ⟨"FaultTests$Lanes", "setTestInputs", "(ILFaultTests$TestList;)V"⟩) ∈ UW := UW_in (lw_i2 (List.mem_of_getElem? (i := 75) rfl)) rfl
theorem mw_2_76 : (Cond.selects "FaultTests$Lanes" ⟨"FaultTests$Lanes", "setTestInputs", "(ILFaultTests$TestList;)V"⟩ ⟨"FaultTests$Lanes", "setTestInputs", "(ILFaultTests$TestList;)V"⟩) ∈ UW := UW_in (lw_i2 (List.mem_of_getElem? (i := 76) rfl)) rfl
theorem mw_2_77 : (Cond.code ⟨"FaultTests$Lanes", "setTestInputs", "(ILFaultTests$TestList;)V"⟩ prog_4_method_4_code 5 none) ∈ UW := UW_in (lw_i2 (List.mem_of_getElem? (i := 77) rfl)) rfl
theorem mw_2_78 : (Cond.methodLink "FaultTests$Lanes" 25 ⟨"FaultTests$Circuit", "hasBit", "(II)Z"⟩) ∈ UW := UW_in (lw_i2 (List.mem_of_getElem? (i := 78) rfl)) rfl
theorem mw_2_79 : (Cond.static ⟨"FaultTests$Circuit", "hasBit", "(II)Z"⟩) ∈ UW := UW_in (lw_i2 (List.mem_of_getElem? (i := 79) rfl)) rfl
theorem mw_2_80 : (Cond.code ⟨"FaultTests$Circuit", "hasBit", "(II)Z"⟩ prog_2_method_17_code 2 (some .boolean)) ∈ UW := UW_in (lw_i2 (List.mem_of_getElem? (i := 80) rfl)) rfl
theorem mw_2_81 : (Cond.methodLink "FaultTests" 320 ⟨"FaultTests$Rows", "work", "(LFaultTests$Circuit;I)V"⟩) ∈ UW := UW_in (lw_i2 (List.mem_of_getElem? (i := 81) rfl)) rfl
theorem mw_2_82 : (Cond.instanceMethod ⟨"FaultTests$Rows", "work", "(LFaultTests$Circuit;I)V"⟩) ∈ UW := UW_in (lw_i2 (List.mem_of_getElem? (i := 82) rfl)) rfl
theorem mw_2_83 : (Cond.selects "FaultTests$Rows" ⟨"FaultTests$Rows", "work", "(LFaultTests$Circuit;I)V"⟩ ⟨"FaultTests$Rows", "work", "(LFaultTests$Circuit;I)V"⟩) ∈ UW := UW_in (lw_i2 (List.mem_of_getElem? (i := 83) rfl)) rfl
theorem mw_2_84 : (Cond.code ⟨"FaultTests$Rows", "work", "(LFaultTests$Circuit;I)V"⟩ prog_5_method_3_code 5 none) ∈ UW := UW_in (lw_i2 (List.mem_of_getElem? (i := 84) rfl)) rfl
theorem mw_2_85 : (Cond.methodLink "FaultTests$Rows" 32 ⟨"FaultTests$Circuit", "faultCount", "()I"⟩) ∈ UW := UW_in (lw_i2 (List.mem_of_getElem? (i := 85) rfl)) rfl
theorem mw_2_86 : (Cond.methodLink "FaultTests$Rows" 38 ⟨"FaultTests$Lanes", "runGates", "(LFaultTests$Circuit;)V"⟩) ∈ UW := UW_in (lw_i2 (List.mem_of_getElem? (i := 86) rfl)) rfl
theorem mw_2_87 : (Cond.instanceMethod ⟨"FaultTests$Lanes", "runGates", "(LFaultTests$Circuit;)V"⟩) ∈ UW := UW_in (lw_i2 (List.mem_of_getElem? (i := 87) rfl)) rfl
theorem mw_2_88 : (Cond.selects "FaultTests$Lanes" ⟨"FaultTests$Lanes", "runGates", "(LFaultTests$Circuit;)V"⟩ ⟨"FaultTests$Lanes", "runGates", "(LFaultTests$Circuit;)V"⟩) ∈ UW := UW_in (lw_i2 (List.mem_of_getElem? (i := 88) rfl)) rfl
theorem mw_2_89 : (Cond.code ⟨"FaultTests$Lanes", "runGates", "(LFaultTests$Circuit;)V"⟩ prog_4_method_5_code 3 none) ∈ UW := UW_in (lw_i2 (List.mem_of_getElem? (i := 89) rfl)) rfl
theorem mw_2_90 : (Cond.methodLink "FaultTests$Lanes" 52 ⟨"FaultTests$Lanes", "runGate", "(LFaultTests$Circuit;I)V"⟩) ∈ UW := UW_in (lw_i2 (List.mem_of_getElem? (i := 90) rfl)) rfl
theorem mw_2_92 : (Cond.instanceMethod ⟨"FaultTests$Lanes", "runGate", "(LFaultTests$Circuit;I)V"⟩) ∈ UW := UW_in (lw_i2 (List.mem_of_getElem? (i := 92) rfl)) rfl
theorem mw_2_93 : (Cond.code ⟨"FaultTests$Lanes", "runGate", "(LFaultTests$Circuit;I)V"⟩ prog_4_method_8_code 16 none) ∈ UW := UW_in (lw_i2 (List.mem_of_getElem? (i := 93) rfl)) rfl
theorem mw_2_94 : (Cond.methodLink "FaultTests$Rows" 42 ⟨"FaultTests$Rows", "store", "(LFaultTests$Circuit;LFaultTests$Lanes;II)V"⟩) ∈ UW := UW_in (lw_i2 (List.mem_of_getElem? (i := 94) rfl)) rfl
theorem mw_2_96 : (Cond.instanceMethod ⟨"FaultTests$Rows", "store", "(LFaultTests$Circuit;LFaultTests$Lanes;II)V"⟩) ∈ UW := UW_in (lw_i2 (List.mem_of_getElem? (i := 96) rfl)) rfl
theorem mw_2_97 : (Cond.code ⟨"FaultTests$Rows", "store", "(LFaultTests$Circuit;LFaultTests$Lanes;II)V"⟩ prog_5_method_4_code 7 none) ∈ UW := UW_in (lw_i2 (List.mem_of_getElem? (i := 97) rfl)) rfl
theorem mw_2_98 : (Cond.methodLink "FaultTests$Rows" 53 ⟨"FaultTests$Rows", "rowOf", "(III)I"⟩) ∈ UW := UW_in (lw_i2 (List.mem_of_getElem? (i := 98) rfl)) rfl
theorem mw_2_99 : (Cond.instanceMethod ⟨"FaultTests$Rows", "rowOf", "(III)I"⟩) ∈ UW := UW_in (lw_i2 (List.mem_of_getElem? (i := 99) rfl)) rfl
theorem mw_2_100 : (Cond.selects "FaultTests$Rows" ⟨"FaultTests$Rows", "rowOf", "(III)I"⟩ ⟨"FaultTests$Rows", "rowOf", "(III)I"⟩) ∈ UW := UW_in (lw_i2 (List.mem_of_getElem? (i := 100) rfl)) rfl
theorem mw_2_101 : (Cond.code ⟨"FaultTests$Rows", "rowOf", "(III)I"⟩ prog_5_method_2_code 4 (some .int)) ∈ UW := UW_in (lw_i2 (List.mem_of_getElem? (i := 101) rfl)) rfl
theorem mw_2_102 : (Cond.methodLink "FaultTests$Rows" 46 ⟨"FaultTests$Lanes", "runFault", "(LFaultTests$Circuit;LFaultTests$Lanes;I)V"⟩) ∈ UW := UW_in (lw_i2 (List.mem_of_getElem? (i := 102) rfl)) rfl
theorem mw_2_103 : (Cond.instanceMethod ⟨"FaultTests$Lanes", "runFault", "(LFaultTests$Circuit;LFaultTests$Lanes;I)V"⟩) ∈ UW := UW_in (lw_i2 (List.mem_of_getElem? (i := 103) rfl)) rfl
theorem mw_2_104 : (Cond.selects "FaultTests$Lanes" ⟨"FaultTests$Lanes", "runFault", "(LFaultTests$Circuit;LFaultTests$Lanes;I)V"⟩ ⟨"FaultTests$Lanes", "runFault", "(LFaultTests$Circuit;LFaultTests$Lanes;I)V"⟩) ∈ UW := UW_in (lw_i2 (List.mem_of_getElem? (i := 104) rfl)) rfl
theorem mw_2_105 : (Cond.code ⟨"FaultTests$Lanes", "runFault", "(LFaultTests$Circuit;LFaultTests$Lanes;I)V"⟩ prog_4_method_6_code 6 none) ∈ UW := UW_in (lw_i2 (List.mem_of_getElem? (i := 105) rfl)) rfl
theorem mw_2_106 : (Cond.methodLink "FaultTests$Lanes" 56 ⟨"FaultTests$Lanes", "setSites", "(LFaultTests$Circuit;LFaultTests$Lanes;I)I"⟩) ∈ UW := UW_in (lw_i2 (List.mem_of_getElem? (i := 106) rfl)) rfl
theorem mw_2_108 : (Cond.instanceMethod ⟨"FaultTests$Lanes", "setSites", "(LFaultTests$Circuit;LFaultTests$Lanes;I)I"⟩) ∈ UW := UW_in (lw_i2 (List.mem_of_getElem? (i := 108) rfl)) rfl
theorem mw_2_109 : (Cond.code ⟨"FaultTests$Lanes", "setSites", "(LFaultTests$Circuit;LFaultTests$Lanes;I)I"⟩ prog_4_method_7_code 7 (some .int)) ∈ UW := UW_in (lw_i2 (List.mem_of_getElem? (i := 109) rfl)) rfl
theorem mw_2_110 : (Cond.constantLong "FaultTests$Lanes" 31 (-1 : Int64)) ∈ UW := UW_in (lw_i2 (List.mem_of_getElem? (i := 110) rfl)) rfl
theorem mw_2_111 : (Cond.methodLink "FaultTests" 328 ⟨"FaultTests", "listFound", "(LFaultTests$Rows;I[J)J"⟩) ∈ UW := UW_in (lw_i2 (List.mem_of_getElem? (i := 111) rfl)) rfl
theorem mw_2_113 : (Cond.instanceMethod ⟨"FaultTests", "listFound", "(LFaultTests$Rows;I[J)J"⟩) ∈ UW := UW_in (lw_i2 (List.mem_of_getElem? (i := 113) rfl)) rfl
theorem mw_2_114 : (Cond.code ⟨"FaultTests", "listFound", "(LFaultTests$Rows;I[J)J"⟩ prog_1_method_43_code 15 (some .long)) ∈ UW := UW_in (lw_i2 (List.mem_of_getElem? (i := 114) rfl)) rfl
theorem mw_2_115 : (Cond.methodLink "FaultTests" 332 ⟨"java/lang/Math", "min", "(II)I"⟩) ∈ UW := UW_in (lw_i2 (List.mem_of_getElem? (i := 115) rfl)) rfl
theorem mw_2_116 : (Cond.static ⟨"java/lang/Math", "min", "(II)I"⟩) ∈ UW := UW_in (lw_i2 (List.mem_of_getElem? (i := 116) rfl)) rfl
theorem mw_2_117 : (Cond.code ⟨"java/lang/Math", "min", "(II)I"⟩ prog_20_method_69_code 2 (some .int)) ∈ UW := UW_in (lw_i2 (List.mem_of_getElem? (i := 117) rfl)) rfl
theorem mw_2_118 : (Cond.methodLink "FaultTests" 200 ⟨"FaultTests$Rows", "apart", "(LFaultTests$Circuit;III)J"⟩) ∈ UW := UW_in (lw_i2 (List.mem_of_getElem? (i := 118) rfl)) rfl
theorem mw_2_119 : (Cond.instanceMethod ⟨"FaultTests$Rows", "apart", "(LFaultTests$Circuit;III)J"⟩) ∈ UW := UW_in (lw_i2 (List.mem_of_getElem? (i := 119) rfl)) rfl
theorem mw_2_120 : (Cond.selects "FaultTests$Rows" ⟨"FaultTests$Rows", "apart", "(LFaultTests$Circuit;III)J"⟩ ⟨"FaultTests$Rows", "apart", "(LFaultTests$Circuit;III)J"⟩) ∈ UW := UW_in (lw_i2 (List.mem_of_getElem? (i := 120) rfl)) rfl
theorem mw_2_121 : (Cond.code ⟨"FaultTests$Rows", "apart", "(LFaultTests$Circuit;III)J"⟩ prog_5_method_5_code 10 (some .long)) ∈ UW := UW_in (lw_i2 (List.mem_of_getElem? (i := 121) rfl)) rfl
theorem mw_2_122 : (Cond.methodLink "FaultTests" 138 ⟨"java/lang/Long", "bitCount", "(J)I"⟩) ∈ UW := UW_in (lw_i2 (List.mem_of_getElem? (i := 122) rfl)) rfl
theorem mw_2_123 : (Cond.static ⟨"java/lang/Long", "bitCount", "(J)I"⟩) ∈ UW := UW_in (lw_i2 (List.mem_of_getElem? (i := 123) rfl)) rfl
theorem mw_2_124 : (Cond.code ⟨"java/lang/Long", "bitCount", "(J)I"⟩ prog_19_method_50_code 2 (some .int)) ∈ UW := UW_in (lw_i2 (List.mem_of_getElem? (i := 124) rfl)) rfl
theorem mw_2_125 : (Cond.constantLong "java/lang/Long" 314 (6148914691236517205 : Int64)) ∈ UW := UW_in (lw_i2 (List.mem_of_getElem? (i := 125) rfl)) rfl
theorem mw_2_126 : (Cond.constantLong "java/lang/Long" 316 (3689348814741910323 : Int64)) ∈ UW := UW_in (lw_i2 (List.mem_of_getElem? (i := 126) rfl)) rfl
theorem mw_2_127 : (Cond.constantLong "java/lang/Long" 318 (1085102592571150095 : Int64)) ∈ UW := UW_in (lw_i2 (List.mem_of_getElem? (i := 127) rfl)) rfl
theorem mw_2_128 : (Cond.methodLink "FaultTests" 144 ⟨"FaultTests$Circuit", "greatestLevel", "()I"⟩) ∈ UW := UW_in (lw_i2 (List.mem_of_getElem? (i := 128) rfl)) rfl
theorem mw_2_129 : (Cond.instanceMethod ⟨"FaultTests$Circuit", "greatestLevel", "()I"⟩) ∈ UW := UW_in (lw_i2 (List.mem_of_getElem? (i := 129) rfl)) rfl
theorem mw_2_130 : (Cond.selects "FaultTests$Circuit" ⟨"FaultTests$Circuit", "greatestLevel", "()I"⟩ ⟨"FaultTests$Circuit", "greatestLevel", "()I"⟩) ∈ UW := UW_in (lw_i2 (List.mem_of_getElem? (i := 130) rfl)) rfl
theorem mw_2_131 : (Cond.code ⟨"FaultTests$Circuit", "greatestLevel", "()I"⟩ prog_2_method_14_code 3 (some .int)) ∈ UW := UW_in (lw_i2 (List.mem_of_getElem? (i := 131) rfl)) rfl
theorem mw_2_132 : (Cond.methodLink "FaultTests$Circuit" 65 ⟨"java/lang/Math", "max", "(II)I"⟩) ∈ UW := UW_in (lw_i2 (List.mem_of_getElem? (i := 132) rfl)) rfl
theorem mw_2_133 : (Cond.static ⟨"java/lang/Math", "max", "(II)I"⟩) ∈ UW := UW_in (lw_i2 (List.mem_of_getElem? (i := 133) rfl)) rfl
theorem mw_2_134 : (Cond.code ⟨"java/lang/Math", "max", "(II)I"⟩ prog_20_method_65_code 2 (some .int)) ∈ UW := UW_in (lw_i2 (List.mem_of_getElem? (i := 134) rfl)) rfl
theorem mw_2_135 : (Cond.classLink "FaultTests" 73 "java/lang/IllegalArgumentException") ∈ UW := UW_in (lw_i2 (List.mem_of_getElem? (i := 135) rfl)) rfl
theorem mw_2_136 : (Cond.instantiable "java/lang/IllegalArgumentException" 6) ∈ UW := UW_in (lw_i2 (List.mem_of_getElem? (i := 136) rfl)) rfl
theorem mw_2_144 : (Cond.selects "java/lang/IllegalArgumentException" ⟨"java/lang/Throwable", "fillInStackTrace", "(I)Ljava/lang/Throwable;"⟩ ⟨"java/lang/Throwable", "fillInStackTrace", "(I)Ljava/lang/Throwable;"⟩) ∈ UW := UW_in (lw_i2 (List.mem_of_getElem? (i := 144) rfl)) rfl
theorem mw_2_145 : (Cond.selects "java/lang/IllegalArgumentException" ⟨"java/lang/Throwable", "fillInStackTrace", "()Ljava/lang/Throwable;"⟩ ⟨"java/lang/Throwable", "fillInStackTrace", "()Ljava/lang/Throwable;"⟩) ∈ UW := UW_in (lw_i2 (List.mem_of_getElem? (i := 145) rfl)) rfl
theorem mw_2_146 : (Cond.lays "java/lang/IllegalArgumentException" "java/lang/Throwable" "cause" "Ljava/lang/Throwable;") ∈ UW := UW_in (lw_i2 (List.mem_of_getElem? (i := 146) rfl)) rfl
theorem mw_2_147 : (Cond.lays "java/lang/Throwable" "java/lang/Throwable" "cause" "Ljava/lang/Throwable;") ∈ UW := UW_in (lw_i2 (List.mem_of_getElem? (i := 147) rfl)) rfl
theorem mw_2_148 : (Cond.lays "java/lang/IllegalArgumentException" "java/lang/Throwable" "stackTrace" "[Ljava/lang/StackTraceElement;") ∈ UW := UW_in (lw_i2 (List.mem_of_getElem? (i := 148) rfl)) rfl
theorem mw_2_149 : (Cond.lays "java/lang/Throwable" "java/lang/Throwable" "stackTrace" "[Ljava/lang/StackTraceElement;") ∈ UW := UW_in (lw_i2 (List.mem_of_getElem? (i := 149) rfl)) rfl
theorem mw_2_150 : (Cond.lays "java/lang/IllegalArgumentException" "java/lang/Throwable" "suppressedExceptions" "Ljava/util/List;") ∈ UW := UW_in (lw_i2 (List.mem_of_getElem? (i := 150) rfl)) rfl
theorem mw_2_151 : (Cond.lays "java/lang/Throwable" "java/lang/Throwable" "suppressedExceptions" "Ljava/util/List;") ∈ UW := UW_in (lw_i2 (List.mem_of_getElem? (i := 151) rfl)) rfl
theorem mw_2_152 : (Cond.lays "java/lang/IllegalArgumentException" "java/lang/Throwable" "detailMessage" "Ljava/lang/String;") ∈ UW := UW_in (lw_i2 (List.mem_of_getElem? (i := 152) rfl)) rfl
theorem mw_2_153 : (Cond.lays "java/lang/Throwable" "java/lang/Throwable" "detailMessage" "Ljava/lang/String;") ∈ UW := UW_in (lw_i2 (List.mem_of_getElem? (i := 153) rfl)) rfl
theorem mw_2_154 : (Cond.lays "java/lang/IllegalArgumentException" "java/lang/Throwable" "backtrace" "Ljava/lang/Object;") ∈ UW := UW_in (lw_i2 (List.mem_of_getElem? (i := 154) rfl)) rfl
theorem mw_2_155 : (Cond.lays "java/lang/Throwable" "java/lang/Throwable" "backtrace" "Ljava/lang/Object;") ∈ UW := UW_in (lw_i2 (List.mem_of_getElem? (i := 155) rfl)) rfl
theorem mw_2_156 : (Cond.fieldLink "java/lang/Throwable" 198 "java/lang/Throwable" "backtrace" "Ljava/lang/Object;") ∈ UW := UW_in (lw_i2 (List.mem_of_getElem? (i := 156) rfl)) rfl
theorem mw_2_157 : (Cond.superclass "java/lang/Throwable" "java/lang/Object") ∈ UW := UW_in (lw_i2 (List.mem_of_getElem? (i := 157) rfl)) rfl
theorem mw_2_158 : (Cond.instanceMethod ⟨"java/lang/Throwable", "<init>", "()V"⟩) ∈ UW := UW_in (lw_i2 (List.mem_of_getElem? (i := 158) rfl)) rfl
theorem mw_2_159 : (Cond.code ⟨"java/lang/Throwable", "<init>", "()V"⟩ prog_28_method_1_code 1 none) ∈ UW := UW_in (lw_i2 (List.mem_of_getElem? (i := 159) rfl)) rfl
theorem mw_2_160 : (Cond.methodLink "java/lang/Throwable" 1 ⟨"java/lang/Object", "<init>", "()V"⟩) ∈ UW := UW_in (lw_i2 (List.mem_of_getElem? (i := 160) rfl)) rfl
theorem mw_2_161 : (Cond.fieldLink "java/lang/Throwable" 13 "java/lang/Throwable" "UNASSIGNED_STACK" "[Ljava/lang/StackTraceElement;") ∈ UW := UW_in (lw_i2 (List.mem_of_getElem? (i := 161) rfl)) rfl
theorem mw_2_163 : (Cond.fieldLink "java/lang/Throwable" 20 "java/lang/Throwable" "SUPPRESSED_SENTINEL" "Ljava/util/List;") ∈ UW := UW_in (lw_i2 (List.mem_of_getElem? (i := 163) rfl)) rfl
theorem mw_2_165 : (Cond.methodLink "java/lang/Throwable" 27 ⟨"java/lang/Throwable", "fillInStackTrace", "()Ljava/lang/Throwable;"⟩) ∈ UW := UW_in (lw_i2 (List.mem_of_getElem? (i := 165) rfl)) rfl
theorem mw_2_166 : (Cond.instanceMethod ⟨"java/lang/Throwable", "fillInStackTrace", "()Ljava/lang/Throwable;"⟩) ∈ UW := UW_in (lw_i2 (List.mem_of_getElem? (i := 166) rfl)) rfl
theorem mw_2_167 : (Cond.sameMethod "java/lang/Throwable" "java/lang/Throwable" "fillInStackTrace" "()Ljava/lang/Throwable;") ∈ UW := UW_in (lw_i2 (List.mem_of_getElem? (i := 167) rfl)) rfl
theorem mw_2_168 : (Cond.selects "java/lang/IllegalStateException" ⟨"java/lang/Throwable", "fillInStackTrace", "()Ljava/lang/Throwable;"⟩ ⟨"java/lang/Throwable", "fillInStackTrace", "()Ljava/lang/Throwable;"⟩) ∈ UW := UW_in (lw_i2 (List.mem_of_getElem? (i := 168) rfl)) rfl
theorem mw_2_169 : (Cond.selects "java/lang/IndexOutOfBoundsException" ⟨"java/lang/Throwable", "fillInStackTrace", "()Ljava/lang/Throwable;"⟩ ⟨"java/lang/Throwable", "fillInStackTrace", "()Ljava/lang/Throwable;"⟩) ∈ UW := UW_in (lw_i2 (List.mem_of_getElem? (i := 169) rfl)) rfl
theorem mw_2_170 : (Cond.codeSync ⟨"java/lang/Throwable", "fillInStackTrace", "()Ljava/lang/Throwable;"⟩ prog_28_method_18_code 1 (some (.object "java/lang/Throwable"))) ∈ UW := UW_in (lw_i2 (List.mem_of_getElem? (i := 170) rfl)) rfl
theorem mw_2_171 : (Cond.methodLink "java/lang/Throwable" 202 ⟨"java/lang/Throwable", "fillInStackTrace", "(I)Ljava/lang/Throwable;"⟩) ∈ UW := UW_in (lw_i2 (List.mem_of_getElem? (i := 171) rfl)) rfl
theorem mw_2_173 : (Cond.instanceMethod ⟨"java/lang/Throwable", "fillInStackTrace", "(I)Ljava/lang/Throwable;"⟩) ∈ UW := UW_in (lw_i2 (List.mem_of_getElem? (i := 173) rfl)) rfl
theorem mw_2_174 : (Cond.instantiable "java/lang/Throwable" 6) ∈ UW := UW_in (lw_i2 (List.mem_of_getElem? (i := 174) rfl)) rfl
theorem mw_2_175 : (Cond.native ⟨"java/lang/Throwable", "fillInStackTrace", "(I)Ljava/lang/Throwable;"⟩) ∈ UW := UW_in (lw_i2 (List.mem_of_getElem? (i := 175) rfl)) rfl
theorem mw_2_177 : (Cond.methodLink "FaultTests" 77 ⟨"java/lang/IllegalArgumentException", "<init>", "(Ljava/lang/String;)V"⟩) ∈ UW := UW_in (lw_i2 (List.mem_of_getElem? (i := 177) rfl)) rfl
theorem mw_2_178 : (Cond.instanceMethod ⟨"java/lang/IllegalArgumentException", "<init>", "(Ljava/lang/String;)V"⟩) ∈ UW := UW_in (lw_i2 (List.mem_of_getElem? (i := 178) rfl)) rfl
theorem mw_2_179 : (Cond.code ⟨"java/lang/IllegalArgumentException", "<init>", "(Ljava/lang/String;)V"⟩ prog_15_method_2_code 2 none) ∈ UW := UW_in (lw_i2 (List.mem_of_getElem? (i := 179) rfl)) rfl
theorem mw_2_180 : (Cond.methodLink "java/lang/IllegalArgumentException" 7 ⟨"java/lang/RuntimeException", "<init>", "(Ljava/lang/String;)V"⟩) ∈ UW := UW_in (lw_i2 (List.mem_of_getElem? (i := 180) rfl)) rfl
theorem mw_2_181 : (Cond.instanceMethod ⟨"java/lang/RuntimeException", "<init>", "(Ljava/lang/String;)V"⟩) ∈ UW := UW_in (lw_i2 (List.mem_of_getElem? (i := 181) rfl)) rfl
theorem mw_2_182 : (Cond.code ⟨"java/lang/RuntimeException", "<init>", "(Ljava/lang/String;)V"⟩ prog_22_method_2_code 2 none) ∈ UW := UW_in (lw_i2 (List.mem_of_getElem? (i := 182) rfl)) rfl
theorem mw_2_183 : (Cond.methodLink "java/lang/RuntimeException" 7 ⟨"java/lang/Exception", "<init>", "(Ljava/lang/String;)V"⟩) ∈ UW := UW_in (lw_i2 (List.mem_of_getElem? (i := 183) rfl)) rfl
theorem mw_2_184 : (Cond.instanceMethod ⟨"java/lang/Exception", "<init>", "(Ljava/lang/String;)V"⟩) ∈ UW := UW_in (lw_i2 (List.mem_of_getElem? (i := 184) rfl)) rfl
theorem mw_2_185 : (Cond.code ⟨"java/lang/Exception", "<init>", "(Ljava/lang/String;)V"⟩ prog_14_method_2_code 2 none) ∈ UW := UW_in (lw_i2 (List.mem_of_getElem? (i := 185) rfl)) rfl
theorem mw_2_186 : (Cond.methodLink "java/lang/Exception" 7 ⟨"java/lang/Throwable", "<init>", "(Ljava/lang/String;)V"⟩) ∈ UW := UW_in (lw_i2 (List.mem_of_getElem? (i := 186) rfl)) rfl
theorem mw_2_187 : (Cond.instanceMethod ⟨"java/lang/Throwable", "<init>", "(Ljava/lang/String;)V"⟩) ∈ UW := UW_in (lw_i2 (List.mem_of_getElem? (i := 187) rfl)) rfl
theorem mw_2_188 : (Cond.code ⟨"java/lang/Throwable", "<init>", "(Ljava/lang/String;)V"⟩ prog_28_method_2_code 2 none) ∈ UW := UW_in (lw_i2 (List.mem_of_getElem? (i := 188) rfl)) rfl
theorem mw_2_189 : (Cond.fieldLink "java/lang/Throwable" 198 "java/lang/Throwable" "backtrace" "Ljava/lang/Object;") ∈ UW := UW_in (lw_i2 (List.mem_of_getElem? (i := 189) rfl)) rfl
theorem mw_2_190 : (Cond.fieldLink "java/lang/Throwable" 31 "java/lang/Throwable" "detailMessage" "Ljava/lang/String;") ∈ UW := UW_in (lw_i2 (List.mem_of_getElem? (i := 190) rfl)) rfl
theorem mw_2_191 : (Cond.fieldLink "java/lang/Throwable" 7 "java/lang/Throwable" "cause" "Ljava/lang/Throwable;") ∈ UW := UW_in (lw_i2 (List.mem_of_getElem? (i := 191) rfl)) rfl
theorem mw_2_192 : (Cond.fieldLink "java/lang/Throwable" 17 "java/lang/Throwable" "stackTrace" "[Ljava/lang/StackTraceElement;") ∈ UW := UW_in (lw_i2 (List.mem_of_getElem? (i := 192) rfl)) rfl
theorem mw_2_193 : (Cond.fieldLink "java/lang/Throwable" 24 "java/lang/Throwable" "suppressedExceptions" "Ljava/util/List;") ∈ UW := UW_in (lw_i2 (List.mem_of_getElem? (i := 193) rfl)) rfl
theorem mw_2_198 : (Cond.lays "java/lang/IllegalArgumentException" "java/lang/Throwable" "depth" "I") ∈ UW := UW_in (lw_i2 (List.mem_of_getElem? (i := 198) rfl)) rfl
theorem mw_2_201 : (Cond.superclass "java/lang/IllegalArgumentException" "java/lang/RuntimeException") ∈ UW := UW_in (lw_i2 (List.mem_of_getElem? (i := 201) rfl)) rfl
theorem mw_2_202 : (Cond.arrayClass .byte) ∈ UW := UW_in (lw_i2 (List.mem_of_getElem? (i := 202) rfl)) rfl
theorem mw_2_203 : (Cond.methodLink "FaultTestsLaw" 146 ⟨"FaultTests", "testFor", "(I)I"⟩) ∈ UW := UW_in (lw_i2 (List.mem_of_getElem? (i := 203) rfl)) rfl
theorem mw_2_204 : (Cond.instanceMethod ⟨"FaultTests", "testFor", "(I)I"⟩) ∈ UW := UW_in (lw_i2 (List.mem_of_getElem? (i := 204) rfl)) rfl
theorem mw_2_205 : (Cond.selects "FaultTests" ⟨"FaultTests", "testFor", "(I)I"⟩ ⟨"FaultTests", "testFor", "(I)I"⟩) ∈ UW := UW_in (lw_i2 (List.mem_of_getElem? (i := 205) rfl)) rfl
theorem mw_2_206 : (Cond.code ⟨"FaultTests", "testFor", "(I)I"⟩ prog_1_method_13_code 2 (some .int)) ∈ UW := UW_in (lw_i2 (List.mem_of_getElem? (i := 206) rfl)) rfl
theorem mw_2_207 : (Cond.methodLink "FaultTests" 190 ⟨"FaultTests", "checkFault", "(I)V"⟩) ∈ UW := UW_in (lw_i2 (List.mem_of_getElem? (i := 207) rfl)) rfl
theorem mw_2_209 : (Cond.instanceMethod ⟨"FaultTests", "checkFault", "(I)V"⟩) ∈ UW := UW_in (lw_i2 (List.mem_of_getElem? (i := 209) rfl)) rfl
theorem mw_2_210 : (Cond.code ⟨"FaultTests", "checkFault", "(I)V"⟩ prog_1_method_35_code 2 none) ∈ UW := UW_in (lw_i2 (List.mem_of_getElem? (i := 210) rfl)) rfl
theorem mw_2_211 : (Cond.classLink "FaultTests" 265 "java/lang/IndexOutOfBoundsException") ∈ UW := UW_in (lw_i2 (List.mem_of_getElem? (i := 211) rfl)) rfl
theorem mw_2_212 : (Cond.instantiable "java/lang/IndexOutOfBoundsException" 6) ∈ UW := UW_in (lw_i2 (List.mem_of_getElem? (i := 212) rfl)) rfl
theorem mw_2_214 : (Cond.selects "java/lang/IndexOutOfBoundsException" ⟨"java/lang/Throwable", "fillInStackTrace", "(I)Ljava/lang/Throwable;"⟩ ⟨"java/lang/Throwable", "fillInStackTrace", "(I)Ljava/lang/Throwable;"⟩) ∈ UW := UW_in (lw_i2 (List.mem_of_getElem? (i := 214) rfl)) rfl
theorem mw_2_215 : (Cond.lays "java/lang/IndexOutOfBoundsException" "java/lang/Throwable" "cause" "Ljava/lang/Throwable;") ∈ UW := UW_in (lw_i2 (List.mem_of_getElem? (i := 215) rfl)) rfl
theorem mw_2_216 : (Cond.lays "java/lang/IndexOutOfBoundsException" "java/lang/Throwable" "stackTrace" "[Ljava/lang/StackTraceElement;") ∈ UW := UW_in (lw_i2 (List.mem_of_getElem? (i := 216) rfl)) rfl
theorem mw_2_217 : (Cond.lays "java/lang/IndexOutOfBoundsException" "java/lang/Throwable" "suppressedExceptions" "Ljava/util/List;") ∈ UW := UW_in (lw_i2 (List.mem_of_getElem? (i := 217) rfl)) rfl
theorem mw_2_218 : (Cond.lays "java/lang/IndexOutOfBoundsException" "java/lang/Throwable" "detailMessage" "Ljava/lang/String;") ∈ UW := UW_in (lw_i2 (List.mem_of_getElem? (i := 218) rfl)) rfl
theorem mw_2_219 : (Cond.lays "java/lang/IndexOutOfBoundsException" "java/lang/Throwable" "backtrace" "Ljava/lang/Object;") ∈ UW := UW_in (lw_i2 (List.mem_of_getElem? (i := 219) rfl)) rfl
theorem mw_2_221 : (Cond.methodLink "FaultTests" 269 ⟨"java/lang/IndexOutOfBoundsException", "<init>", "(Ljava/lang/String;)V"⟩) ∈ UW := UW_in (lw_i2 (List.mem_of_getElem? (i := 221) rfl)) rfl
theorem mw_2_222 : (Cond.instanceMethod ⟨"java/lang/IndexOutOfBoundsException", "<init>", "(Ljava/lang/String;)V"⟩) ∈ UW := UW_in (lw_i2 (List.mem_of_getElem? (i := 222) rfl)) rfl
theorem mw_2_223 : (Cond.code ⟨"java/lang/IndexOutOfBoundsException", "<init>", "(Ljava/lang/String;)V"⟩ prog_17_method_2_code 2 none) ∈ UW := UW_in (lw_i2 (List.mem_of_getElem? (i := 223) rfl)) rfl
theorem mw_2_224 : (Cond.methodLink "java/lang/IndexOutOfBoundsException" 7 ⟨"java/lang/RuntimeException", "<init>", "(Ljava/lang/String;)V"⟩) ∈ UW := UW_in (lw_i2 (List.mem_of_getElem? (i := 224) rfl)) rfl
theorem mw_2_225 : (Cond.lays "java/lang/IndexOutOfBoundsException" "java/lang/Throwable" "depth" "I") ∈ UW := UW_in (lw_i2 (List.mem_of_getElem? (i := 225) rfl)) rfl
theorem mw_2_226 : (Cond.superclass "java/lang/IndexOutOfBoundsException" "java/lang/RuntimeException") ∈ UW := UW_in (lw_i2 (List.mem_of_getElem? (i := 226) rfl)) rfl
theorem mw_2_227 : (Cond.methodLink "FaultTests" 212 ⟨"FaultTests", "refreshFullRows", "()V"⟩) ∈ UW := UW_in (lw_i2 (List.mem_of_getElem? (i := 227) rfl)) rfl
theorem mw_2_229 : (Cond.instanceMethod ⟨"FaultTests", "refreshFullRows", "()V"⟩) ∈ UW := UW_in (lw_i2 (List.mem_of_getElem? (i := 229) rfl)) rfl
theorem mw_2_230 : (Cond.code ⟨"FaultTests", "refreshFullRows", "()V"⟩ prog_1_method_39_code 3 none) ∈ UW := UW_in (lw_i2 (List.mem_of_getElem? (i := 230) rfl)) rfl
theorem mw_2_231 : (Cond.methodLink "FaultTests" 314 ⟨"FaultTests$Circuit", "fullWords", "()I"⟩) ∈ UW := UW_in (lw_i2 (List.mem_of_getElem? (i := 231) rfl)) rfl
theorem mw_2_232 : (Cond.instanceMethod ⟨"FaultTests$Circuit", "fullWords", "()I"⟩) ∈ UW := UW_in (lw_i2 (List.mem_of_getElem? (i := 232) rfl)) rfl
theorem mw_2_233 : (Cond.selects "FaultTests$Circuit" ⟨"FaultTests$Circuit", "fullWords", "()I"⟩ ⟨"FaultTests$Circuit", "fullWords", "()I"⟩) ∈ UW := UW_in (lw_i2 (List.mem_of_getElem? (i := 233) rfl)) rfl
theorem mw_2_234 : (Cond.code ⟨"FaultTests$Circuit", "fullWords", "()I"⟩ prog_2_method_16_code 1 (some .int)) ∈ UW := UW_in (lw_i2 (List.mem_of_getElem? (i := 234) rfl)) rfl
theorem mw_2_235 : (Cond.methodLink "FaultTests" 317 ⟨"FaultTests$Lanes", "setFullInputs", "(II)V"⟩) ∈ UW := UW_in (lw_i2 (List.mem_of_getElem? (i := 235) rfl)) rfl
theorem mw_2_236 : (Cond.instanceMethod ⟨"FaultTests$Lanes", "setFullInputs", "(II)V"⟩) ∈ UW := UW_in (lw_i2 (List.mem_of_getElem? (i := 236) rfl)) rfl
theorem mw_2_237 : (Cond.selects "FaultTests$Lanes" ⟨"FaultTests$Lanes", "setFullInputs", "(II)V"⟩ ⟨"FaultTests$Lanes", "setFullInputs", "(II)V"⟩) ∈ UW := UW_in (lw_i2 (List.mem_of_getElem? (i := 237) rfl)) rfl
theorem mw_2_238 : (Cond.code ⟨"FaultTests$Lanes", "setFullInputs", "(II)V"⟩ prog_4_method_3_code 4 none) ∈ UW := UW_in (lw_i2 (List.mem_of_getElem? (i := 238) rfl)) rfl
theorem mw_3_1 : (Cond.methodLink "FaultTests" 215 ⟨"FaultTests$Rows", "firstApart", "(LFaultTests$Circuit;II)I"⟩) ∈ UW := UW_in (lw_i3 (List.mem_of_getElem? (i := 1) rfl)) rfl
theorem mw_3_2 : (Cond.instanceMethod ⟨"FaultTests$Rows", "firstApart", "(LFaultTests$Circuit;II)I"⟩) ∈ UW := UW_in (lw_i3 (List.mem_of_getElem? (i := 2) rfl)) rfl
theorem mw_3_3 : (Cond.selects "FaultTests$Rows" ⟨"FaultTests$Rows", "firstApart", "(LFaultTests$Circuit;II)I"⟩ ⟨"FaultTests$Rows", "firstApart", "(LFaultTests$Circuit;II)I"⟩) ∈ UW := UW_in (lw_i3 (List.mem_of_getElem? (i := 3) rfl)) rfl
theorem mw_3_4 : (Cond.code ⟨"FaultTests$Rows", "firstApart", "(LFaultTests$Circuit;II)I"⟩ prog_5_method_7_code 8 (some .int)) ∈ UW := UW_in (lw_i3 (List.mem_of_getElem? (i := 4) rfl)) rfl
theorem mw_3_5 : (Cond.methodLink "FaultTests$Rows" 65 ⟨"FaultTests$Circuit", "fullWords", "()I"⟩) ∈ UW := UW_in (lw_i3 (List.mem_of_getElem? (i := 5) rfl)) rfl
theorem mw_3_6 : (Cond.methodLink "FaultTests$Rows" 68 ⟨"java/lang/Math", "min", "(II)I"⟩) ∈ UW := UW_in (lw_i3 (List.mem_of_getElem? (i := 6) rfl)) rfl
theorem mw_3_7 : (Cond.methodLink "FaultTests$Rows" 74 ⟨"FaultTests$Rows", "apart", "(LFaultTests$Circuit;III)J"⟩) ∈ UW := UW_in (lw_i3 (List.mem_of_getElem? (i := 7) rfl)) rfl
theorem mw_3_8 : (Cond.methodLink "FaultTests$Rows" 78 ⟨"java/lang/Long", "bitCount", "(J)I"⟩) ∈ UW := UW_in (lw_i3 (List.mem_of_getElem? (i := 8) rfl)) rfl
theorem mw_3_9 : (Cond.methodLink "FaultTestsLaw" 156 ⟨"FaultTests", "hidden", "()I"⟩) ∈ UW := UW_in (lw_i3 (List.mem_of_getElem? (i := 9) rfl)) rfl
theorem mw_3_10 : (Cond.instanceMethod ⟨"FaultTests", "hidden", "()I"⟩) ∈ UW := UW_in (lw_i3 (List.mem_of_getElem? (i := 10) rfl)) rfl
theorem mw_3_11 : (Cond.selects "FaultTests" ⟨"FaultTests", "hidden", "()I"⟩ ⟨"FaultTests", "hidden", "()I"⟩) ∈ UW := UW_in (lw_i3 (List.mem_of_getElem? (i := 11) rfl)) rfl
theorem mw_3_12 : (Cond.code ⟨"FaultTests", "hidden", "()I"⟩ prog_1_method_15_code 4 (some .int)) ∈ UW := UW_in (lw_i3 (List.mem_of_getElem? (i := 12) rfl)) rfl
theorem mw_3_13 : (Cond.methodLink "FaultTestsLaw" 153 ⟨"FaultTests", "alike", "(I)I"⟩) ∈ UW := UW_in (lw_i3 (List.mem_of_getElem? (i := 13) rfl)) rfl
theorem mw_3_14 : (Cond.instanceMethod ⟨"FaultTests", "alike", "(I)I"⟩) ∈ UW := UW_in (lw_i3 (List.mem_of_getElem? (i := 14) rfl)) rfl
theorem mw_3_15 : (Cond.selects "FaultTests" ⟨"FaultTests", "alike", "(I)I"⟩ ⟨"FaultTests", "alike", "(I)I"⟩) ∈ UW := UW_in (lw_i3 (List.mem_of_getElem? (i := 15) rfl)) rfl
theorem mw_3_16 : (Cond.code ⟨"FaultTests", "alike", "(I)I"⟩ prog_1_method_16_code 2 (some .int)) ∈ UW := UW_in (lw_i3 (List.mem_of_getElem? (i := 16) rfl)) rfl
theorem mw_3_17 : (Cond.methodLink "FaultTests" 219 ⟨"FaultTests", "firstAlike", "(I)I"⟩) ∈ UW := UW_in (lw_i3 (List.mem_of_getElem? (i := 17) rfl)) rfl
theorem mw_3_19 : (Cond.instanceMethod ⟨"FaultTests", "firstAlike", "(I)I"⟩) ∈ UW := UW_in (lw_i3 (List.mem_of_getElem? (i := 19) rfl)) rfl
theorem mw_3_20 : (Cond.code ⟨"FaultTests", "firstAlike", "(I)I"⟩ prog_1_method_44_code 3 (some .int)) ∈ UW := UW_in (lw_i3 (List.mem_of_getElem? (i := 20) rfl)) rfl
theorem mw_3_21 : (Cond.methodLink "FaultTestsLaw" 159 ⟨"FaultTests", "classes", "()I"⟩) ∈ UW := UW_in (lw_i3 (List.mem_of_getElem? (i := 21) rfl)) rfl
theorem mw_3_22 : (Cond.instanceMethod ⟨"FaultTests", "classes", "()I"⟩) ∈ UW := UW_in (lw_i3 (List.mem_of_getElem? (i := 22) rfl)) rfl
theorem mw_3_23 : (Cond.selects "FaultTests" ⟨"FaultTests", "classes", "()I"⟩ ⟨"FaultTests", "classes", "()I"⟩) ∈ UW := UW_in (lw_i3 (List.mem_of_getElem? (i := 23) rfl)) rfl
theorem mw_3_24 : (Cond.code ⟨"FaultTests", "classes", "()I"⟩ prog_1_method_17_code 4 (some .int)) ∈ UW := UW_in (lw_i3 (List.mem_of_getElem? (i := 24) rfl)) rfl
theorem mw_3_25 : (Cond.methodLink "FaultTestsLaw" 135 ⟨"FaultTests", "addTest", "(II)I"⟩) ∈ UW := UW_in (lw_i3 (List.mem_of_getElem? (i := 25) rfl)) rfl
theorem mw_3_26 : (Cond.instanceMethod ⟨"FaultTests", "addTest", "(II)I"⟩) ∈ UW := UW_in (lw_i3 (List.mem_of_getElem? (i := 26) rfl)) rfl
theorem mw_3_27 : (Cond.selects "FaultTests" ⟨"FaultTests", "addTest", "(II)I"⟩ ⟨"FaultTests", "addTest", "(II)I"⟩) ∈ UW := UW_in (lw_i3 (List.mem_of_getElem? (i := 27) rfl)) rfl
theorem mw_3_28 : (Cond.code ⟨"FaultTests", "addTest", "(II)I"⟩ prog_1_method_23_code 3 (some .int)) ∈ UW := UW_in (lw_i3 (List.mem_of_getElem? (i := 28) rfl)) rfl
theorem mw_3_29 : (Cond.methodLink "FaultTests" 237 ⟨"FaultTests", "areInputs", "(I)Z"⟩) ∈ UW := UW_in (lw_i3 (List.mem_of_getElem? (i := 29) rfl)) rfl
theorem mw_3_31 : (Cond.instanceMethod ⟨"FaultTests", "areInputs", "(I)Z"⟩) ∈ UW := UW_in (lw_i3 (List.mem_of_getElem? (i := 31) rfl)) rfl
theorem mw_3_32 : (Cond.code ⟨"FaultTests", "areInputs", "(I)Z"⟩ prog_1_method_36_code 2 (some .boolean)) ∈ UW := UW_in (lw_i3 (List.mem_of_getElem? (i := 32) rfl)) rfl
theorem mw_3_34 : (Cond.classLink "FaultTests" 243 "java/lang/IllegalStateException") ∈ UW := UW_in (lw_i3 (List.mem_of_getElem? (i := 34) rfl)) rfl
theorem mw_3_35 : (Cond.instantiable "java/lang/IllegalStateException" 6) ∈ UW := UW_in (lw_i3 (List.mem_of_getElem? (i := 35) rfl)) rfl
theorem mw_3_37 : (Cond.selects "java/lang/IllegalStateException" ⟨"java/lang/Throwable", "fillInStackTrace", "(I)Ljava/lang/Throwable;"⟩ ⟨"java/lang/Throwable", "fillInStackTrace", "(I)Ljava/lang/Throwable;"⟩) ∈ UW := UW_in (lw_i3 (List.mem_of_getElem? (i := 37) rfl)) rfl
theorem mw_3_38 : (Cond.lays "java/lang/IllegalStateException" "java/lang/Throwable" "cause" "Ljava/lang/Throwable;") ∈ UW := UW_in (lw_i3 (List.mem_of_getElem? (i := 38) rfl)) rfl
theorem mw_3_39 : (Cond.lays "java/lang/IllegalStateException" "java/lang/Throwable" "stackTrace" "[Ljava/lang/StackTraceElement;") ∈ UW := UW_in (lw_i3 (List.mem_of_getElem? (i := 39) rfl)) rfl
theorem mw_3_40 : (Cond.lays "java/lang/IllegalStateException" "java/lang/Throwable" "suppressedExceptions" "Ljava/util/List;") ∈ UW := UW_in (lw_i3 (List.mem_of_getElem? (i := 40) rfl)) rfl
theorem mw_3_41 : (Cond.lays "java/lang/IllegalStateException" "java/lang/Throwable" "detailMessage" "Ljava/lang/String;") ∈ UW := UW_in (lw_i3 (List.mem_of_getElem? (i := 41) rfl)) rfl
theorem mw_3_42 : (Cond.lays "java/lang/IllegalStateException" "java/lang/Throwable" "backtrace" "Ljava/lang/Object;") ∈ UW := UW_in (lw_i3 (List.mem_of_getElem? (i := 42) rfl)) rfl
theorem mw_3_44 : (Cond.methodLink "FaultTests" 247 ⟨"java/lang/IllegalStateException", "<init>", "(Ljava/lang/String;)V"⟩) ∈ UW := UW_in (lw_i3 (List.mem_of_getElem? (i := 44) rfl)) rfl
theorem mw_3_45 : (Cond.instanceMethod ⟨"java/lang/IllegalStateException", "<init>", "(Ljava/lang/String;)V"⟩) ∈ UW := UW_in (lw_i3 (List.mem_of_getElem? (i := 45) rfl)) rfl
theorem mw_3_46 : (Cond.code ⟨"java/lang/IllegalStateException", "<init>", "(Ljava/lang/String;)V"⟩ prog_16_method_2_code 2 none) ∈ UW := UW_in (lw_i3 (List.mem_of_getElem? (i := 46) rfl)) rfl
theorem mw_3_47 : (Cond.methodLink "java/lang/IllegalStateException" 7 ⟨"java/lang/RuntimeException", "<init>", "(Ljava/lang/String;)V"⟩) ∈ UW := UW_in (lw_i3 (List.mem_of_getElem? (i := 47) rfl)) rfl
theorem mw_3_48 : (Cond.lays "java/lang/IllegalStateException" "java/lang/Throwable" "depth" "I") ∈ UW := UW_in (lw_i3 (List.mem_of_getElem? (i := 48) rfl)) rfl
theorem mw_3_49 : (Cond.superclass "java/lang/IllegalStateException" "java/lang/RuntimeException") ∈ UW := UW_in (lw_i3 (List.mem_of_getElem? (i := 49) rfl)) rfl
theorem mw_3_50 : (Cond.methodLink "FaultTests" 84 ⟨"FaultTests$History", "push", "(LFaultTests$Setup;)V"⟩) ∈ UW := UW_in (lw_i3 (List.mem_of_getElem? (i := 50) rfl)) rfl
theorem mw_3_51 : (Cond.instanceMethod ⟨"FaultTests$History", "push", "(LFaultTests$Setup;)V"⟩) ∈ UW := UW_in (lw_i3 (List.mem_of_getElem? (i := 51) rfl)) rfl
theorem mw_3_52 : (Cond.selects "FaultTests$History" ⟨"FaultTests$History", "push", "(LFaultTests$Setup;)V"⟩ ⟨"FaultTests$History", "push", "(LFaultTests$Setup;)V"⟩) ∈ UW := UW_in (lw_i3 (List.mem_of_getElem? (i := 52) rfl)) rfl
theorem mw_3_53 : (Cond.code ⟨"FaultTests$History", "push", "(LFaultTests$Setup;)V"⟩ prog_3_method_2_code 2 none) ∈ UW := UW_in (lw_i3 (List.mem_of_getElem? (i := 53) rfl)) rfl
theorem mw_3_54 : (Cond.methodLink "FaultTests$History" 25 ⟨"FaultTests$Setup", "copyFrom", "(LFaultTests$Setup;)V"⟩) ∈ UW := UW_in (lw_i3 (List.mem_of_getElem? (i := 54) rfl)) rfl
theorem mw_3_55 : (Cond.instanceMethod ⟨"FaultTests$Setup", "copyFrom", "(LFaultTests$Setup;)V"⟩) ∈ UW := UW_in (lw_i3 (List.mem_of_getElem? (i := 55) rfl)) rfl
theorem mw_3_56 : (Cond.selects "FaultTests$Setup" ⟨"FaultTests$Setup", "copyFrom", "(LFaultTests$Setup;)V"⟩ ⟨"FaultTests$Setup", "copyFrom", "(LFaultTests$Setup;)V"⟩) ∈ UW := UW_in (lw_i3 (List.mem_of_getElem? (i := 56) rfl)) rfl
theorem mw_3_57 : (Cond.code ⟨"FaultTests$Setup", "copyFrom", "(LFaultTests$Setup;)V"⟩ prog_6_method_3_code 2 none) ∈ UW := UW_in (lw_i3 (List.mem_of_getElem? (i := 57) rfl)) rfl
theorem mw_3_58 : (Cond.methodLink "FaultTests$Setup" 29 ⟨"FaultTests$Circuit", "copyFrom", "(LFaultTests$Circuit;)V"⟩) ∈ UW := UW_in (lw_i3 (List.mem_of_getElem? (i := 58) rfl)) rfl
theorem mw_3_59 : (Cond.instanceMethod ⟨"FaultTests$Circuit", "copyFrom", "(LFaultTests$Circuit;)V"⟩) ∈ UW := UW_in (lw_i3 (List.mem_of_getElem? (i := 59) rfl)) rfl
theorem mw_3_60 : (Cond.selects "FaultTests$Circuit" ⟨"FaultTests$Circuit", "copyFrom", "(LFaultTests$Circuit;)V"⟩ ⟨"FaultTests$Circuit", "copyFrom", "(LFaultTests$Circuit;)V"⟩) ∈ UW := UW_in (lw_i3 (List.mem_of_getElem? (i := 60) rfl)) rfl
theorem mw_3_61 : (Cond.code ⟨"FaultTests$Circuit", "copyFrom", "(LFaultTests$Circuit;)V"⟩ prog_2_method_3_code 2 none) ∈ UW := UW_in (lw_i3 (List.mem_of_getElem? (i := 61) rfl)) rfl
theorem mw_3_62 : (Cond.methodLink "FaultTests$Circuit" 59 ⟨"java/lang/System", "arraycopy", "(Ljava/lang/Object;ILjava/lang/Object;II)V"⟩) ∈ UW := UW_in (lw_i3 (List.mem_of_getElem? (i := 62) rfl)) rfl
theorem mw_3_63 : (Cond.static ⟨"java/lang/System", "arraycopy", "(Ljava/lang/Object;ILjava/lang/Object;II)V"⟩) ∈ UW := UW_in (lw_i3 (List.mem_of_getElem? (i := 63) rfl)) rfl
theorem mw_3_64 : (Cond.native ⟨"java/lang/System", "arraycopy", "(Ljava/lang/Object;ILjava/lang/Object;II)V"⟩) ∈ UW := UW_in (lw_i3 (List.mem_of_getElem? (i := 64) rfl)) rfl
theorem mw_3_65 : (Cond.methodLink "FaultTests$Setup" 33 ⟨"FaultTests$TestList", "copyFrom", "(LFaultTests$TestList;)V"⟩) ∈ UW := UW_in (lw_i3 (List.mem_of_getElem? (i := 65) rfl)) rfl
theorem mw_3_66 : (Cond.instanceMethod ⟨"FaultTests$TestList", "copyFrom", "(LFaultTests$TestList;)V"⟩) ∈ UW := UW_in (lw_i3 (List.mem_of_getElem? (i := 66) rfl)) rfl
theorem mw_3_67 : (Cond.selects "FaultTests$TestList" ⟨"FaultTests$TestList", "copyFrom", "(LFaultTests$TestList;)V"⟩ ⟨"FaultTests$TestList", "copyFrom", "(LFaultTests$TestList;)V"⟩) ∈ UW := UW_in (lw_i3 (List.mem_of_getElem? (i := 67) rfl)) rfl
theorem mw_3_68 : (Cond.code ⟨"FaultTests$TestList", "copyFrom", "(LFaultTests$TestList;)V"⟩ prog_8_method_4_code 2 none) ∈ UW := UW_in (lw_i3 (List.mem_of_getElem? (i := 68) rfl)) rfl
theorem mw_3_69 : (Cond.methodLink "FaultTests$TestList" 31 ⟨"java/lang/System", "arraycopy", "(Ljava/lang/Object;ILjava/lang/Object;II)V"⟩) ∈ UW := UW_in (lw_i3 (List.mem_of_getElem? (i := 69) rfl)) rfl
theorem mw_3_70 : (Cond.methodLink "FaultTests$History" 29 ⟨"java/lang/Math", "min", "(II)I"⟩) ∈ UW := UW_in (lw_i3 (List.mem_of_getElem? (i := 70) rfl)) rfl
theorem mw_3_71 : (Cond.methodLink "FaultTests" 248 ⟨"FaultTests$TestList", "put", "(II)V"⟩) ∈ UW := UW_in (lw_i3 (List.mem_of_getElem? (i := 71) rfl)) rfl
theorem mw_3_72 : (Cond.instanceMethod ⟨"FaultTests$TestList", "put", "(II)V"⟩) ∈ UW := UW_in (lw_i3 (List.mem_of_getElem? (i := 72) rfl)) rfl
theorem mw_3_73 : (Cond.selects "FaultTests$TestList" ⟨"FaultTests$TestList", "put", "(II)V"⟩ ⟨"FaultTests$TestList", "put", "(II)V"⟩) ∈ UW := UW_in (lw_i3 (List.mem_of_getElem? (i := 73) rfl)) rfl
theorem mw_3_74 : (Cond.code ⟨"FaultTests$TestList", "put", "(II)V"⟩ prog_8_method_6_code 3 none) ∈ UW := UW_in (lw_i3 (List.mem_of_getElem? (i := 74) rfl)) rfl
theorem mw_3_75 : (Cond.classLink "FaultTestsLaw" 35 "FaultTestsLaw$Model") ∈ UW := UW_in (lw_i3 (List.mem_of_getElem? (i := 75) rfl)) rfl
theorem mw_3_76 : (Cond.instantiable "FaultTestsLaw$Model" 8) ∈ UW := UW_in (lw_i3 (List.mem_of_getElem? (i := 76) rfl)) rfl
theorem mw_3_77 : (Cond.methodLink "FaultTestsLaw" 72 ⟨"FaultTestsLaw$Model", "<init>", "(II)V"⟩) ∈ UW := UW_in (lw_i3 (List.mem_of_getElem? (i := 77) rfl)) rfl
theorem mw_3_78 : (Cond.instanceMethod ⟨"FaultTestsLaw$Model", "<init>", "(II)V"⟩) ∈ UW := UW_in (lw_i3 (List.mem_of_getElem? (i := 78) rfl)) rfl
theorem mw_3_79 : (Cond.code ⟨"FaultTestsLaw$Model", "<init>", "(II)V"⟩ prog_10_method_1_code 3 none) ∈ UW := UW_in (lw_i3 (List.mem_of_getElem? (i := 79) rfl)) rfl
theorem mw_3_80 : (Cond.methodLink "FaultTestsLaw$Model" 1 ⟨"java/lang/Object", "<init>", "()V"⟩) ∈ UW := UW_in (lw_i3 (List.mem_of_getElem? (i := 80) rfl)) rfl
theorem mw_3_81 : (Cond.classLink "FaultTestsLaw$Model" 26 "[I") ∈ UW := UW_in (lw_i3 (List.mem_of_getElem? (i := 81) rfl)) rfl
theorem mw_3_83 : (Cond.fieldLink "FaultTestsLaw$Model" 17 "FaultTestsLaw$Model" "inputs" "I") ∈ UW := UW_in (lw_i3 (List.mem_of_getElem? (i := 83) rfl)) rfl
theorem mw_3_84 : (Cond.fieldLink "FaultTestsLaw$Model" 20 "FaultTestsLaw$Model" "gates" "I") ∈ UW := UW_in (lw_i3 (List.mem_of_getElem? (i := 84) rfl)) rfl
theorem mw_3_85 : (Cond.fieldLink "FaultTestsLaw$Model" 23 "FaultTestsLaw$Model" "kind" "[I") ∈ UW := UW_in (lw_i3 (List.mem_of_getElem? (i := 85) rfl)) rfl
theorem mw_3_87 : (Cond.fieldLink "FaultTestsLaw$Model" 27 "FaultTestsLaw$Model" "operands" "[[I") ∈ UW := UW_in (lw_i3 (List.mem_of_getElem? (i := 87) rfl)) rfl
theorem mw_3_89 : (Cond.fieldLink "FaultTestsLaw$Model" 7 "FaultTestsLaw$Model" "outputs" "[I") ∈ UW := UW_in (lw_i3 (List.mem_of_getElem? (i := 89) rfl)) rfl
theorem mw_3_91 : (Cond.fieldLink "FaultTestsLaw$Model" 48 "FaultTestsLaw$Model" "bridgeKind" "I") ∈ UW := UW_in (lw_i3 (List.mem_of_getElem? (i := 91) rfl)) rfl
theorem mw_3_93 : (Cond.fieldLink "FaultTestsLaw$Model" 13 "FaultTestsLaw$Model" "bridgeOne" "I") ∈ UW := UW_in (lw_i3 (List.mem_of_getElem? (i := 93) rfl)) rfl
theorem mw_3_95 : (Cond.fieldLink "FaultTestsLaw$Model" 45 "FaultTestsLaw$Model" "bridgeOther" "I") ∈ UW := UW_in (lw_i3 (List.mem_of_getElem? (i := 95) rfl)) rfl
theorem mw_3_97 : (Cond.laysFinal "FaultTestsLaw$Model" "FaultTestsLaw$Model" "inputs" "I") ∈ UW := UW_in (lw_i3 (List.mem_of_getElem? (i := 97) rfl)) rfl
theorem mw_3_99 : (Cond.laysFinal "FaultTestsLaw$Model" "FaultTestsLaw$Model" "gates" "I") ∈ UW := UW_in (lw_i3 (List.mem_of_getElem? (i := 99) rfl)) rfl
theorem mw_3_101 : (Cond.laysFinal "FaultTestsLaw$Model" "FaultTestsLaw$Model" "kind" "[I") ∈ UW := UW_in (lw_i3 (List.mem_of_getElem? (i := 101) rfl)) rfl
theorem mw_3_103 : (Cond.laysFinal "FaultTestsLaw$Model" "FaultTestsLaw$Model" "operands" "[[I") ∈ UW := UW_in (lw_i3 (List.mem_of_getElem? (i := 103) rfl)) rfl
theorem mw_3_105 : (Cond.laysFinal "FaultTestsLaw$Model" "FaultTestsLaw$Model" "outputs" "[I") ∈ UW := UW_in (lw_i3 (List.mem_of_getElem? (i := 105) rfl)) rfl
theorem mw_3_107 : (Cond.lays "FaultTestsLaw$Model" "FaultTestsLaw$Model" "bridgeKind" "I") ∈ UW := UW_in (lw_i3 (List.mem_of_getElem? (i := 107) rfl)) rfl
theorem mw_3_109 : (Cond.lays "FaultTestsLaw$Model" "FaultTestsLaw$Model" "bridgeOne" "I") ∈ UW := UW_in (lw_i3 (List.mem_of_getElem? (i := 109) rfl)) rfl
theorem mw_3_111 : (Cond.lays "FaultTestsLaw$Model" "FaultTestsLaw$Model" "bridgeOther" "I") ∈ UW := UW_in (lw_i3 (List.mem_of_getElem? (i := 111) rfl)) rfl
theorem mw_3_113 : (Cond.superclass "FaultTestsLaw$Model" "java/lang/Object") ∈ UW := UW_in (lw_i3 (List.mem_of_getElem? (i := 113) rfl)) rfl
theorem mw_3_114 : (Cond.methodLink "FaultTestsLaw" 40 ⟨"FaultTestsLaw$Model", "wires", "()I"⟩) ∈ UW := UW_in (lw_i3 (List.mem_of_getElem? (i := 114) rfl)) rfl
theorem mw_3_115 : (Cond.instanceMethod ⟨"FaultTestsLaw$Model", "wires", "()I"⟩) ∈ UW := UW_in (lw_i3 (List.mem_of_getElem? (i := 115) rfl)) rfl
theorem mw_3_116 : (Cond.selects "FaultTestsLaw$Model" ⟨"FaultTestsLaw$Model", "wires", "()I"⟩ ⟨"FaultTestsLaw$Model", "wires", "()I"⟩) ∈ UW := UW_in (lw_i3 (List.mem_of_getElem? (i := 116) rfl)) rfl
theorem mw_3_117 : (Cond.code ⟨"FaultTestsLaw$Model", "wires", "()I"⟩ prog_10_method_2_code 1 (some .int)) ∈ UW := UW_in (lw_i3 (List.mem_of_getElem? (i := 117) rfl)) rfl
theorem mw_3_118 : (Cond.methodLink "FaultTestsLaw" 60 ⟨"FaultTestsLaw$Model", "finds", "([II)I"⟩) ∈ UW := UW_in (lw_i3 (List.mem_of_getElem? (i := 118) rfl)) rfl
theorem mw_3_119 : (Cond.instanceMethod ⟨"FaultTestsLaw$Model", "finds", "([II)I"⟩) ∈ UW := UW_in (lw_i3 (List.mem_of_getElem? (i := 119) rfl)) rfl
theorem mw_3_120 : (Cond.selects "FaultTestsLaw$Model" ⟨"FaultTestsLaw$Model", "finds", "([II)I"⟩ ⟨"FaultTestsLaw$Model", "finds", "([II)I"⟩) ∈ UW := UW_in (lw_i3 (List.mem_of_getElem? (i := 120) rfl)) rfl
theorem mw_3_121 : (Cond.code ⟨"FaultTestsLaw$Model", "finds", "([II)I"⟩ prog_10_method_4_code 10 (some .int)) ∈ UW := UW_in (lw_i3 (List.mem_of_getElem? (i := 121) rfl)) rfl
theorem mw_3_122 : (Cond.methodLink "FaultTestsLaw$Model" 35 ⟨"FaultTestsLaw$Model", "values", "([II)[I"⟩) ∈ UW := UW_in (lw_i3 (List.mem_of_getElem? (i := 122) rfl)) rfl
theorem mw_3_123 : (Cond.instanceMethod ⟨"FaultTestsLaw$Model", "values", "([II)[I"⟩) ∈ UW := UW_in (lw_i3 (List.mem_of_getElem? (i := 123) rfl)) rfl
theorem mw_3_124 : (Cond.selects "FaultTestsLaw$Model" ⟨"FaultTestsLaw$Model", "values", "([II)[I"⟩ ⟨"FaultTestsLaw$Model", "values", "([II)[I"⟩) ∈ UW := UW_in (lw_i3 (List.mem_of_getElem? (i := 124) rfl)) rfl
theorem mw_3_125 : (Cond.code ⟨"FaultTestsLaw$Model", "values", "([II)[I"⟩ prog_10_method_3_code 8 (some (.array .int))) ∈ UW := UW_in (lw_i3 (List.mem_of_getElem? (i := 125) rfl)) rfl
theorem mw_3_126 : (Cond.methodLink "FaultTestsLaw$Model" 31 ⟨"FaultTestsLaw$Model", "wires", "()I"⟩) ∈ UW := UW_in (lw_i3 (List.mem_of_getElem? (i := 126) rfl)) rfl
theorem mw_3_128 : (Cond.static ⟨"FaultTestsLaw", "sets", "(I[I)I"⟩) ∈ UW := UW_in (lw_i3 (List.mem_of_getElem? (i := 128) rfl)) rfl
theorem mw_3_129 : (Cond.code ⟨"FaultTestsLaw", "sets", "(I[I)I"⟩ method_6_code 6 (some .int)) ∈ UW := UW_in (lw_i3 (List.mem_of_getElem? (i := 129) rfl)) rfl
theorem mw_3_130 : (Cond.methodLink "FaultTestsLaw" 28 ⟨"FaultTestsLaw", "plain", "(III)I"⟩) ∈ UW := UW_in (lw_i3 (List.mem_of_getElem? (i := 130) rfl)) rfl
theorem mw_3_131 : (Cond.static ⟨"FaultTestsLaw", "plain", "(III)I"⟩) ∈ UW := UW_in (lw_i3 (List.mem_of_getElem? (i := 131) rfl)) rfl
theorem mw_3_132 : (Cond.code ⟨"FaultTestsLaw", "plain", "(III)I"⟩ method_5_code 5 (some .int)) ∈ UW := UW_in (lw_i3 (List.mem_of_getElem? (i := 132) rfl)) rfl
theorem mw_3_133 : (Cond.methodLink "FaultTestsLaw$Model" 51 ⟨"java/lang/Math", "max", "(II)I"⟩) ∈ UW := UW_in (lw_i3 (List.mem_of_getElem? (i := 133) rfl)) rfl
theorem mw_3_134 : (Cond.methodLink "FaultTestsLaw" 149 ⟨"FaultTestsLaw$Model", "full", "(I)[I"⟩) ∈ UW := UW_in (lw_i3 (List.mem_of_getElem? (i := 134) rfl)) rfl
theorem mw_3_135 : (Cond.instanceMethod ⟨"FaultTestsLaw$Model", "full", "(I)[I"⟩) ∈ UW := UW_in (lw_i3 (List.mem_of_getElem? (i := 135) rfl)) rfl
theorem mw_3_136 : (Cond.selects "FaultTestsLaw$Model" ⟨"FaultTestsLaw$Model", "full", "(I)[I"⟩ ⟨"FaultTestsLaw$Model", "full", "(I)[I"⟩) ∈ UW := UW_in (lw_i3 (List.mem_of_getElem? (i := 136) rfl)) rfl
theorem mw_3_137 : (Cond.code ⟨"FaultTestsLaw$Model", "full", "(I)[I"⟩ prog_10_method_5_code 4 (some (.array .int))) ∈ UW := UW_in (lw_i3 (List.mem_of_getElem? (i := 137) rfl)) rfl
theorem mw_3_138 : (Cond.methodLink "FaultTestsLaw" 142 ⟨"FaultTestsLaw$Model", "isApart", "(II)Z"⟩) ∈ UW := UW_in (lw_i3 (List.mem_of_getElem? (i := 138) rfl)) rfl
theorem mw_3_139 : (Cond.instanceMethod ⟨"FaultTestsLaw$Model", "isApart", "(II)Z"⟩) ∈ UW := UW_in (lw_i3 (List.mem_of_getElem? (i := 139) rfl)) rfl
theorem mw_3_140 : (Cond.selects "FaultTestsLaw$Model" ⟨"FaultTestsLaw$Model", "isApart", "(II)Z"⟩ ⟨"FaultTestsLaw$Model", "isApart", "(II)Z"⟩) ∈ UW := UW_in (lw_i3 (List.mem_of_getElem? (i := 140) rfl)) rfl
theorem mw_3_141 : (Cond.code ⟨"FaultTestsLaw$Model", "isApart", "(II)Z"⟩ prog_10_method_6_code 10 (some .boolean)) ∈ UW := UW_in (lw_i3 (List.mem_of_getElem? (i := 141) rfl)) rfl
theorem mw_3_142 : (Cond.methodLink "FaultTestsLaw$Model" 57 ⟨"FaultTestsLaw$Model", "full", "(I)[I"⟩) ∈ UW := UW_in (lw_i3 (List.mem_of_getElem? (i := 142) rfl)) rfl
theorem mw_3_143 : (Cond.methodLink "FaultTestsLaw" 66 ⟨"FaultTestsLaw", "cell", "([II)I"⟩) ∈ UW := UW_in (lw_i3 (List.mem_of_getElem? (i := 143) rfl)) rfl
theorem mw_3_144 : (Cond.static ⟨"FaultTestsLaw", "cell", "([II)I"⟩) ∈ UW := UW_in (lw_i3 (List.mem_of_getElem? (i := 144) rfl)) rfl
theorem mw_3_145 : (Cond.code ⟨"FaultTestsLaw", "cell", "([II)I"⟩ method_2_code 2 (some .int)) ∈ UW := UW_in (lw_i3 (List.mem_of_getElem? (i := 145) rfl)) rfl
theorem mw_3_146 : (Cond.methodLink "FaultTestsLaw" 69 ⟨"FaultTestsLaw", "bound", "(II)I"⟩) ∈ UW := UW_in (lw_i3 (List.mem_of_getElem? (i := 146) rfl)) rfl
theorem mw_3_147 : (Cond.static ⟨"FaultTestsLaw", "bound", "(II)I"⟩) ∈ UW := UW_in (lw_i3 (List.mem_of_getElem? (i := 147) rfl)) rfl
theorem mw_3_148 : (Cond.code ⟨"FaultTestsLaw", "bound", "(II)I"⟩ method_3_code 2 (some .int)) ∈ UW := UW_in (lw_i3 (List.mem_of_getElem? (i := 148) rfl)) rfl
theorem mw_3_149 : (Cond.constant "FaultTestsLaw" 7 (2147483647 : Int32)) ∈ UW := UW_in (lw_i3 (List.mem_of_getElem? (i := 149) rfl)) rfl
theorem mw_3_150 : (Cond.methodLink "FaultTestsLaw" 128 ⟨"FaultTestsLaw", "read", "(LFaultTests;Ljava/lang/String;)I"⟩) ∈ UW := UW_in (lw_i3 (List.mem_of_getElem? (i := 150) rfl)) rfl
theorem mw_3_151 : (Cond.static ⟨"FaultTestsLaw", "read", "(LFaultTests;Ljava/lang/String;)I"⟩) ∈ UW := UW_in (lw_i3 (List.mem_of_getElem? (i := 151) rfl)) rfl
theorem mw_3_152 : (Cond.code ⟨"FaultTestsLaw", "read", "(LFaultTests;Ljava/lang/String;)I"⟩ method_4_code 5 (some .int)) ∈ UW := UW_in (lw_i3 (List.mem_of_getElem? (i := 152) rfl)) rfl
theorem mw_3_153 : (Cond.methodLink "FaultTestsLaw" 8 ⟨"java/lang/String", "length", "()I"⟩) ∈ UW := UW_in (lw_i3 (List.mem_of_getElem? (i := 153) rfl)) rfl
theorem mw_3_154 : (Cond.instanceMethod ⟨"java/lang/String", "length", "()I"⟩) ∈ UW := UW_in (lw_i3 (List.mem_of_getElem? (i := 154) rfl)) rfl
theorem mw_3_155 : (Cond.selects "java/lang/String" ⟨"java/lang/String", "length", "()I"⟩ ⟨"java/lang/String", "length", "()I"⟩) ∈ UW := UW_in (lw_i3 (List.mem_of_getElem? (i := 155) rfl)) rfl
theorem mw_3_156 : (Cond.code ⟨"java/lang/String", "length", "()I"⟩ prog_23_method_54_code 1 (some .int)) ∈ UW := UW_in (lw_i3 (List.mem_of_getElem? (i := 156) rfl)) rfl
theorem mw_3_157 : (Cond.methodLink "java/lang/String" 335 ⟨"java/lang/String", "coder", "()B"⟩) ∈ UW := UW_in (lw_i3 (List.mem_of_getElem? (i := 157) rfl)) rfl
theorem mw_3_158 : (Cond.instanceMethod ⟨"java/lang/String", "coder", "()B"⟩) ∈ UW := UW_in (lw_i3 (List.mem_of_getElem? (i := 158) rfl)) rfl
theorem mw_3_159 : (Cond.selects "java/lang/String" ⟨"java/lang/String", "coder", "()B"⟩ ⟨"java/lang/String", "coder", "()B"⟩) ∈ UW := UW_in (lw_i3 (List.mem_of_getElem? (i := 159) rfl)) rfl
theorem mw_3_160 : (Cond.code ⟨"java/lang/String", "coder", "()B"⟩ prog_23_method_152_code 1 (some .byte)) ∈ UW := UW_in (lw_i3 (List.mem_of_getElem? (i := 160) rfl)) rfl
theorem mw_3_161 : (Cond.fieldLink "java/lang/String" 38 "java/lang/String" "COMPACT_STRINGS" "Z") ∈ UW := UW_in (lw_i3 (List.mem_of_getElem? (i := 161) rfl)) rfl
theorem mw_3_163 : (Cond.methodLink "FaultTestsLaw" 14 ⟨"java/lang/String", "charAt", "(I)C"⟩) ∈ UW := UW_in (lw_i3 (List.mem_of_getElem? (i := 163) rfl)) rfl
theorem mw_3_164 : (Cond.instanceMethod ⟨"java/lang/String", "charAt", "(I)C"⟩) ∈ UW := UW_in (lw_i3 (List.mem_of_getElem? (i := 164) rfl)) rfl
theorem mw_3_165 : (Cond.selects "java/lang/String" ⟨"java/lang/String", "charAt", "(I)C"⟩ ⟨"java/lang/String", "charAt", "(I)C"⟩) ∈ UW := UW_in (lw_i3 (List.mem_of_getElem? (i := 165) rfl)) rfl
theorem mw_3_166 : (Cond.code ⟨"java/lang/String", "charAt", "(I)C"⟩ prog_23_method_56_code 2 (some .char)) ∈ UW := UW_in (lw_i3 (List.mem_of_getElem? (i := 166) rfl)) rfl
theorem mw_3_167 : (Cond.methodLink "java/lang/String" 492 ⟨"java/lang/String", "isLatin1", "()Z"⟩) ∈ UW := UW_in (lw_i3 (List.mem_of_getElem? (i := 167) rfl)) rfl
theorem mw_3_168 : (Cond.instanceMethod ⟨"java/lang/String", "isLatin1", "()Z"⟩) ∈ UW := UW_in (lw_i3 (List.mem_of_getElem? (i := 168) rfl)) rfl
theorem mw_3_169 : (Cond.selects "java/lang/String" ⟨"java/lang/String", "isLatin1", "()Z"⟩ ⟨"java/lang/String", "isLatin1", "()Z"⟩) ∈ UW := UW_in (lw_i3 (List.mem_of_getElem? (i := 169) rfl)) rfl
theorem mw_3_170 : (Cond.code ⟨"java/lang/String", "isLatin1", "()Z"⟩ prog_23_method_154_code 1 (some .boolean)) ∈ UW := UW_in (lw_i3 (List.mem_of_getElem? (i := 170) rfl)) rfl
theorem mw_3_171 : (Cond.methodLink "java/lang/String" 495 ⟨"java/lang/StringLatin1", "charAt", "([BI)C"⟩) ∈ UW := UW_in (lw_i3 (List.mem_of_getElem? (i := 171) rfl)) rfl
theorem mw_3_172 : (Cond.static ⟨"java/lang/StringLatin1", "charAt", "([BI)C"⟩) ∈ UW := UW_in (lw_i3 (List.mem_of_getElem? (i := 172) rfl)) rfl
theorem mw_3_173 : (Cond.code ⟨"java/lang/StringLatin1", "charAt", "([BI)C"⟩ prog_25_method_2_code 2 (some .char)) ∈ UW := UW_in (lw_i3 (List.mem_of_getElem? (i := 173) rfl)) rfl
theorem mw_3_174 : (Cond.methodLink "java/lang/StringLatin1" 9 ⟨"java/lang/String", "checkIndex", "(II)V"⟩) ∈ UW := UW_in (lw_i3 (List.mem_of_getElem? (i := 174) rfl)) rfl
theorem mw_3_175 : (Cond.static ⟨"java/lang/String", "checkIndex", "(II)V"⟩) ∈ UW := UW_in (lw_i3 (List.mem_of_getElem? (i := 175) rfl)) rfl
theorem mw_3_176 : (Cond.code ⟨"java/lang/String", "checkIndex", "(II)V"⟩ prog_23_method_155_code 2 none) ∈ UW := UW_in (lw_i3 (List.mem_of_getElem? (i := 176) rfl)) rfl
theorem mw_3_177 : (Cond.fieldLink "java/lang/String" 1053 "jdk/internal/util/Preconditions" "SIOOBE_FORMATTER" "Ljava/util/function/BiFunction;") ∈ UW := UW_in (lw_i3 (List.mem_of_getElem? (i := 177) rfl)) rfl
theorem mw_3_179 : (Cond.methodLink "java/lang/String" 1059 ⟨"jdk/internal/util/Preconditions", "checkIndex", "(IILjava/util/function/BiFunction;)I"⟩) ∈ UW := UW_in (lw_i3 (List.mem_of_getElem? (i := 179) rfl)) rfl
theorem mw_3_180 : (Cond.static ⟨"jdk/internal/util/Preconditions", "checkIndex", "(IILjava/util/function/BiFunction;)I"⟩) ∈ UW := UW_in (lw_i3 (List.mem_of_getElem? (i := 180) rfl)) rfl
theorem mw_3_181 : (Cond.code ⟨"jdk/internal/util/Preconditions", "checkIndex", "(IILjava/util/function/BiFunction;)I"⟩ prog_31_method_11_code 3 (some .int)) ∈ UW := UW_in (lw_i3 (List.mem_of_getElem? (i := 181) rfl)) rfl
theorem mw_3_182 : (Cond.methodLink "java/lang/String" 498 ⟨"java/lang/StringUTF16", "charAt", "([BI)C"⟩) ∈ UW := UW_in (lw_i3 (List.mem_of_getElem? (i := 182) rfl)) rfl
theorem mw_3_183 : (Cond.static ⟨"java/lang/StringUTF16", "charAt", "([BI)C"⟩) ∈ UW := UW_in (lw_i3 (List.mem_of_getElem? (i := 183) rfl)) rfl
theorem mw_3_184 : (Cond.code ⟨"java/lang/StringUTF16", "charAt", "([BI)C"⟩ prog_26_method_83_code 2 (some .char)) ∈ UW := UW_in (lw_i3 (List.mem_of_getElem? (i := 184) rfl)) rfl
theorem mw_3_185 : (Cond.methodLink "java/lang/StringUTF16" 67 ⟨"java/lang/StringUTF16", "checkIndex", "(I[B)V"⟩) ∈ UW := UW_in (lw_i3 (List.mem_of_getElem? (i := 185) rfl)) rfl
theorem mw_3_186 : (Cond.static ⟨"java/lang/StringUTF16", "checkIndex", "(I[B)V"⟩) ∈ UW := UW_in (lw_i3 (List.mem_of_getElem? (i := 186) rfl)) rfl
theorem mw_3_187 : (Cond.code ⟨"java/lang/StringUTF16", "checkIndex", "(I[B)V"⟩ prog_26_method_91_code 2 none) ∈ UW := UW_in (lw_i3 (List.mem_of_getElem? (i := 187) rfl)) rfl
theorem mw_3_188 : (Cond.methodLink "java/lang/StringUTF16" 48 ⟨"java/lang/StringUTF16", "length", "([B)I"⟩) ∈ UW := UW_in (lw_i3 (List.mem_of_getElem? (i := 188) rfl)) rfl
theorem mw_3_189 : (Cond.static ⟨"java/lang/StringUTF16", "length", "([B)I"⟩) ∈ UW := UW_in (lw_i3 (List.mem_of_getElem? (i := 189) rfl)) rfl
theorem mw_3_190 : (Cond.code ⟨"java/lang/StringUTF16", "length", "([B)I"⟩ prog_26_method_6_code 1 (some .int)) ∈ UW := UW_in (lw_i3 (List.mem_of_getElem? (i := 190) rfl)) rfl
theorem mw_3_191 : (Cond.methodLink "java/lang/StringUTF16" 414 ⟨"java/lang/String", "checkIndex", "(II)V"⟩) ∈ UW := UW_in (lw_i3 (List.mem_of_getElem? (i := 191) rfl)) rfl
theorem mw_3_192 : (Cond.methodLink "java/lang/StringUTF16" 71 ⟨"java/lang/StringUTF16", "getChar", "([BI)C"⟩) ∈ UW := UW_in (lw_i3 (List.mem_of_getElem? (i := 192) rfl)) rfl
theorem mw_3_193 : (Cond.static ⟨"java/lang/StringUTF16", "getChar", "([BI)C"⟩) ∈ UW := UW_in (lw_i3 (List.mem_of_getElem? (i := 193) rfl)) rfl
theorem mw_3_194 : (Cond.code ⟨"java/lang/StringUTF16", "getChar", "([BI)C"⟩ prog_26_method_5_code 2 (some .char)) ∈ UW := UW_in (lw_i3 (List.mem_of_getElem? (i := 194) rfl)) rfl
theorem mw_3_195 : (Cond.fieldLink "java/lang/StringUTF16" 44 "java/lang/StringUTF16" "$assertionsDisabled" "Z") ∈ UW := UW_in (lw_i3 (List.mem_of_getElem? (i := 195) rfl)) rfl
theorem mw_3_197 : (Cond.fieldLink "java/lang/StringUTF16" 59 "java/lang/StringUTF16" "HI_BYTE_SHIFT" "I") ∈ UW := UW_in (lw_i3 (List.mem_of_getElem? (i := 197) rfl)) rfl
theorem mw_3_199 : (Cond.fieldLink "java/lang/StringUTF16" 63 "java/lang/StringUTF16" "LO_BYTE_SHIFT" "I") ∈ UW := UW_in (lw_i3 (List.mem_of_getElem? (i := 199) rfl)) rfl
theorem mw_3_201 : (Cond.methodLink "FaultTestsLaw" 18 ⟨"FaultTests", "append", "(IIIII)I"⟩) ∈ UW := UW_in (lw_i3 (List.mem_of_getElem? (i := 201) rfl)) rfl
theorem mw_3_202 : (Cond.instanceMethod ⟨"FaultTests", "append", "(IIIII)I"⟩) ∈ UW := UW_in (lw_i3 (List.mem_of_getElem? (i := 202) rfl)) rfl
theorem mw_3_203 : (Cond.selects "FaultTests" ⟨"FaultTests", "append", "(IIIII)I"⟩ ⟨"FaultTests", "append", "(IIIII)I"⟩) ∈ UW := UW_in (lw_i3 (List.mem_of_getElem? (i := 203) rfl)) rfl
theorem mw_3_204 : (Cond.code ⟨"FaultTests", "append", "(IIIII)I"⟩ prog_1_method_2_code 6 (some .int)) ∈ UW := UW_in (lw_i3 (List.mem_of_getElem? (i := 204) rfl)) rfl
theorem mw_3_205 : (Cond.methodLink "FaultTests" 70 ⟨"FaultTests$SetupReader", "putBytes", "(I)V"⟩) ∈ UW := UW_in (lw_i3 (List.mem_of_getElem? (i := 205) rfl)) rfl
theorem mw_3_206 : (Cond.instanceMethod ⟨"FaultTests$SetupReader", "putBytes", "(I)V"⟩) ∈ UW := UW_in (lw_i3 (List.mem_of_getElem? (i := 206) rfl)) rfl
theorem mw_3_207 : (Cond.selects "FaultTests$SetupReader" ⟨"FaultTests$SetupReader", "putBytes", "(I)V"⟩ ⟨"FaultTests$SetupReader", "putBytes", "(I)V"⟩) ∈ UW := UW_in (lw_i3 (List.mem_of_getElem? (i := 207) rfl)) rfl
theorem mw_3_208 : (Cond.code ⟨"FaultTests$SetupReader", "putBytes", "(I)V"⟩ prog_7_method_2_code 3 none) ∈ UW := UW_in (lw_i3 (List.mem_of_getElem? (i := 208) rfl)) rfl
theorem mw_3_209 : (Cond.methodLink "FaultTestsLaw" 24 ⟨"FaultTests", "load", "(I)I"⟩) ∈ UW := UW_in (lw_i3 (List.mem_of_getElem? (i := 209) rfl)) rfl
theorem mw_3_210 : (Cond.instanceMethod ⟨"FaultTests", "load", "(I)I"⟩) ∈ UW := UW_in (lw_i3 (List.mem_of_getElem? (i := 210) rfl)) rfl
theorem mw_3_211 : (Cond.selects "FaultTests" ⟨"FaultTests", "load", "(I)I"⟩ ⟨"FaultTests", "load", "(I)I"⟩) ∈ UW := UW_in (lw_i3 (List.mem_of_getElem? (i := 211) rfl)) rfl
theorem mw_3_212 : (Cond.code ⟨"FaultTests", "load", "(I)I"⟩ prog_1_method_3_code 3 (some .int)) ∈ UW := UW_in (lw_i3 (List.mem_of_getElem? (i := 212) rfl)) rfl
theorem mw_3_214 : (Cond.methodLink "FaultTests" 80 ⟨"FaultTests$SetupReader", "read", "(I)I"⟩) ∈ UW := UW_in (lw_i3 (List.mem_of_getElem? (i := 214) rfl)) rfl
theorem mw_3_215 : (Cond.instanceMethod ⟨"FaultTests$SetupReader", "read", "(I)I"⟩) ∈ UW := UW_in (lw_i3 (List.mem_of_getElem? (i := 215) rfl)) rfl
theorem mw_3_216 : (Cond.selects "FaultTests$SetupReader" ⟨"FaultTests$SetupReader", "read", "(I)I"⟩ ⟨"FaultTests$SetupReader", "read", "(I)I"⟩) ∈ UW := UW_in (lw_i3 (List.mem_of_getElem? (i := 216) rfl)) rfl
theorem mw_3_217 : (Cond.code ⟨"FaultTests$SetupReader", "read", "(I)I"⟩ prog_7_method_3_code 4 (some .int)) ∈ UW := UW_in (lw_i3 (List.mem_of_getElem? (i := 217) rfl)) rfl
theorem mw_3_218 : (Cond.methodLink "FaultTests$SetupReader" 47 ⟨"java/lang/Math", "min", "(II)I"⟩) ∈ UW := UW_in (lw_i3 (List.mem_of_getElem? (i := 218) rfl)) rfl
theorem mw_3_219 : (Cond.methodLink "FaultTests$SetupReader" 53 ⟨"FaultTests$Setup", "clear", "(I)V"⟩) ∈ UW := UW_in (lw_i3 (List.mem_of_getElem? (i := 219) rfl)) rfl
theorem mw_3_220 : (Cond.instanceMethod ⟨"FaultTests$Setup", "clear", "(I)V"⟩) ∈ UW := UW_in (lw_i3 (List.mem_of_getElem? (i := 220) rfl)) rfl
theorem mw_3_221 : (Cond.selects "FaultTests$Setup" ⟨"FaultTests$Setup", "clear", "(I)V"⟩ ⟨"FaultTests$Setup", "clear", "(I)V"⟩) ∈ UW := UW_in (lw_i3 (List.mem_of_getElem? (i := 221) rfl)) rfl
theorem mw_3_222 : (Cond.code ⟨"FaultTests$Setup", "clear", "(I)V"⟩ prog_6_method_2_code 2 none) ∈ UW := UW_in (lw_i3 (List.mem_of_getElem? (i := 222) rfl)) rfl
theorem mw_3_223 : (Cond.methodLink "FaultTests$Setup" 23 ⟨"FaultTests$Circuit", "clear", "(I)V"⟩) ∈ UW := UW_in (lw_i3 (List.mem_of_getElem? (i := 223) rfl)) rfl
theorem mw_3_224 : (Cond.methodLink "FaultTests$Setup" 27 ⟨"FaultTests$TestList", "clear", "()V"⟩) ∈ UW := UW_in (lw_i3 (List.mem_of_getElem? (i := 224) rfl)) rfl
theorem mw_3_225 : (Cond.instanceMethod ⟨"FaultTests$TestList", "clear", "()V"⟩) ∈ UW := UW_in (lw_i3 (List.mem_of_getElem? (i := 225) rfl)) rfl
theorem mw_3_226 : (Cond.selects "FaultTests$TestList" ⟨"FaultTests$TestList", "clear", "()V"⟩ ⟨"FaultTests$TestList", "clear", "()V"⟩) ∈ UW := UW_in (lw_i3 (List.mem_of_getElem? (i := 226) rfl)) rfl
theorem mw_3_227 : (Cond.code ⟨"FaultTests$TestList", "clear", "()V"⟩ prog_8_method_2_code 1 none) ∈ UW := UW_in (lw_i3 (List.mem_of_getElem? (i := 227) rfl)) rfl
theorem mw_3_228 : (Cond.methodLink "FaultTests$TestList" 28 ⟨"FaultTests$TestList", "clearSeen", "()V"⟩) ∈ UW := UW_in (lw_i3 (List.mem_of_getElem? (i := 228) rfl)) rfl
theorem mw_3_229 : (Cond.instanceMethod ⟨"FaultTests$TestList", "clearSeen", "()V"⟩) ∈ UW := UW_in (lw_i3 (List.mem_of_getElem? (i := 229) rfl)) rfl
theorem mw_3_230 : (Cond.selects "FaultTests$TestList" ⟨"FaultTests$TestList", "clearSeen", "()V"⟩ ⟨"FaultTests$TestList", "clearSeen", "()V"⟩) ∈ UW := UW_in (lw_i3 (List.mem_of_getElem? (i := 230) rfl)) rfl
theorem mw_3_231 : (Cond.code ⟨"FaultTests$TestList", "clearSeen", "()V"⟩ prog_8_method_3_code 2 none) ∈ UW := UW_in (lw_i3 (List.mem_of_getElem? (i := 231) rfl)) rfl
theorem mw_3_232 : (Cond.methodLink "FaultTests$SetupReader" 57 ⟨"FaultTests$SetupReader", "advance", "()V"⟩) ∈ UW := UW_in (lw_i3 (List.mem_of_getElem? (i := 232) rfl)) rfl
theorem mw_3_234 : (Cond.instanceMethod ⟨"FaultTests$SetupReader", "advance", "()V"⟩) ∈ UW := UW_in (lw_i3 (List.mem_of_getElem? (i := 234) rfl)) rfl
theorem mw_3_235 : (Cond.code ⟨"FaultTests$SetupReader", "advance", "()V"⟩ prog_7_method_15_code 1 none) ∈ UW := UW_in (lw_i3 (List.mem_of_getElem? (i := 235) rfl)) rfl
theorem mw_3_236 : (Cond.methodLink "FaultTests$SetupReader" 199 ⟨"FaultTests$SetupReader", "isDigit", "(I)Z"⟩) ∈ UW := UW_in (lw_i3 (List.mem_of_getElem? (i := 236) rfl)) rfl
theorem mw_3_237 : (Cond.static ⟨"FaultTests$SetupReader", "isDigit", "(I)Z"⟩) ∈ UW := UW_in (lw_i3 (List.mem_of_getElem? (i := 237) rfl)) rfl
theorem mw_3_238 : (Cond.code ⟨"FaultTests$SetupReader", "isDigit", "(I)Z"⟩ prog_7_method_16_code 1 (some .boolean)) ∈ UW := UW_in (lw_i3 (List.mem_of_getElem? (i := 238) rfl)) rfl
theorem mw_3_239 : (Cond.constant "FaultTests$SetupReader" 202 (100000 : Int32)) ∈ UW := UW_in (lw_i3 (List.mem_of_getElem? (i := 239) rfl)) rfl
theorem mw_4_0 : (Cond.methodLink "FaultTests$SetupReader" 203 ⟨"FaultTests$SetupReader", "isLetter", "(I)Z"⟩) ∈ UW := UW_in (lw_i4 (List.mem_of_getElem? (i := 0) rfl)) rfl
theorem mw_4_1 : (Cond.static ⟨"FaultTests$SetupReader", "isLetter", "(I)Z"⟩) ∈ UW := UW_in (lw_i4 (List.mem_of_getElem? (i := 1) rfl)) rfl
theorem mw_4_2 : (Cond.code ⟨"FaultTests$SetupReader", "isLetter", "(I)Z"⟩ prog_7_method_17_code 1 (some .boolean)) ∈ UW := UW_in (lw_i4 (List.mem_of_getElem? (i := 2) rfl)) rfl
theorem mw_4_3 : (Cond.methodLink "FaultTests$SetupReader" 60 ⟨"FaultTests$SetupReader", "readCircuit", "()Z"⟩) ∈ UW := UW_in (lw_i4 (List.mem_of_getElem? (i := 3) rfl)) rfl
theorem mw_4_5 : (Cond.instanceMethod ⟨"FaultTests$SetupReader", "readCircuit", "()Z"⟩) ∈ UW := UW_in (lw_i4 (List.mem_of_getElem? (i := 5) rfl)) rfl
theorem mw_4_6 : (Cond.code ⟨"FaultTests$SetupReader", "readCircuit", "()Z"⟩ prog_7_method_5_code 1 (some .boolean)) ∈ UW := UW_in (lw_i4 (List.mem_of_getElem? (i := 6) rfl)) rfl
theorem mw_4_8 : (Cond.methodLink "FaultTests$SetupReader" 69 ⟨"FaultTests$SetupReader", "isWord", "(Ljava/lang/String;)Z"⟩) ∈ UW := UW_in (lw_i4 (List.mem_of_getElem? (i := 8) rfl)) rfl
theorem mw_4_10 : (Cond.instanceMethod ⟨"FaultTests$SetupReader", "isWord", "(Ljava/lang/String;)Z"⟩) ∈ UW := UW_in (lw_i4 (List.mem_of_getElem? (i := 10) rfl)) rfl
theorem mw_4_11 : (Cond.code ⟨"FaultTests$SetupReader", "isWord", "(Ljava/lang/String;)Z"⟩ prog_7_method_14_code 3 (some .boolean)) ∈ UW := UW_in (lw_i4 (List.mem_of_getElem? (i := 11) rfl)) rfl
theorem mw_4_12 : (Cond.methodLink "FaultTests$SetupReader" 190 ⟨"java/lang/String", "length", "()I"⟩) ∈ UW := UW_in (lw_i4 (List.mem_of_getElem? (i := 12) rfl)) rfl
theorem mw_4_13 : (Cond.methodLink "FaultTests$SetupReader" 195 ⟨"java/lang/String", "charAt", "(I)C"⟩) ∈ UW := UW_in (lw_i4 (List.mem_of_getElem? (i := 13) rfl)) rfl
theorem mw_4_14 : (Cond.methodLink "FaultTests$SetupReader" 73 ⟨"FaultTests$SetupReader", "fail", "(I)Z"⟩) ∈ UW := UW_in (lw_i4 (List.mem_of_getElem? (i := 14) rfl)) rfl
theorem mw_4_16 : (Cond.instanceMethod ⟨"FaultTests$SetupReader", "fail", "(I)Z"⟩) ∈ UW := UW_in (lw_i4 (List.mem_of_getElem? (i := 16) rfl)) rfl
theorem mw_4_17 : (Cond.code ⟨"FaultTests$SetupReader", "fail", "(I)Z"⟩ prog_7_method_4_code 2 (some .boolean)) ∈ UW := UW_in (lw_i4 (List.mem_of_getElem? (i := 17) rfl)) rfl
theorem mw_4_18 : (Cond.methodLink "FaultTests$SetupReader" 77 ⟨"FaultTests$SetupReader", "readSemicolon", "()Z"⟩) ∈ UW := UW_in (lw_i4 (List.mem_of_getElem? (i := 18) rfl)) rfl
theorem mw_4_20 : (Cond.instanceMethod ⟨"FaultTests$SetupReader", "readSemicolon", "()Z"⟩) ∈ UW := UW_in (lw_i4 (List.mem_of_getElem? (i := 20) rfl)) rfl
theorem mw_4_21 : (Cond.code ⟨"FaultTests$SetupReader", "readSemicolon", "()Z"⟩ prog_7_method_7_code 1 (some .boolean)) ∈ UW := UW_in (lw_i4 (List.mem_of_getElem? (i := 21) rfl)) rfl
theorem mw_4_22 : (Cond.methodLink "FaultTests$SetupReader" 64 ⟨"FaultTests$SetupReader", "readStatement", "()Z"⟩) ∈ UW := UW_in (lw_i4 (List.mem_of_getElem? (i := 22) rfl)) rfl
theorem mw_4_24 : (Cond.instanceMethod ⟨"FaultTests$SetupReader", "readStatement", "()Z"⟩) ∈ UW := UW_in (lw_i4 (List.mem_of_getElem? (i := 24) rfl)) rfl
theorem mw_4_25 : (Cond.code ⟨"FaultTests$SetupReader", "readStatement", "()Z"⟩ prog_7_method_6_code 1 (some .boolean)) ∈ UW := UW_in (lw_i4 (List.mem_of_getElem? (i := 25) rfl)) rfl
theorem mw_4_27 : (Cond.methodLink "FaultTests$SetupReader" 82 ⟨"FaultTests$SetupReader", "readGate", "()Z"⟩) ∈ UW := UW_in (lw_i4 (List.mem_of_getElem? (i := 27) rfl)) rfl
theorem mw_4_29 : (Cond.instanceMethod ⟨"FaultTests$SetupReader", "readGate", "()Z"⟩) ∈ UW := UW_in (lw_i4 (List.mem_of_getElem? (i := 29) rfl)) rfl
theorem mw_4_30 : (Cond.code ⟨"FaultTests$SetupReader", "readGate", "()Z"⟩ prog_7_method_8_code 5 (some .boolean)) ∈ UW := UW_in (lw_i4 (List.mem_of_getElem? (i := 30) rfl)) rfl
theorem mw_4_31 : (Cond.methodLink "FaultTests$SetupReader" 103 ⟨"FaultTests$Circuit", "isFullOfGates", "()Z"⟩) ∈ UW := UW_in (lw_i4 (List.mem_of_getElem? (i := 31) rfl)) rfl
theorem mw_4_32 : (Cond.instanceMethod ⟨"FaultTests$Circuit", "isFullOfGates", "()Z"⟩) ∈ UW := UW_in (lw_i4 (List.mem_of_getElem? (i := 32) rfl)) rfl
theorem mw_4_33 : (Cond.selects "FaultTests$Circuit" ⟨"FaultTests$Circuit", "isFullOfGates", "()Z"⟩ ⟨"FaultTests$Circuit", "isFullOfGates", "()Z"⟩) ∈ UW := UW_in (lw_i4 (List.mem_of_getElem? (i := 33) rfl)) rfl
theorem mw_4_34 : (Cond.code ⟨"FaultTests$Circuit", "isFullOfGates", "()Z"⟩ prog_2_method_4_code 1 (some .boolean)) ∈ UW := UW_in (lw_i4 (List.mem_of_getElem? (i := 34) rfl)) rfl
theorem mw_4_35 : (Cond.methodLink "FaultTests$SetupReader" 108 ⟨"FaultTests$SetupReader", "kindOfWord", "()I"⟩) ∈ UW := UW_in (lw_i4 (List.mem_of_getElem? (i := 35) rfl)) rfl
theorem mw_4_37 : (Cond.instanceMethod ⟨"FaultTests$SetupReader", "kindOfWord", "()I"⟩) ∈ UW := UW_in (lw_i4 (List.mem_of_getElem? (i := 37) rfl)) rfl
theorem mw_4_38 : (Cond.code ⟨"FaultTests$SetupReader", "kindOfWord", "()I"⟩ prog_7_method_13_code 1 (some .int)) ∈ UW := UW_in (lw_i4 (List.mem_of_getElem? (i := 38) rfl)) rfl
theorem mw_4_48 : (Cond.methodLink "FaultTests$SetupReader" 112 ⟨"FaultTests$Circuit", "startGate", "(I)V"⟩) ∈ UW := UW_in (lw_i4 (List.mem_of_getElem? (i := 48) rfl)) rfl
theorem mw_4_49 : (Cond.instanceMethod ⟨"FaultTests$Circuit", "startGate", "(I)V"⟩) ∈ UW := UW_in (lw_i4 (List.mem_of_getElem? (i := 49) rfl)) rfl
theorem mw_4_50 : (Cond.selects "FaultTests$Circuit" ⟨"FaultTests$Circuit", "startGate", "(I)V"⟩ ⟨"FaultTests$Circuit", "startGate", "(I)V"⟩) ∈ UW := UW_in (lw_i4 (List.mem_of_getElem? (i := 50) rfl)) rfl
theorem mw_4_51 : (Cond.code ⟨"FaultTests$Circuit", "startGate", "(I)V"⟩ prog_2_method_7_code 2 none) ∈ UW := UW_in (lw_i4 (List.mem_of_getElem? (i := 51) rfl)) rfl
theorem mw_4_54 : (Cond.methodLink "FaultTests$SetupReader" 121 ⟨"FaultTests$Circuit", "putOperand", "(I)V"⟩) ∈ UW := UW_in (lw_i4 (List.mem_of_getElem? (i := 54) rfl)) rfl
theorem mw_4_55 : (Cond.instanceMethod ⟨"FaultTests$Circuit", "putOperand", "(I)V"⟩) ∈ UW := UW_in (lw_i4 (List.mem_of_getElem? (i := 55) rfl)) rfl
theorem mw_4_56 : (Cond.selects "FaultTests$Circuit" ⟨"FaultTests$Circuit", "putOperand", "(I)V"⟩ ⟨"FaultTests$Circuit", "putOperand", "(I)V"⟩) ∈ UW := UW_in (lw_i4 (List.mem_of_getElem? (i := 56) rfl)) rfl
theorem mw_4_57 : (Cond.code ⟨"FaultTests$Circuit", "putOperand", "(I)V"⟩ prog_2_method_8_code 2 none) ∈ UW := UW_in (lw_i4 (List.mem_of_getElem? (i := 57) rfl)) rfl
theorem mw_4_60 : (Cond.methodLink "FaultTests$SetupReader" 127 ⟨"FaultTests$Circuit", "endGate", "()V"⟩) ∈ UW := UW_in (lw_i4 (List.mem_of_getElem? (i := 60) rfl)) rfl
theorem mw_4_61 : (Cond.instanceMethod ⟨"FaultTests$Circuit", "endGate", "()V"⟩) ∈ UW := UW_in (lw_i4 (List.mem_of_getElem? (i := 61) rfl)) rfl
theorem mw_4_62 : (Cond.selects "FaultTests$Circuit" ⟨"FaultTests$Circuit", "endGate", "()V"⟩ ⟨"FaultTests$Circuit", "endGate", "()V"⟩) ∈ UW := UW_in (lw_i4 (List.mem_of_getElem? (i := 62) rfl)) rfl
theorem mw_4_63 : (Cond.code ⟨"FaultTests$Circuit", "endGate", "()V"⟩ prog_2_method_9_code 4 none) ∈ UW := UW_in (lw_i4 (List.mem_of_getElem? (i := 63) rfl)) rfl
theorem mw_4_65 : (Cond.methodLink "FaultTests$SetupReader" 87 ⟨"FaultTests$SetupReader", "readOutputs", "()Z"⟩) ∈ UW := UW_in (lw_i4 (List.mem_of_getElem? (i := 65) rfl)) rfl
theorem mw_4_67 : (Cond.instanceMethod ⟨"FaultTests$SetupReader", "readOutputs", "()Z"⟩) ∈ UW := UW_in (lw_i4 (List.mem_of_getElem? (i := 67) rfl)) rfl
theorem mw_4_68 : (Cond.code ⟨"FaultTests$SetupReader", "readOutputs", "()Z"⟩ prog_7_method_9_code 3 (some .boolean)) ∈ UW := UW_in (lw_i4 (List.mem_of_getElem? (i := 68) rfl)) rfl
theorem mw_4_69 : (Cond.methodLink "FaultTests$SetupReader" 130 ⟨"FaultTests$Circuit", "outputOf", "(I)I"⟩) ∈ UW := UW_in (lw_i4 (List.mem_of_getElem? (i := 69) rfl)) rfl
theorem mw_4_70 : (Cond.instanceMethod ⟨"FaultTests$Circuit", "outputOf", "(I)I"⟩) ∈ UW := UW_in (lw_i4 (List.mem_of_getElem? (i := 70) rfl)) rfl
theorem mw_4_71 : (Cond.selects "FaultTests$Circuit" ⟨"FaultTests$Circuit", "outputOf", "(I)I"⟩ ⟨"FaultTests$Circuit", "outputOf", "(I)I"⟩) ∈ UW := UW_in (lw_i4 (List.mem_of_getElem? (i := 71) rfl)) rfl
theorem mw_4_72 : (Cond.code ⟨"FaultTests$Circuit", "outputOf", "(I)I"⟩ prog_2_method_15_code 3 (some .int)) ∈ UW := UW_in (lw_i4 (List.mem_of_getElem? (i := 72) rfl)) rfl
theorem mw_4_73 : (Cond.methodLink "FaultTests$SetupReader" 134 ⟨"FaultTests$Circuit", "isFullOfOutputs", "()Z"⟩) ∈ UW := UW_in (lw_i4 (List.mem_of_getElem? (i := 73) rfl)) rfl
theorem mw_4_74 : (Cond.instanceMethod ⟨"FaultTests$Circuit", "isFullOfOutputs", "()Z"⟩) ∈ UW := UW_in (lw_i4 (List.mem_of_getElem? (i := 74) rfl)) rfl
theorem mw_4_75 : (Cond.selects "FaultTests$Circuit" ⟨"FaultTests$Circuit", "isFullOfOutputs", "()Z"⟩ ⟨"FaultTests$Circuit", "isFullOfOutputs", "()Z"⟩) ∈ UW := UW_in (lw_i4 (List.mem_of_getElem? (i := 75) rfl)) rfl
theorem mw_4_76 : (Cond.code ⟨"FaultTests$Circuit", "isFullOfOutputs", "()Z"⟩ prog_2_method_5_code 1 (some .boolean)) ∈ UW := UW_in (lw_i4 (List.mem_of_getElem? (i := 76) rfl)) rfl
theorem mw_4_77 : (Cond.methodLink "FaultTests$SetupReader" 137 ⟨"FaultTests$Circuit", "putOutput", "(I)V"⟩) ∈ UW := UW_in (lw_i4 (List.mem_of_getElem? (i := 77) rfl)) rfl
theorem mw_4_78 : (Cond.instanceMethod ⟨"FaultTests$Circuit", "putOutput", "(I)V"⟩) ∈ UW := UW_in (lw_i4 (List.mem_of_getElem? (i := 78) rfl)) rfl
theorem mw_4_79 : (Cond.selects "FaultTests$Circuit" ⟨"FaultTests$Circuit", "putOutput", "(I)V"⟩ ⟨"FaultTests$Circuit", "putOutput", "(I)V"⟩) ∈ UW := UW_in (lw_i4 (List.mem_of_getElem? (i := 79) rfl)) rfl
theorem mw_4_80 : (Cond.code ⟨"FaultTests$Circuit", "putOutput", "(I)V"⟩ prog_2_method_10_code 2 none) ∈ UW := UW_in (lw_i4 (List.mem_of_getElem? (i := 80) rfl)) rfl
theorem mw_4_82 : (Cond.methodLink "FaultTests$SetupReader" 92 ⟨"FaultTests$SetupReader", "readBridge", "()Z"⟩) ∈ UW := UW_in (lw_i4 (List.mem_of_getElem? (i := 82) rfl)) rfl
theorem mw_4_84 : (Cond.instanceMethod ⟨"FaultTests$SetupReader", "readBridge", "()Z"⟩) ∈ UW := UW_in (lw_i4 (List.mem_of_getElem? (i := 84) rfl)) rfl
theorem mw_4_85 : (Cond.code ⟨"FaultTests$SetupReader", "readBridge", "()Z"⟩ prog_7_method_10_code 4 (some .boolean)) ∈ UW := UW_in (lw_i4 (List.mem_of_getElem? (i := 85) rfl)) rfl
theorem mw_4_86 : (Cond.methodLink "FaultTests$SetupReader" 140 ⟨"FaultTests$Circuit", "isFullOfBridges", "()Z"⟩) ∈ UW := UW_in (lw_i4 (List.mem_of_getElem? (i := 86) rfl)) rfl
theorem mw_4_87 : (Cond.instanceMethod ⟨"FaultTests$Circuit", "isFullOfBridges", "()Z"⟩) ∈ UW := UW_in (lw_i4 (List.mem_of_getElem? (i := 87) rfl)) rfl
theorem mw_4_88 : (Cond.selects "FaultTests$Circuit" ⟨"FaultTests$Circuit", "isFullOfBridges", "()Z"⟩ ⟨"FaultTests$Circuit", "isFullOfBridges", "()Z"⟩) ∈ UW := UW_in (lw_i4 (List.mem_of_getElem? (i := 88) rfl)) rfl
theorem mw_4_89 : (Cond.code ⟨"FaultTests$Circuit", "isFullOfBridges", "()Z"⟩ prog_2_method_6_code 1 (some .boolean)) ∈ UW := UW_in (lw_i4 (List.mem_of_getElem? (i := 89) rfl)) rfl
theorem mw_4_90 : (Cond.methodLink "FaultTests$SetupReader" 143 ⟨"FaultTests$SetupReader", "isKnownWire", "()Z"⟩) ∈ UW := UW_in (lw_i4 (List.mem_of_getElem? (i := 90) rfl)) rfl
theorem mw_4_92 : (Cond.instanceMethod ⟨"FaultTests$SetupReader", "isKnownWire", "()Z"⟩) ∈ UW := UW_in (lw_i4 (List.mem_of_getElem? (i := 92) rfl)) rfl
theorem mw_4_93 : (Cond.code ⟨"FaultTests$SetupReader", "isKnownWire", "()Z"⟩ prog_7_method_11_code 1 (some .boolean)) ∈ UW := UW_in (lw_i4 (List.mem_of_getElem? (i := 93) rfl)) rfl
theorem mw_4_94 : (Cond.methodLink "FaultTests$SetupReader" 146 ⟨"FaultTests$Circuit", "wouldLoop", "(II)Z"⟩) ∈ UW := UW_in (lw_i4 (List.mem_of_getElem? (i := 94) rfl)) rfl
theorem mw_4_95 : (Cond.instanceMethod ⟨"FaultTests$Circuit", "wouldLoop", "(II)Z"⟩) ∈ UW := UW_in (lw_i4 (List.mem_of_getElem? (i := 95) rfl)) rfl
theorem mw_4_96 : (Cond.selects "FaultTests$Circuit" ⟨"FaultTests$Circuit", "wouldLoop", "(II)Z"⟩ ⟨"FaultTests$Circuit", "wouldLoop", "(II)Z"⟩) ∈ UW := UW_in (lw_i4 (List.mem_of_getElem? (i := 96) rfl)) rfl
theorem mw_4_97 : (Cond.code ⟨"FaultTests$Circuit", "wouldLoop", "(II)Z"⟩ prog_2_method_12_code 3 (some .boolean)) ∈ UW := UW_in (lw_i4 (List.mem_of_getElem? (i := 97) rfl)) rfl
theorem mw_4_98 : (Cond.methodLink "FaultTests$Circuit" 71 ⟨"FaultTests$Circuit", "hasBit", "(II)Z"⟩) ∈ UW := UW_in (lw_i4 (List.mem_of_getElem? (i := 98) rfl)) rfl
theorem mw_4_99 : (Cond.methodLink "FaultTests$SetupReader" 150 ⟨"FaultTests$Circuit", "putBridge", "(III)V"⟩) ∈ UW := UW_in (lw_i4 (List.mem_of_getElem? (i := 99) rfl)) rfl
theorem mw_4_100 : (Cond.instanceMethod ⟨"FaultTests$Circuit", "putBridge", "(III)V"⟩) ∈ UW := UW_in (lw_i4 (List.mem_of_getElem? (i := 100) rfl)) rfl
theorem mw_4_101 : (Cond.selects "FaultTests$Circuit" ⟨"FaultTests$Circuit", "putBridge", "(III)V"⟩ ⟨"FaultTests$Circuit", "putBridge", "(III)V"⟩) ∈ UW := UW_in (lw_i4 (List.mem_of_getElem? (i := 101) rfl)) rfl
theorem mw_4_102 : (Cond.code ⟨"FaultTests$Circuit", "putBridge", "(III)V"⟩ prog_2_method_11_code 4 none) ∈ UW := UW_in (lw_i4 (List.mem_of_getElem? (i := 102) rfl)) rfl
theorem mw_4_104 : (Cond.methodLink "FaultTests$SetupReader" 97 ⟨"FaultTests$SetupReader", "readTest", "()Z"⟩) ∈ UW := UW_in (lw_i4 (List.mem_of_getElem? (i := 104) rfl)) rfl
theorem mw_4_106 : (Cond.instanceMethod ⟨"FaultTests$SetupReader", "readTest", "()Z"⟩) ∈ UW := UW_in (lw_i4 (List.mem_of_getElem? (i := 106) rfl)) rfl
theorem mw_4_107 : (Cond.code ⟨"FaultTests$SetupReader", "readTest", "()Z"⟩ prog_7_method_12_code 4 (some .boolean)) ∈ UW := UW_in (lw_i4 (List.mem_of_getElem? (i := 107) rfl)) rfl
theorem mw_4_108 : (Cond.methodLink "FaultTests$SetupReader" 158 ⟨"FaultTests$TestList", "isFull", "()Z"⟩) ∈ UW := UW_in (lw_i4 (List.mem_of_getElem? (i := 108) rfl)) rfl
theorem mw_4_109 : (Cond.instanceMethod ⟨"FaultTests$TestList", "isFull", "()Z"⟩) ∈ UW := UW_in (lw_i4 (List.mem_of_getElem? (i := 109) rfl)) rfl
theorem mw_4_110 : (Cond.selects "FaultTests$TestList" ⟨"FaultTests$TestList", "isFull", "()Z"⟩ ⟨"FaultTests$TestList", "isFull", "()Z"⟩) ∈ UW := UW_in (lw_i4 (List.mem_of_getElem? (i := 110) rfl)) rfl
theorem mw_4_111 : (Cond.code ⟨"FaultTests$TestList", "isFull", "()Z"⟩ prog_8_method_5_code 1 (some .boolean)) ∈ UW := UW_in (lw_i4 (List.mem_of_getElem? (i := 111) rfl)) rfl
theorem mw_4_113 : (Cond.methodLink "FaultTests$SetupReader" 168 ⟨"FaultTests$TestList", "put", "(II)V"⟩) ∈ UW := UW_in (lw_i4 (List.mem_of_getElem? (i := 113) rfl)) rfl
theorem mw_4_114 : (Cond.methodLink "FaultTests" 91 ⟨"FaultTests$Setup", "copyFrom", "(LFaultTests$Setup;)V"⟩) ∈ UW := UW_in (lw_i4 (List.mem_of_getElem? (i := 114) rfl)) rfl
theorem mw_4_115 : (Cond.methodLink "FaultTests" 94 ⟨"FaultTests", "forgetRows", "()V"⟩) ∈ UW := UW_in (lw_i4 (List.mem_of_getElem? (i := 115) rfl)) rfl
theorem mw_4_117 : (Cond.instanceMethod ⟨"FaultTests", "forgetRows", "()V"⟩) ∈ UW := UW_in (lw_i4 (List.mem_of_getElem? (i := 117) rfl)) rfl
theorem mw_4_118 : (Cond.code ⟨"FaultTests", "forgetRows", "()V"⟩ prog_1_method_38_code 1 none) ∈ UW := UW_in (lw_i4 (List.mem_of_getElem? (i := 118) rfl)) rfl
theorem mw_4_119 : (Cond.methodLink "FaultTestsLaw" 138 ⟨"FaultTestsLaw", "isTest", "(LFaultTests;LFaultTestsLaw$Model;I[I)Z"⟩) ∈ UW := UW_in (lw_i4 (List.mem_of_getElem? (i := 119) rfl)) rfl
theorem mw_4_120 : (Cond.static ⟨"FaultTestsLaw", "isTest", "(LFaultTests;LFaultTestsLaw$Model;I[I)Z"⟩) ∈ UW := UW_in (lw_i4 (List.mem_of_getElem? (i := 120) rfl)) rfl
theorem mw_4_121 : (Cond.code ⟨"FaultTestsLaw", "isTest", "(LFaultTests;LFaultTestsLaw$Model;I[I)Z"⟩ method_8_code 10 (some .boolean)) ∈ UW := UW_in (lw_i4 (List.mem_of_getElem? (i := 121) rfl)) rfl
theorem mw_4_122 : (Cond.methodLink "FaultTestsLaw" 34 ⟨"FaultTestsLaw$Model", "values", "([II)[I"⟩) ∈ UW := UW_in (lw_i4 (List.mem_of_getElem? (i := 122) rfl)) rfl
theorem mw_4_123 : (Cond.methodLink "FaultTestsLaw" 47 ⟨"FaultTests", "value", "(II)I"⟩) ∈ UW := UW_in (lw_i4 (List.mem_of_getElem? (i := 123) rfl)) rfl
theorem mw_4_124 : (Cond.instanceMethod ⟨"FaultTests", "value", "(II)I"⟩) ∈ UW := UW_in (lw_i4 (List.mem_of_getElem? (i := 124) rfl)) rfl
theorem mw_4_125 : (Cond.selects "FaultTests" ⟨"FaultTests", "value", "(II)I"⟩ ⟨"FaultTests", "value", "(II)I"⟩) ∈ UW := UW_in (lw_i4 (List.mem_of_getElem? (i := 125) rfl)) rfl
theorem mw_4_126 : (Cond.code ⟨"FaultTests", "value", "(II)I"⟩ prog_1_method_8_code 3 (some .int)) ∈ UW := UW_in (lw_i4 (List.mem_of_getElem? (i := 126) rfl)) rfl
theorem mw_4_127 : (Cond.methodLink "FaultTests" 174 ⟨"FaultTests", "checkTest", "(I)V"⟩) ∈ UW := UW_in (lw_i4 (List.mem_of_getElem? (i := 127) rfl)) rfl
theorem mw_4_129 : (Cond.instanceMethod ⟨"FaultTests", "checkTest", "(I)V"⟩) ∈ UW := UW_in (lw_i4 (List.mem_of_getElem? (i := 129) rfl)) rfl
theorem mw_4_130 : (Cond.code ⟨"FaultTests", "checkTest", "(I)V"⟩ prog_1_method_34_code 2 none) ∈ UW := UW_in (lw_i4 (List.mem_of_getElem? (i := 130) rfl)) rfl
theorem mw_4_132 : (Cond.methodLink "FaultTests" 149 ⟨"FaultTests", "checkWire", "(I)V"⟩) ∈ UW := UW_in (lw_i4 (List.mem_of_getElem? (i := 132) rfl)) rfl
theorem mw_4_134 : (Cond.instanceMethod ⟨"FaultTests", "checkWire", "(I)V"⟩) ∈ UW := UW_in (lw_i4 (List.mem_of_getElem? (i := 134) rfl)) rfl
theorem mw_4_135 : (Cond.code ⟨"FaultTests", "checkWire", "(I)V"⟩ prog_1_method_33_code 2 none) ∈ UW := UW_in (lw_i4 (List.mem_of_getElem? (i := 135) rfl)) rfl
theorem mw_4_137 : (Cond.methodLink "FaultTests" 184 ⟨"FaultTests$Lanes", "lane", "(II)I"⟩) ∈ UW := UW_in (lw_i4 (List.mem_of_getElem? (i := 137) rfl)) rfl
theorem mw_4_138 : (Cond.instanceMethod ⟨"FaultTests$Lanes", "lane", "(II)I"⟩) ∈ UW := UW_in (lw_i4 (List.mem_of_getElem? (i := 138) rfl)) rfl
theorem mw_4_139 : (Cond.selects "FaultTests$Lanes" ⟨"FaultTests$Lanes", "lane", "(II)I"⟩ ⟨"FaultTests$Lanes", "lane", "(II)I"⟩) ∈ UW := UW_in (lw_i4 (List.mem_of_getElem? (i := 139) rfl)) rfl
theorem mw_4_140 : (Cond.code ⟨"FaultTests$Lanes", "lane", "(II)I"⟩ prog_4_method_2_code 3 (some .int)) ∈ UW := UW_in (lw_i4 (List.mem_of_getElem? (i := 140) rfl)) rfl
theorem mw_4_142 : (Cond.static ⟨"FaultTests", "hasLane", "(JI)Z"⟩) ∈ UW := UW_in (lw_i4 (List.mem_of_getElem? (i := 142) rfl)) rfl
theorem mw_4_143 : (Cond.code ⟨"FaultTests", "hasLane", "(JI)Z"⟩ prog_1_method_37_code 3 (some .boolean)) ∈ UW := UW_in (lw_i4 (List.mem_of_getElem? (i := 143) rfl)) rfl
theorem mw_4_144 : (Cond.methodLink "FaultTestsLaw" 51 ⟨"FaultTestsLaw", "toldOf", "(I)I"⟩) ∈ UW := UW_in (lw_i4 (List.mem_of_getElem? (i := 144) rfl)) rfl
theorem mw_4_145 : (Cond.static ⟨"FaultTestsLaw", "toldOf", "(I)I"⟩) ∈ UW := UW_in (lw_i4 (List.mem_of_getElem? (i := 145) rfl)) rfl
theorem mw_4_146 : (Cond.code ⟨"FaultTestsLaw", "toldOf", "(I)I"⟩ method_7_code 1 (some .int)) ∈ UW := UW_in (lw_i4 (List.mem_of_getElem? (i := 146) rfl)) rfl
theorem mw_4_147 : (Cond.methodLink "FaultTestsLaw" 54 ⟨"FaultTests", "faulty", "(III)I"⟩) ∈ UW := UW_in (lw_i4 (List.mem_of_getElem? (i := 147) rfl)) rfl
theorem mw_4_148 : (Cond.instanceMethod ⟨"FaultTests", "faulty", "(III)I"⟩) ∈ UW := UW_in (lw_i4 (List.mem_of_getElem? (i := 148) rfl)) rfl
theorem mw_4_149 : (Cond.selects "FaultTests" ⟨"FaultTests", "faulty", "(III)I"⟩ ⟨"FaultTests", "faulty", "(III)I"⟩) ∈ UW := UW_in (lw_i4 (List.mem_of_getElem? (i := 149) rfl)) rfl
theorem mw_4_150 : (Cond.code ⟨"FaultTests", "faulty", "(III)I"⟩ prog_1_method_9_code 4 (some .int)) ∈ UW := UW_in (lw_i4 (List.mem_of_getElem? (i := 150) rfl)) rfl
theorem mw_4_151 : (Cond.methodLink "FaultTests" 196 ⟨"FaultTests$Lanes", "runFault", "(LFaultTests$Circuit;LFaultTests$Lanes;I)V"⟩) ∈ UW := UW_in (lw_i4 (List.mem_of_getElem? (i := 151) rfl)) rfl
theorem mw_4_152 : (Cond.methodLink "FaultTestsLaw" 57 ⟨"FaultTests", "finds", "(II)I"⟩) ∈ UW := UW_in (lw_i4 (List.mem_of_getElem? (i := 152) rfl)) rfl
theorem mw_4_153 : (Cond.instanceMethod ⟨"FaultTests", "finds", "(II)I"⟩) ∈ UW := UW_in (lw_i4 (List.mem_of_getElem? (i := 153) rfl)) rfl
theorem mw_4_154 : (Cond.selects "FaultTests" ⟨"FaultTests", "finds", "(II)I"⟩ ⟨"FaultTests", "finds", "(II)I"⟩) ∈ UW := UW_in (lw_i4 (List.mem_of_getElem? (i := 154) rfl)) rfl
theorem mw_4_155 : (Cond.code ⟨"FaultTests", "finds", "(II)I"⟩ prog_1_method_10_code 3 (some .int)) ∈ UW := UW_in (lw_i4 (List.mem_of_getElem? (i := 155) rfl)) rfl
theorem mw_4_156 : (Cond.methodLink "FaultTests" 204 ⟨"FaultTests", "hasLane", "(JI)Z"⟩) ∈ UW := UW_in (lw_i4 (List.mem_of_getElem? (i := 156) rfl)) rfl
theorem mw_4_157 : (Cond.methodLink "FaultTests" 208 ⟨"FaultTests$Rows", "blurred", "(LFaultTests$Circuit;II)J"⟩) ∈ UW := UW_in (lw_i4 (List.mem_of_getElem? (i := 157) rfl)) rfl
theorem mw_4_158 : (Cond.instanceMethod ⟨"FaultTests$Rows", "blurred", "(LFaultTests$Circuit;II)J"⟩) ∈ UW := UW_in (lw_i4 (List.mem_of_getElem? (i := 158) rfl)) rfl
theorem mw_4_159 : (Cond.selects "FaultTests$Rows" ⟨"FaultTests$Rows", "blurred", "(LFaultTests$Circuit;II)J"⟩ ⟨"FaultTests$Rows", "blurred", "(LFaultTests$Circuit;II)J"⟩) ∈ UW := UW_in (lw_i4 (List.mem_of_getElem? (i := 159) rfl)) rfl
theorem mw_4_160 : (Cond.code ⟨"FaultTests$Rows", "blurred", "(LFaultTests$Circuit;II)J"⟩ prog_5_method_6_code 9 (some .long)) ∈ UW := UW_in (lw_i4 (List.mem_of_getElem? (i := 160) rfl)) rfl
theorem mw_4_161 : (Cond.constantLong "FaultTests$Rows" 63 (-1 : Int64)) ∈ UW := UW_in (lw_i4 (List.mem_of_getElem? (i := 161) rfl)) rfl
theorem mw_4_162 : (Cond.methodLink "FaultTestsLaw" 63 ⟨"FaultTests", "worth", "(I)I"⟩) ∈ UW := UW_in (lw_i4 (List.mem_of_getElem? (i := 162) rfl)) rfl
theorem mw_4_163 : (Cond.instanceMethod ⟨"FaultTests", "worth", "(I)I"⟩) ∈ UW := UW_in (lw_i4 (List.mem_of_getElem? (i := 163) rfl)) rfl
theorem mw_4_164 : (Cond.selects "FaultTests" ⟨"FaultTests", "worth", "(I)I"⟩ ⟨"FaultTests", "worth", "(I)I"⟩) ∈ UW := UW_in (lw_i4 (List.mem_of_getElem? (i := 164) rfl)) rfl
theorem mw_4_165 : (Cond.code ⟨"FaultTests", "worth", "(I)I"⟩ prog_1_method_12_code 2 (some .int)) ∈ UW := UW_in (lw_i4 (List.mem_of_getElem? (i := 165) rfl)) rfl
theorem mw_4_166 : (Cond.classLink "FaultTestsLaw" 75 "java/lang/StringBuilder") ∈ UW := UW_in (lw_i4 (List.mem_of_getElem? (i := 166) rfl)) rfl
theorem mw_4_167 : (Cond.instantiable "java/lang/StringBuilder" 4) ∈ UW := UW_in (lw_i4 (List.mem_of_getElem? (i := 167) rfl)) rfl
theorem mw_4_168 : (Cond.methodLink "FaultTestsLaw" 77 ⟨"java/lang/StringBuilder", "<init>", "()V"⟩) ∈ UW := UW_in (lw_i4 (List.mem_of_getElem? (i := 168) rfl)) rfl
theorem mw_4_169 : (Cond.instanceMethod ⟨"java/lang/StringBuilder", "<init>", "()V"⟩) ∈ UW := UW_in (lw_i4 (List.mem_of_getElem? (i := 169) rfl)) rfl
theorem mw_4_170 : (Cond.code ⟨"java/lang/StringBuilder", "<init>", "()V"⟩ prog_24_method_1_code 1 none) ∈ UW := UW_in (lw_i4 (List.mem_of_getElem? (i := 170) rfl)) rfl
theorem mw_4_171 : (Cond.methodLink "java/lang/StringBuilder" 1 ⟨"java/lang/AbstractStringBuilder", "<init>", "(I)V"⟩) ∈ UW := UW_in (lw_i4 (List.mem_of_getElem? (i := 171) rfl)) rfl
theorem mw_4_172 : (Cond.instanceMethod ⟨"java/lang/AbstractStringBuilder", "<init>", "(I)V"⟩) ∈ UW := UW_in (lw_i4 (List.mem_of_getElem? (i := 172) rfl)) rfl
theorem mw_4_173 : (Cond.code ⟨"java/lang/AbstractStringBuilder", "<init>", "(I)V"⟩ prog_12_method_2_code 2 none) ∈ UW := UW_in (lw_i4 (List.mem_of_getElem? (i := 173) rfl)) rfl
theorem mw_4_174 : (Cond.methodLink "java/lang/AbstractStringBuilder" 3 ⟨"java/lang/Object", "<init>", "()V"⟩) ∈ UW := UW_in (lw_i4 (List.mem_of_getElem? (i := 174) rfl)) rfl
theorem mw_4_175 : (Cond.fieldLink "java/lang/AbstractStringBuilder" 18 "java/lang/String" "COMPACT_STRINGS" "Z") ∈ UW := UW_in (lw_i4 (List.mem_of_getElem? (i := 175) rfl)) rfl
theorem mw_4_176 : (Cond.methodLink "java/lang/AbstractStringBuilder" 26 ⟨"java/lang/StringUTF16", "newBytesFor", "(I)[B"⟩) ∈ UW := UW_in (lw_i4 (List.mem_of_getElem? (i := 176) rfl)) rfl
theorem mw_4_177 : (Cond.static ⟨"java/lang/StringUTF16", "newBytesFor", "(I)[B"⟩) ∈ UW := UW_in (lw_i4 (List.mem_of_getElem? (i := 177) rfl)) rfl
theorem mw_4_178 : (Cond.code ⟨"java/lang/StringUTF16", "newBytesFor", "(I)[B"⟩ prog_26_method_2_code 1 (some (.array .byte))) ∈ UW := UW_in (lw_i4 (List.mem_of_getElem? (i := 178) rfl)) rfl
theorem mw_4_179 : (Cond.methodLink "java/lang/StringUTF16" 11 ⟨"java/lang/StringUTF16", "newBytesLength", "(I)I"⟩) ∈ UW := UW_in (lw_i4 (List.mem_of_getElem? (i := 179) rfl)) rfl
theorem mw_4_180 : (Cond.static ⟨"java/lang/StringUTF16", "newBytesLength", "(I)I"⟩) ∈ UW := UW_in (lw_i4 (List.mem_of_getElem? (i := 180) rfl)) rfl
theorem mw_4_181 : (Cond.code ⟨"java/lang/StringUTF16", "newBytesLength", "(I)I"⟩ prog_26_method_3_code 1 (some .int)) ∈ UW := UW_in (lw_i4 (List.mem_of_getElem? (i := 181) rfl)) rfl
theorem mw_4_182 : (Cond.constant "java/lang/StringUTF16" 20 (1073741823 : Int32)) ∈ UW := UW_in (lw_i4 (List.mem_of_getElem? (i := 182) rfl)) rfl
theorem mw_4_183 : (Cond.fieldLink "java/lang/AbstractStringBuilder" 15 "java/lang/AbstractStringBuilder" "value" "[B") ∈ UW := UW_in (lw_i4 (List.mem_of_getElem? (i := 183) rfl)) rfl
theorem mw_4_184 : (Cond.fieldLink "java/lang/AbstractStringBuilder" 22 "java/lang/AbstractStringBuilder" "coder" "B") ∈ UW := UW_in (lw_i4 (List.mem_of_getElem? (i := 184) rfl)) rfl
theorem mw_4_185 : (Cond.fieldLink "java/lang/String" 1048 "java/lang/AbstractStringBuilder" "maybeLatin1" "Z") ∈ UW := UW_in (lw_i4 (List.mem_of_getElem? (i := 185) rfl)) rfl
theorem mw_4_186 : (Cond.fieldLink "java/lang/AbstractStringBuilder" 79 "java/lang/AbstractStringBuilder" "count" "I") ∈ UW := UW_in (lw_i4 (List.mem_of_getElem? (i := 186) rfl)) rfl
theorem mw_4_187 : (Cond.lays "java/lang/StringBuilder" "java/lang/AbstractStringBuilder" "value" "[B") ∈ UW := UW_in (lw_i4 (List.mem_of_getElem? (i := 187) rfl)) rfl
theorem mw_4_189 : (Cond.lays "java/lang/StringBuilder" "java/lang/AbstractStringBuilder" "coder" "B") ∈ UW := UW_in (lw_i4 (List.mem_of_getElem? (i := 189) rfl)) rfl
theorem mw_4_191 : (Cond.lays "java/lang/StringBuilder" "java/lang/AbstractStringBuilder" "maybeLatin1" "Z") ∈ UW := UW_in (lw_i4 (List.mem_of_getElem? (i := 191) rfl)) rfl
theorem mw_4_193 : (Cond.lays "java/lang/StringBuilder" "java/lang/AbstractStringBuilder" "count" "I") ∈ UW := UW_in (lw_i4 (List.mem_of_getElem? (i := 193) rfl)) rfl
theorem mw_4_195 : (Cond.superclass "java/lang/StringBuilder" "java/lang/AbstractStringBuilder") ∈ UW := UW_in (lw_i4 (List.mem_of_getElem? (i := 195) rfl)) rfl
theorem mw_4_196 : (Cond.methodLink "FaultTestsLaw" 92 ⟨"java/lang/StringBuilder", "<init>", "(Ljava/lang/String;)V"⟩) ∈ UW := UW_in (lw_i4 (List.mem_of_getElem? (i := 196) rfl)) rfl
theorem mw_4_197 : (Cond.instanceMethod ⟨"java/lang/StringBuilder", "<init>", "(Ljava/lang/String;)V"⟩) ∈ UW := UW_in (lw_i4 (List.mem_of_getElem? (i := 197) rfl)) rfl
theorem mw_4_198 : (Cond.code ⟨"java/lang/StringBuilder", "<init>", "(Ljava/lang/String;)V"⟩ prog_24_method_3_code 2 none) ∈ UW := UW_in (lw_i4 (List.mem_of_getElem? (i := 198) rfl)) rfl
theorem mw_4_199 : (Cond.methodLink "java/lang/StringBuilder" 7 ⟨"java/lang/AbstractStringBuilder", "<init>", "(Ljava/lang/String;)V"⟩) ∈ UW := UW_in (lw_i4 (List.mem_of_getElem? (i := 199) rfl)) rfl
theorem mw_4_200 : (Cond.instanceMethod ⟨"java/lang/AbstractStringBuilder", "<init>", "(Ljava/lang/String;)V"⟩) ∈ UW := UW_in (lw_i4 (List.mem_of_getElem? (i := 200) rfl)) rfl
theorem mw_4_201 : (Cond.code ⟨"java/lang/AbstractStringBuilder", "<init>", "(Ljava/lang/String;)V"⟩ prog_12_method_3_code 5 none) ∈ UW := UW_in (lw_i4 (List.mem_of_getElem? (i := 201) rfl)) rfl
theorem mw_4_202 : (Cond.methodLink "java/lang/AbstractStringBuilder" 32 ⟨"java/lang/String", "length", "()I"⟩) ∈ UW := UW_in (lw_i4 (List.mem_of_getElem? (i := 202) rfl)) rfl
theorem mw_4_203 : (Cond.constant "java/lang/AbstractStringBuilder" 38 (2147483631 : Int32)) ∈ UW := UW_in (lw_i4 (List.mem_of_getElem? (i := 203) rfl)) rfl
theorem mw_4_204 : (Cond.constant "java/lang/AbstractStringBuilder" 39 (2147483647 : Int32)) ∈ UW := UW_in (lw_i4 (List.mem_of_getElem? (i := 204) rfl)) rfl
theorem mw_4_205 : (Cond.methodLink "java/lang/AbstractStringBuilder" 40 ⟨"java/lang/String", "coder", "()B"⟩) ∈ UW := UW_in (lw_i4 (List.mem_of_getElem? (i := 205) rfl)) rfl
theorem mw_4_206 : (Cond.methodLink "java/lang/AbstractStringBuilder" 43 ⟨"java/lang/AbstractStringBuilder", "append", "(Ljava/lang/String;)Ljava/lang/AbstractStringBuilder;"⟩) ∈ UW := UW_in (lw_i4 (List.mem_of_getElem? (i := 206) rfl)) rfl
theorem mw_4_207 : (Cond.instanceMethod ⟨"java/lang/AbstractStringBuilder", "append", "(Ljava/lang/String;)Ljava/lang/AbstractStringBuilder;"⟩) ∈ UW := UW_in (lw_i4 (List.mem_of_getElem? (i := 207) rfl)) rfl
theorem mw_4_208 : (Cond.sameMethod "java/lang/AbstractStringBuilder" "java/lang/AbstractStringBuilder" "append" "(Ljava/lang/String;)Ljava/lang/AbstractStringBuilder;") ∈ UW := UW_in (lw_i4 (List.mem_of_getElem? (i := 208) rfl)) rfl
theorem mw_4_209 : (Cond.selects "java/lang/StringBuilder" ⟨"java/lang/AbstractStringBuilder", "append", "(Ljava/lang/String;)Ljava/lang/AbstractStringBuilder;"⟩ ⟨"java/lang/StringBuilder", "append", "(Ljava/lang/String;)Ljava/lang/AbstractStringBuilder;"⟩) ∈ UW := UW_in (lw_i4 (List.mem_of_getElem? (i := 209) rfl)) rfl
theorem mw_4_210 : (Cond.instanceMethod ⟨"java/lang/StringBuilder", "append", "(Ljava/lang/String;)Ljava/lang/AbstractStringBuilder;"⟩) ∈ UW := UW_in (lw_i4 (List.mem_of_getElem? (i := 210) rfl)) rfl
theorem mw_4_211 : (Cond.code ⟨"java/lang/StringBuilder", "append", "(Ljava/lang/String;)Ljava/lang/AbstractStringBuilder;"⟩ prog_24_method_80_code 2 (some (.object "java/lang/AbstractStringBuilder"))) ∈ UW := UW_in (lw_i4 (List.mem_of_getElem? (i := 211) rfl)) rfl
theorem mw_4_212 : (Cond.methodLink "java/lang/StringBuilder" 23 ⟨"java/lang/StringBuilder", "append", "(Ljava/lang/String;)Ljava/lang/StringBuilder;"⟩) ∈ UW := UW_in (lw_i4 (List.mem_of_getElem? (i := 212) rfl)) rfl
theorem mw_4_213 : (Cond.instanceMethod ⟨"java/lang/StringBuilder", "append", "(Ljava/lang/String;)Ljava/lang/StringBuilder;"⟩) ∈ UW := UW_in (lw_i4 (List.mem_of_getElem? (i := 213) rfl)) rfl
theorem mw_4_214 : (Cond.selects "java/lang/StringBuilder" ⟨"java/lang/StringBuilder", "append", "(Ljava/lang/String;)Ljava/lang/StringBuilder;"⟩ ⟨"java/lang/StringBuilder", "append", "(Ljava/lang/String;)Ljava/lang/StringBuilder;"⟩) ∈ UW := UW_in (lw_i4 (List.mem_of_getElem? (i := 214) rfl)) rfl
theorem mw_4_215 : (Cond.code ⟨"java/lang/StringBuilder", "append", "(Ljava/lang/String;)Ljava/lang/StringBuilder;"⟩ prog_24_method_7_code 2 (some (.object "java/lang/StringBuilder"))) ∈ UW := UW_in (lw_i4 (List.mem_of_getElem? (i := 215) rfl)) rfl
theorem mw_4_216 : (Cond.methodLink "java/lang/StringBuilder" 29 ⟨"java/lang/AbstractStringBuilder", "append", "(Ljava/lang/String;)Ljava/lang/AbstractStringBuilder;"⟩) ∈ UW := UW_in (lw_i4 (List.mem_of_getElem? (i := 216) rfl)) rfl
theorem mw_4_217 : (Cond.code ⟨"java/lang/AbstractStringBuilder", "append", "(Ljava/lang/String;)Ljava/lang/AbstractStringBuilder;"⟩ prog_12_method_22_code 3 (some (.object "java/lang/AbstractStringBuilder"))) ∈ UW := UW_in (lw_i4 (List.mem_of_getElem? (i := 217) rfl)) rfl
theorem mw_4_218 : (Cond.methodLink "java/lang/AbstractStringBuilder" 204 ⟨"java/lang/AbstractStringBuilder", "appendNull", "()Ljava/lang/AbstractStringBuilder;"⟩) ∈ UW := UW_in (lw_i4 (List.mem_of_getElem? (i := 218) rfl)) rfl
theorem mw_4_220 : (Cond.instanceMethod ⟨"java/lang/AbstractStringBuilder", "appendNull", "()Ljava/lang/AbstractStringBuilder;"⟩) ∈ UW := UW_in (lw_i4 (List.mem_of_getElem? (i := 220) rfl)) rfl
theorem mw_4_221 : (Cond.code ⟨"java/lang/AbstractStringBuilder", "appendNull", "()Ljava/lang/AbstractStringBuilder;"⟩ prog_12_method_26_code 3 (some (.object "java/lang/AbstractStringBuilder"))) ∈ UW := UW_in (lw_i4 (List.mem_of_getElem? (i := 221) rfl)) rfl
theorem mw_4_222 : (Cond.methodLink "java/lang/AbstractStringBuilder" 100 ⟨"java/lang/AbstractStringBuilder", "ensureCapacityInternal", "(I)V"⟩) ∈ UW := UW_in (lw_i4 (List.mem_of_getElem? (i := 222) rfl)) rfl
theorem mw_4_224 : (Cond.instanceMethod ⟨"java/lang/AbstractStringBuilder", "ensureCapacityInternal", "(I)V"⟩) ∈ UW := UW_in (lw_i4 (List.mem_of_getElem? (i := 224) rfl)) rfl
theorem mw_4_225 : (Cond.code ⟨"java/lang/AbstractStringBuilder", "ensureCapacityInternal", "(I)V"⟩ prog_12_method_9_code 3 none) ∈ UW := UW_in (lw_i4 (List.mem_of_getElem? (i := 225) rfl)) rfl
theorem mw_4_226 : (Cond.methodLink "java/lang/AbstractStringBuilder" 104 ⟨"java/lang/AbstractStringBuilder", "newCapacity", "(I)I"⟩) ∈ UW := UW_in (lw_i4 (List.mem_of_getElem? (i := 226) rfl)) rfl
theorem mw_4_228 : (Cond.instanceMethod ⟨"java/lang/AbstractStringBuilder", "newCapacity", "(I)I"⟩) ∈ UW := UW_in (lw_i4 (List.mem_of_getElem? (i := 228) rfl)) rfl
theorem mw_4_229 : (Cond.code ⟨"java/lang/AbstractStringBuilder", "newCapacity", "(I)I"⟩ prog_12_method_10_code 6 (some .int)) ∈ UW := UW_in (lw_i4 (List.mem_of_getElem? (i := 229) rfl)) rfl
theorem mw_4_230 : (Cond.methodLink "java/lang/AbstractStringBuilder" 114 ⟨"jdk/internal/util/ArraysSupport", "newLength", "(III)I"⟩) ∈ UW := UW_in (lw_i4 (List.mem_of_getElem? (i := 230) rfl)) rfl
theorem mw_4_231 : (Cond.static ⟨"jdk/internal/util/ArraysSupport", "newLength", "(III)I"⟩) ∈ UW := UW_in (lw_i4 (List.mem_of_getElem? (i := 231) rfl)) rfl
theorem mw_4_232 : (Cond.code ⟨"jdk/internal/util/ArraysSupport", "newLength", "(III)I"⟩ prog_30_method_27_code 4 (some .int)) ∈ UW := UW_in (lw_i4 (List.mem_of_getElem? (i := 232) rfl)) rfl
theorem mw_4_233 : (Cond.methodLink "jdk/internal/util/ArraysSupport" 194 ⟨"java/lang/Math", "max", "(II)I"⟩) ∈ UW := UW_in (lw_i4 (List.mem_of_getElem? (i := 233) rfl)) rfl
theorem mw_4_234 : (Cond.constant "jdk/internal/util/ArraysSupport" 200 (2147483639 : Int32)) ∈ UW := UW_in (lw_i4 (List.mem_of_getElem? (i := 234) rfl)) rfl
theorem mw_4_235 : (Cond.methodLink "jdk/internal/util/ArraysSupport" 201 ⟨"jdk/internal/util/ArraysSupport", "hugeLength", "(II)I"⟩) ∈ UW := UW_in (lw_i4 (List.mem_of_getElem? (i := 235) rfl)) rfl
theorem mw_4_236 : (Cond.static ⟨"jdk/internal/util/ArraysSupport", "hugeLength", "(II)I"⟩) ∈ UW := UW_in (lw_i4 (List.mem_of_getElem? (i := 236) rfl)) rfl
theorem mw_4_237 : (Cond.code ⟨"jdk/internal/util/ArraysSupport", "hugeLength", "(II)I"⟩ prog_30_method_28_code 3 (some .int)) ∈ UW := UW_in (lw_i4 (List.mem_of_getElem? (i := 237) rfl)) rfl
theorem mw_4_238 : (Cond.methodLink "java/lang/AbstractStringBuilder" 108 ⟨"java/util/Arrays", "copyOf", "([BI)[B"⟩) ∈ UW := UW_in (lw_i4 (List.mem_of_getElem? (i := 238) rfl)) rfl
theorem mw_4_239 : (Cond.static ⟨"java/util/Arrays", "copyOf", "([BI)[B"⟩) ∈ UW := UW_in (lw_i4 (List.mem_of_getElem? (i := 239) rfl)) rfl
theorem mw_5_0 : (Cond.code ⟨"java/util/Arrays", "copyOf", "([BI)[B"⟩ prog_29_method_121_code 3 (some (.array .byte))) ∈ UW := UW_in (lw_i5 (List.mem_of_getElem? (i := 0) rfl)) rfl
theorem mw_5_1 : (Cond.methodLink "java/util/Arrays" 310 ⟨"[B", "clone", "()Ljava/lang/Object;"⟩) ∈ UW := UW_in (lw_i5 (List.mem_of_getElem? (i := 1) rfl)) rfl
theorem mw_5_2 : (Cond.sameMethod "[B" "java/lang/Object" "clone" "()Ljava/lang/Object;") ∈ UW := UW_in (lw_i5 (List.mem_of_getElem? (i := 2) rfl)) rfl
theorem mw_5_3 : (Cond.native ⟨"java/lang/Object", "clone", "()Ljava/lang/Object;"⟩) ∈ UW := UW_in (lw_i5 (List.mem_of_getElem? (i := 3) rfl)) rfl
theorem mw_5_4 : (Cond.instanceMethod ⟨"java/lang/Object", "clone", "()Ljava/lang/Object;"⟩) ∈ UW := UW_in (lw_i5 (List.mem_of_getElem? (i := 4) rfl)) rfl
theorem mw_5_5 : (Cond.selects "[B" ⟨"[B", "clone", "()Ljava/lang/Object;"⟩ ⟨"java/lang/Object", "clone", "()Ljava/lang/Object;"⟩) ∈ UW := UW_in (lw_i5 (List.mem_of_getElem? (i := 5) rfl)) rfl
theorem mw_5_7 : (Cond.classLink "java/util/Arrays" 311 "[B") ∈ UW := UW_in (lw_i5 (List.mem_of_getElem? (i := 7) rfl)) rfl
theorem mw_5_8 : (Cond.methodLink "java/util/Arrays" 304 ⟨"java/lang/Math", "min", "(II)I"⟩) ∈ UW := UW_in (lw_i5 (List.mem_of_getElem? (i := 8) rfl)) rfl
theorem mw_5_9 : (Cond.methodLink "java/util/Arrays" 150 ⟨"java/lang/System", "arraycopy", "(Ljava/lang/Object;ILjava/lang/Object;II)V"⟩) ∈ UW := UW_in (lw_i5 (List.mem_of_getElem? (i := 9) rfl)) rfl
theorem mw_5_10 : (Cond.methodLink "java/lang/AbstractStringBuilder" 83 ⟨"java/lang/AbstractStringBuilder", "isLatin1", "()Z"⟩) ∈ UW := UW_in (lw_i5 (List.mem_of_getElem? (i := 10) rfl)) rfl
theorem mw_5_11 : (Cond.instanceMethod ⟨"java/lang/AbstractStringBuilder", "isLatin1", "()Z"⟩) ∈ UW := UW_in (lw_i5 (List.mem_of_getElem? (i := 11) rfl)) rfl
theorem mw_5_12 : (Cond.sameMethod "java/lang/AbstractStringBuilder" "java/lang/AbstractStringBuilder" "isLatin1" "()Z") ∈ UW := UW_in (lw_i5 (List.mem_of_getElem? (i := 12) rfl)) rfl
theorem mw_5_13 : (Cond.selects "java/lang/StringBuilder" ⟨"java/lang/AbstractStringBuilder", "isLatin1", "()Z"⟩ ⟨"java/lang/AbstractStringBuilder", "isLatin1", "()Z"⟩) ∈ UW := UW_in (lw_i5 (List.mem_of_getElem? (i := 13) rfl)) rfl
theorem mw_5_14 : (Cond.code ⟨"java/lang/AbstractStringBuilder", "isLatin1", "()Z"⟩ prog_12_method_68_code 1 (some .boolean)) ∈ UW := UW_in (lw_i5 (List.mem_of_getElem? (i := 14) rfl)) rfl
theorem mw_5_15 : (Cond.methodLink "java/lang/AbstractStringBuilder" 226 ⟨"java/lang/StringUTF16", "putCharsAt", "([BICCCC)I"⟩) ∈ UW := UW_in (lw_i5 (List.mem_of_getElem? (i := 15) rfl)) rfl
theorem mw_5_16 : (Cond.static ⟨"java/lang/StringUTF16", "putCharsAt", "([BICCCC)I"⟩) ∈ UW := UW_in (lw_i5 (List.mem_of_getElem? (i := 16) rfl)) rfl
theorem mw_5_17 : (Cond.code ⟨"java/lang/StringUTF16", "putCharsAt", "([BICCCC)I"⟩ prog_26_method_81_code 7 (some .int)) ∈ UW := UW_in (lw_i5 (List.mem_of_getElem? (i := 17) rfl)) rfl
theorem mw_5_18 : (Cond.methodLink "java/lang/StringUTF16" 96 ⟨"java/lang/StringUTF16", "checkBoundsBeginEnd", "(II[B)V"⟩) ∈ UW := UW_in (lw_i5 (List.mem_of_getElem? (i := 18) rfl)) rfl
theorem mw_5_19 : (Cond.static ⟨"java/lang/StringUTF16", "checkBoundsBeginEnd", "(II[B)V"⟩) ∈ UW := UW_in (lw_i5 (List.mem_of_getElem? (i := 19) rfl)) rfl
theorem mw_5_20 : (Cond.code ⟨"java/lang/StringUTF16", "checkBoundsBeginEnd", "(II[B)V"⟩ prog_26_method_93_code 3 none) ∈ UW := UW_in (lw_i5 (List.mem_of_getElem? (i := 20) rfl)) rfl
theorem mw_5_21 : (Cond.methodLink "java/lang/StringUTF16" 241 ⟨"java/lang/String", "checkBoundsBeginEnd", "(III)V"⟩) ∈ UW := UW_in (lw_i5 (List.mem_of_getElem? (i := 21) rfl)) rfl
theorem mw_5_22 : (Cond.static ⟨"java/lang/String", "checkBoundsBeginEnd", "(III)V"⟩) ∈ UW := UW_in (lw_i5 (List.mem_of_getElem? (i := 22) rfl)) rfl
theorem mw_5_23 : (Cond.code ⟨"java/lang/String", "checkBoundsBeginEnd", "(III)V"⟩ prog_23_method_158_code 3 none) ∈ UW := UW_in (lw_i5 (List.mem_of_getElem? (i := 23) rfl)) rfl
theorem mw_5_24 : (Cond.methodLink "java/lang/String" 1062 ⟨"jdk/internal/util/Preconditions", "checkFromToIndex", "(IIILjava/util/function/BiFunction;)I"⟩) ∈ UW := UW_in (lw_i5 (List.mem_of_getElem? (i := 24) rfl)) rfl
theorem mw_5_25 : (Cond.static ⟨"jdk/internal/util/Preconditions", "checkFromToIndex", "(IIILjava/util/function/BiFunction;)I"⟩) ∈ UW := UW_in (lw_i5 (List.mem_of_getElem? (i := 25) rfl)) rfl
theorem mw_5_26 : (Cond.code ⟨"jdk/internal/util/Preconditions", "checkFromToIndex", "(IIILjava/util/function/BiFunction;)I"⟩ prog_31_method_12_code 4 (some .int)) ∈ UW := UW_in (lw_i5 (List.mem_of_getElem? (i := 26) rfl)) rfl
theorem mw_5_27 : (Cond.methodLink "java/lang/StringUTF16" 111 ⟨"java/lang/StringUTF16", "putChar", "([BII)V"⟩) ∈ UW := UW_in (lw_i5 (List.mem_of_getElem? (i := 27) rfl)) rfl
theorem mw_5_28 : (Cond.static ⟨"java/lang/StringUTF16", "putChar", "([BII)V"⟩) ∈ UW := UW_in (lw_i5 (List.mem_of_getElem? (i := 28) rfl)) rfl
theorem mw_5_29 : (Cond.code ⟨"java/lang/StringUTF16", "putChar", "([BII)V"⟩ prog_26_method_4_code 3 none) ∈ UW := UW_in (lw_i5 (List.mem_of_getElem? (i := 29) rfl)) rfl
theorem mw_5_30 : (Cond.methodLink "java/lang/AbstractStringBuilder" 208 ⟨"java/lang/AbstractStringBuilder", "putStringAt", "(ILjava/lang/String;)V"⟩) ∈ UW := UW_in (lw_i5 (List.mem_of_getElem? (i := 30) rfl)) rfl
theorem mw_5_32 : (Cond.instanceMethod ⟨"java/lang/AbstractStringBuilder", "putStringAt", "(ILjava/lang/String;)V"⟩) ∈ UW := UW_in (lw_i5 (List.mem_of_getElem? (i := 32) rfl)) rfl
theorem mw_5_33 : (Cond.code ⟨"java/lang/AbstractStringBuilder", "putStringAt", "(ILjava/lang/String;)V"⟩ prog_12_method_73_code 3 none) ∈ UW := UW_in (lw_i5 (List.mem_of_getElem? (i := 33) rfl)) rfl
theorem mw_5_34 : (Cond.methodLink "java/lang/AbstractStringBuilder" 397 ⟨"java/lang/AbstractStringBuilder", "inflateIfNeededFor", "(Ljava/lang/String;)V"⟩) ∈ UW := UW_in (lw_i5 (List.mem_of_getElem? (i := 34) rfl)) rfl
theorem mw_5_36 : (Cond.instanceMethod ⟨"java/lang/AbstractStringBuilder", "inflateIfNeededFor", "(Ljava/lang/String;)V"⟩) ∈ UW := UW_in (lw_i5 (List.mem_of_getElem? (i := 36) rfl)) rfl
theorem mw_5_37 : (Cond.code ⟨"java/lang/AbstractStringBuilder", "inflateIfNeededFor", "(Ljava/lang/String;)V"⟩ prog_12_method_71_code 2 none) ∈ UW := UW_in (lw_i5 (List.mem_of_getElem? (i := 37) rfl)) rfl
theorem mw_5_38 : (Cond.methodLink "java/lang/AbstractStringBuilder" 195 ⟨"java/lang/AbstractStringBuilder", "inflate", "()V"⟩) ∈ UW := UW_in (lw_i5 (List.mem_of_getElem? (i := 38) rfl)) rfl
theorem mw_5_40 : (Cond.instanceMethod ⟨"java/lang/AbstractStringBuilder", "inflate", "()V"⟩) ∈ UW := UW_in (lw_i5 (List.mem_of_getElem? (i := 40) rfl)) rfl
theorem mw_5_41 : (Cond.code ⟨"java/lang/AbstractStringBuilder", "inflate", "()V"⟩ prog_12_method_11_code 2 none) ∈ UW := UW_in (lw_i5 (List.mem_of_getElem? (i := 41) rfl)) rfl
theorem mw_5_42 : (Cond.methodLink "java/lang/AbstractStringBuilder" 125 ⟨"java/lang/StringLatin1", "inflate", "([BI[BII)V"⟩) ∈ UW := UW_in (lw_i5 (List.mem_of_getElem? (i := 42) rfl)) rfl
theorem mw_5_43 : (Cond.static ⟨"java/lang/StringLatin1", "inflate", "([BI[BII)V"⟩) ∈ UW := UW_in (lw_i5 (List.mem_of_getElem? (i := 43) rfl)) rfl
theorem mw_5_44 : (Cond.code ⟨"java/lang/StringLatin1", "inflate", "([BI[BII)V"⟩ prog_25_method_50_code 5 none) ∈ UW := UW_in (lw_i5 (List.mem_of_getElem? (i := 44) rfl)) rfl
theorem mw_5_45 : (Cond.methodLink "java/lang/StringLatin1" 240 ⟨"java/lang/StringUTF16", "inflate", "([BI[BII)V"⟩) ∈ UW := UW_in (lw_i5 (List.mem_of_getElem? (i := 45) rfl)) rfl
theorem mw_5_46 : (Cond.static ⟨"java/lang/StringUTF16", "inflate", "([BI[BII)V"⟩) ∈ UW := UW_in (lw_i5 (List.mem_of_getElem? (i := 46) rfl)) rfl
theorem mw_5_47 : (Cond.code ⟨"java/lang/StringUTF16", "inflate", "([BI[BII)V"⟩ prog_26_method_86_code 6 none) ∈ UW := UW_in (lw_i5 (List.mem_of_getElem? (i := 47) rfl)) rfl
theorem mw_5_48 : (Cond.methodLink "java/lang/StringUTF16" 173 ⟨"java/lang/StringUTF16", "checkBoundsOffCount", "(II[B)V"⟩) ∈ UW := UW_in (lw_i5 (List.mem_of_getElem? (i := 48) rfl)) rfl
theorem mw_5_49 : (Cond.static ⟨"java/lang/StringUTF16", "checkBoundsOffCount", "(II[B)V"⟩) ∈ UW := UW_in (lw_i5 (List.mem_of_getElem? (i := 49) rfl)) rfl
theorem mw_5_50 : (Cond.code ⟨"java/lang/StringUTF16", "checkBoundsOffCount", "(II[B)V"⟩ prog_26_method_94_code 3 none) ∈ UW := UW_in (lw_i5 (List.mem_of_getElem? (i := 50) rfl)) rfl
theorem mw_5_51 : (Cond.methodLink "java/lang/StringUTF16" 419 ⟨"java/lang/String", "checkBoundsOffCount", "(III)I"⟩) ∈ UW := UW_in (lw_i5 (List.mem_of_getElem? (i := 51) rfl)) rfl
theorem mw_5_52 : (Cond.static ⟨"java/lang/String", "checkBoundsOffCount", "(III)I"⟩) ∈ UW := UW_in (lw_i5 (List.mem_of_getElem? (i := 52) rfl)) rfl
theorem mw_5_53 : (Cond.code ⟨"java/lang/String", "checkBoundsOffCount", "(III)I"⟩ prog_23_method_157_code 3 (some .int)) ∈ UW := UW_in (lw_i5 (List.mem_of_getElem? (i := 53) rfl)) rfl
theorem mw_5_54 : (Cond.methodLink "java/lang/String" 1065 ⟨"jdk/internal/util/Preconditions", "checkFromIndexSize", "(IIILjava/util/function/BiFunction;)I"⟩) ∈ UW := UW_in (lw_i5 (List.mem_of_getElem? (i := 54) rfl)) rfl
theorem mw_5_55 : (Cond.static ⟨"jdk/internal/util/Preconditions", "checkFromIndexSize", "(IIILjava/util/function/BiFunction;)I"⟩) ∈ UW := UW_in (lw_i5 (List.mem_of_getElem? (i := 55) rfl)) rfl
theorem mw_5_56 : (Cond.code ⟨"jdk/internal/util/Preconditions", "checkFromIndexSize", "(IIILjava/util/function/BiFunction;)I"⟩ prog_31_method_13_code 4 (some .int)) ∈ UW := UW_in (lw_i5 (List.mem_of_getElem? (i := 56) rfl)) rfl
theorem mw_5_57 : (Cond.methodLink "java/lang/AbstractStringBuilder" 399 ⟨"java/lang/String", "getBytes", "([BIB)V"⟩) ∈ UW := UW_in (lw_i5 (List.mem_of_getElem? (i := 57) rfl)) rfl
theorem mw_5_58 : (Cond.instanceMethod ⟨"java/lang/String", "getBytes", "([BIB)V"⟩) ∈ UW := UW_in (lw_i5 (List.mem_of_getElem? (i := 58) rfl)) rfl
theorem mw_5_59 : (Cond.selects "java/lang/String" ⟨"java/lang/String", "getBytes", "([BIB)V"⟩ ⟨"java/lang/String", "getBytes", "([BIB)V"⟩) ∈ UW := UW_in (lw_i5 (List.mem_of_getElem? (i := 59) rfl)) rfl
theorem mw_5_60 : (Cond.code ⟨"java/lang/String", "getBytes", "([BIB)V"⟩ prog_23_method_147_code 4 none) ∈ UW := UW_in (lw_i5 (List.mem_of_getElem? (i := 60) rfl)) rfl
theorem mw_5_61 : (Cond.methodLink "java/lang/String" 212 ⟨"java/lang/System", "arraycopy", "(Ljava/lang/Object;ILjava/lang/Object;II)V"⟩) ∈ UW := UW_in (lw_i5 (List.mem_of_getElem? (i := 61) rfl)) rfl
theorem mw_5_62 : (Cond.methodLink "java/lang/String" 106 ⟨"java/lang/StringLatin1", "inflate", "([BI[BII)V"⟩) ∈ UW := UW_in (lw_i5 (List.mem_of_getElem? (i := 62) rfl)) rfl
theorem mw_5_63 : (Cond.methodLink "FaultTestsLaw" 80 ⟨"java/lang/StringBuilder", "append", "(Ljava/lang/String;)Ljava/lang/StringBuilder;"⟩) ∈ UW := UW_in (lw_i5 (List.mem_of_getElem? (i := 63) rfl)) rfl
theorem mw_5_64 : (Cond.methodLink "FaultTestsLaw" 109 ⟨"java/lang/StringBuilder", "append", "(C)Ljava/lang/StringBuilder;"⟩) ∈ UW := UW_in (lw_i5 (List.mem_of_getElem? (i := 64) rfl)) rfl
theorem mw_5_65 : (Cond.instanceMethod ⟨"java/lang/StringBuilder", "append", "(C)Ljava/lang/StringBuilder;"⟩) ∈ UW := UW_in (lw_i5 (List.mem_of_getElem? (i := 65) rfl)) rfl
theorem mw_5_66 : (Cond.selects "java/lang/StringBuilder" ⟨"java/lang/StringBuilder", "append", "(C)Ljava/lang/StringBuilder;"⟩ ⟨"java/lang/StringBuilder", "append", "(C)Ljava/lang/StringBuilder;"⟩) ∈ UW := UW_in (lw_i5 (List.mem_of_getElem? (i := 66) rfl)) rfl
theorem mw_5_67 : (Cond.code ⟨"java/lang/StringBuilder", "append", "(C)Ljava/lang/StringBuilder;"⟩ prog_24_method_14_code 2 (some (.object "java/lang/StringBuilder"))) ∈ UW := UW_in (lw_i5 (List.mem_of_getElem? (i := 67) rfl)) rfl
theorem mw_5_68 : (Cond.methodLink "java/lang/StringBuilder" 50 ⟨"java/lang/AbstractStringBuilder", "append", "(C)Ljava/lang/AbstractStringBuilder;"⟩) ∈ UW := UW_in (lw_i5 (List.mem_of_getElem? (i := 68) rfl)) rfl
theorem mw_5_69 : (Cond.instanceMethod ⟨"java/lang/AbstractStringBuilder", "append", "(C)Ljava/lang/AbstractStringBuilder;"⟩) ∈ UW := UW_in (lw_i5 (List.mem_of_getElem? (i := 69) rfl)) rfl
theorem mw_5_70 : (Cond.code ⟨"java/lang/AbstractStringBuilder", "append", "(C)Ljava/lang/AbstractStringBuilder;"⟩ prog_12_method_31_code 2 (some (.object "java/lang/AbstractStringBuilder"))) ∈ UW := UW_in (lw_i5 (List.mem_of_getElem? (i := 70) rfl)) rfl
theorem mw_5_71 : (Cond.methodLink "java/lang/AbstractStringBuilder" 191 ⟨"java/lang/StringLatin1", "canEncode", "(C)Z"⟩) ∈ UW := UW_in (lw_i5 (List.mem_of_getElem? (i := 71) rfl)) rfl
theorem mw_5_72 : (Cond.static ⟨"java/lang/StringLatin1", "canEncode", "(C)Z"⟩) ∈ UW := UW_in (lw_i5 (List.mem_of_getElem? (i := 72) rfl)) rfl
theorem mw_5_73 : (Cond.code ⟨"java/lang/StringLatin1", "canEncode", "(C)Z"⟩ prog_25_method_3_code 1 (some .boolean)) ∈ UW := UW_in (lw_i5 (List.mem_of_getElem? (i := 73) rfl)) rfl
theorem mw_5_74 : (Cond.methodLink "java/lang/AbstractStringBuilder" 197 ⟨"java/lang/StringUTF16", "putCharSB", "([BII)V"⟩) ∈ UW := UW_in (lw_i5 (List.mem_of_getElem? (i := 74) rfl)) rfl
theorem mw_5_75 : (Cond.static ⟨"java/lang/StringUTF16", "putCharSB", "([BII)V"⟩) ∈ UW := UW_in (lw_i5 (List.mem_of_getElem? (i := 75) rfl)) rfl
theorem mw_5_76 : (Cond.code ⟨"java/lang/StringUTF16", "putCharSB", "([BII)V"⟩ prog_26_method_71_code 3 none) ∈ UW := UW_in (lw_i5 (List.mem_of_getElem? (i := 76) rfl)) rfl
theorem mw_5_77 : (Cond.methodLink "FaultTestsLaw" 83 ⟨"java/lang/StringBuilder", "append", "(I)Ljava/lang/StringBuilder;"⟩) ∈ UW := UW_in (lw_i5 (List.mem_of_getElem? (i := 77) rfl)) rfl
theorem mw_5_78 : (Cond.instanceMethod ⟨"java/lang/StringBuilder", "append", "(I)Ljava/lang/StringBuilder;"⟩) ∈ UW := UW_in (lw_i5 (List.mem_of_getElem? (i := 78) rfl)) rfl
theorem mw_5_79 : (Cond.selects "java/lang/StringBuilder" ⟨"java/lang/StringBuilder", "append", "(I)Ljava/lang/StringBuilder;"⟩ ⟨"java/lang/StringBuilder", "append", "(I)Ljava/lang/StringBuilder;"⟩) ∈ UW := UW_in (lw_i5 (List.mem_of_getElem? (i := 79) rfl)) rfl
theorem mw_5_80 : (Cond.code ⟨"java/lang/StringBuilder", "append", "(I)Ljava/lang/StringBuilder;"⟩ prog_24_method_15_code 2 (some (.object "java/lang/StringBuilder"))) ∈ UW := UW_in (lw_i5 (List.mem_of_getElem? (i := 80) rfl)) rfl
theorem mw_5_81 : (Cond.methodLink "java/lang/StringBuilder" 53 ⟨"java/lang/AbstractStringBuilder", "append", "(I)Ljava/lang/AbstractStringBuilder;"⟩) ∈ UW := UW_in (lw_i5 (List.mem_of_getElem? (i := 81) rfl)) rfl
theorem mw_5_82 : (Cond.instanceMethod ⟨"java/lang/AbstractStringBuilder", "append", "(I)Ljava/lang/AbstractStringBuilder;"⟩) ∈ UW := UW_in (lw_i5 (List.mem_of_getElem? (i := 82) rfl)) rfl
theorem mw_5_83 : (Cond.code ⟨"java/lang/AbstractStringBuilder", "append", "(I)Ljava/lang/AbstractStringBuilder;"⟩ prog_12_method_32_code 4 (some (.object "java/lang/AbstractStringBuilder"))) ∈ UW := UW_in (lw_i5 (List.mem_of_getElem? (i := 83) rfl)) rfl
theorem mw_5_84 : (Cond.methodLink "java/lang/AbstractStringBuilder" 245 ⟨"java/lang/Integer", "stringSize", "(I)I"⟩) ∈ UW := UW_in (lw_i5 (List.mem_of_getElem? (i := 84) rfl)) rfl
theorem mw_5_85 : (Cond.static ⟨"java/lang/Integer", "stringSize", "(I)I"⟩) ∈ UW := UW_in (lw_i5 (List.mem_of_getElem? (i := 85) rfl)) rfl
theorem mw_5_86 : (Cond.code ⟨"java/lang/Integer", "stringSize", "(I)I"⟩ prog_18_method_13_code 4 (some .int)) ∈ UW := UW_in (lw_i5 (List.mem_of_getElem? (i := 86) rfl)) rfl
theorem mw_5_87 : (Cond.methodLink "java/lang/AbstractStringBuilder" 248 ⟨"java/lang/Integer", "getChars", "(II[B)I"⟩) ∈ UW := UW_in (lw_i5 (List.mem_of_getElem? (i := 87) rfl)) rfl
theorem mw_5_88 : (Cond.static ⟨"java/lang/Integer", "getChars", "(II[B)I"⟩) ∈ UW := UW_in (lw_i5 (List.mem_of_getElem? (i := 88) rfl)) rfl
theorem mw_5_89 : (Cond.code ⟨"java/lang/Integer", "getChars", "(II[B)I"⟩ prog_18_method_12_code 7 (some .int)) ∈ UW := UW_in (lw_i5 (List.mem_of_getElem? (i := 89) rfl)) rfl
theorem mw_5_90 : (Cond.fieldLink "java/lang/Integer" 83 "java/lang/Integer" "DigitOnes" "[B") ∈ UW := UW_in (lw_i5 (List.mem_of_getElem? (i := 90) rfl)) rfl
theorem mw_5_92 : (Cond.fieldLink "java/lang/Integer" 87 "java/lang/Integer" "DigitTens" "[B") ∈ UW := UW_in (lw_i5 (List.mem_of_getElem? (i := 92) rfl)) rfl
theorem mw_5_94 : (Cond.methodLink "java/lang/AbstractStringBuilder" 251 ⟨"java/lang/StringUTF16", "getChars", "(III[B)I"⟩) ∈ UW := UW_in (lw_i5 (List.mem_of_getElem? (i := 94) rfl)) rfl
theorem mw_5_95 : (Cond.static ⟨"java/lang/StringUTF16", "getChars", "(III[B)I"⟩) ∈ UW := UW_in (lw_i5 (List.mem_of_getElem? (i := 95) rfl)) rfl
theorem mw_5_96 : (Cond.code ⟨"java/lang/StringUTF16", "getChars", "(III[B)I"⟩ prog_26_method_77_code 5 (some .int)) ∈ UW := UW_in (lw_i5 (List.mem_of_getElem? (i := 96) rfl)) rfl
theorem mw_5_97 : (Cond.methodLink "java/lang/StringUTF16" 393 ⟨"java/lang/StringUTF16", "getChars", "(II[B)I"⟩) ∈ UW := UW_in (lw_i5 (List.mem_of_getElem? (i := 97) rfl)) rfl
theorem mw_5_98 : (Cond.static ⟨"java/lang/StringUTF16", "getChars", "(II[B)I"⟩) ∈ UW := UW_in (lw_i5 (List.mem_of_getElem? (i := 98) rfl)) rfl
theorem mw_5_99 : (Cond.code ⟨"java/lang/StringUTF16", "getChars", "(II[B)I"⟩ prog_26_method_89_code 7 (some .int)) ∈ UW := UW_in (lw_i5 (List.mem_of_getElem? (i := 99) rfl)) rfl
theorem mw_5_100 : (Cond.fieldLink "java/lang/StringUTF16" 403 "java/lang/Integer" "DigitOnes" "[B") ∈ UW := UW_in (lw_i5 (List.mem_of_getElem? (i := 100) rfl)) rfl
theorem mw_5_101 : (Cond.fieldLink "java/lang/StringUTF16" 407 "java/lang/Integer" "DigitTens" "[B") ∈ UW := UW_in (lw_i5 (List.mem_of_getElem? (i := 101) rfl)) rfl
theorem mw_5_102 : (Cond.methodLink "FaultTestsLaw" 88 ⟨"java/lang/StringBuilder", "toString", "()Ljava/lang/String;"⟩) ∈ UW := UW_in (lw_i5 (List.mem_of_getElem? (i := 102) rfl)) rfl
theorem mw_5_103 : (Cond.instanceMethod ⟨"java/lang/StringBuilder", "toString", "()Ljava/lang/String;"⟩) ∈ UW := UW_in (lw_i5 (List.mem_of_getElem? (i := 103) rfl)) rfl
theorem mw_5_104 : (Cond.selects "java/lang/StringBuilder" ⟨"java/lang/StringBuilder", "toString", "()Ljava/lang/String;"⟩ ⟨"java/lang/StringBuilder", "toString", "()Ljava/lang/String;"⟩) ∈ UW := UW_in (lw_i5 (List.mem_of_getElem? (i := 104) rfl)) rfl
theorem mw_5_105 : (Cond.code ⟨"java/lang/StringBuilder", "toString", "()Ljava/lang/String;"⟩ prog_24_method_42_code 1 (some (.object "java/lang/String"))) ∈ UW := UW_in (lw_i5 (List.mem_of_getElem? (i := 105) rfl)) rfl
theorem mw_5_106 : (Cond.classLink "java/lang/StringBuilder" 18 "java/lang/String") ∈ UW := UW_in (lw_i5 (List.mem_of_getElem? (i := 106) rfl)) rfl
theorem mw_5_107 : (Cond.instantiable "java/lang/String" 4) ∈ UW := UW_in (lw_i5 (List.mem_of_getElem? (i := 107) rfl)) rfl
theorem mw_5_108 : (Cond.methodLink "java/lang/StringBuilder" 137 ⟨"java/lang/String", "<init>", "(Ljava/lang/StringBuilder;)V"⟩) ∈ UW := UW_in (lw_i5 (List.mem_of_getElem? (i := 108) rfl)) rfl
theorem mw_5_109 : (Cond.instanceMethod ⟨"java/lang/String", "<init>", "(Ljava/lang/StringBuilder;)V"⟩) ∈ UW := UW_in (lw_i5 (List.mem_of_getElem? (i := 109) rfl)) rfl
theorem mw_5_110 : (Cond.code ⟨"java/lang/String", "<init>", "(Ljava/lang/StringBuilder;)V"⟩ prog_23_method_53_code 2 none) ∈ UW := UW_in (lw_i5 (List.mem_of_getElem? (i := 110) rfl)) rfl
theorem mw_5_111 : (Cond.methodLink "java/lang/String" 489 ⟨"java/lang/String", "<init>", "(Ljava/lang/AbstractStringBuilder;Ljava/lang/Void;)V"⟩) ∈ UW := UW_in (lw_i5 (List.mem_of_getElem? (i := 111) rfl)) rfl
theorem mw_5_112 : (Cond.instanceMethod ⟨"java/lang/String", "<init>", "(Ljava/lang/AbstractStringBuilder;Ljava/lang/Void;)V"⟩) ∈ UW := UW_in (lw_i5 (List.mem_of_getElem? (i := 112) rfl)) rfl
theorem mw_5_113 : (Cond.code ⟨"java/lang/String", "<init>", "(Ljava/lang/AbstractStringBuilder;Ljava/lang/Void;)V"⟩ prog_23_method_150_code 5 none) ∈ UW := UW_in (lw_i5 (List.mem_of_getElem? (i := 113) rfl)) rfl
theorem mw_5_114 : (Cond.methodLink "java/lang/String" 1 ⟨"java/lang/Object", "<init>", "()V"⟩) ∈ UW := UW_in (lw_i5 (List.mem_of_getElem? (i := 114) rfl)) rfl
theorem mw_5_115 : (Cond.methodLink "java/lang/String" 552 ⟨"java/lang/AbstractStringBuilder", "getValue", "()[B"⟩) ∈ UW := UW_in (lw_i5 (List.mem_of_getElem? (i := 115) rfl)) rfl
theorem mw_5_116 : (Cond.instanceMethod ⟨"java/lang/AbstractStringBuilder", "getValue", "()[B"⟩) ∈ UW := UW_in (lw_i5 (List.mem_of_getElem? (i := 116) rfl)) rfl
theorem mw_5_117 : (Cond.sameMethod "java/lang/AbstractStringBuilder" "java/lang/AbstractStringBuilder" "getValue" "()[B") ∈ UW := UW_in (lw_i5 (List.mem_of_getElem? (i := 117) rfl)) rfl
theorem mw_5_118 : (Cond.selects "java/lang/StringBuilder" ⟨"java/lang/AbstractStringBuilder", "getValue", "()[B"⟩ ⟨"java/lang/AbstractStringBuilder", "getValue", "()[B"⟩) ∈ UW := UW_in (lw_i5 (List.mem_of_getElem? (i := 118) rfl)) rfl
theorem mw_5_119 : (Cond.code ⟨"java/lang/AbstractStringBuilder", "getValue", "()[B"⟩ prog_12_method_64_code 1 (some (.array .byte))) ∈ UW := UW_in (lw_i5 (List.mem_of_getElem? (i := 119) rfl)) rfl
theorem mw_5_120 : (Cond.methodLink "java/lang/String" 549 ⟨"java/lang/AbstractStringBuilder", "length", "()I"⟩) ∈ UW := UW_in (lw_i5 (List.mem_of_getElem? (i := 120) rfl)) rfl
theorem mw_5_121 : (Cond.instanceMethod ⟨"java/lang/AbstractStringBuilder", "length", "()I"⟩) ∈ UW := UW_in (lw_i5 (List.mem_of_getElem? (i := 121) rfl)) rfl
theorem mw_5_122 : (Cond.sameMethod "java/lang/AbstractStringBuilder" "java/lang/AbstractStringBuilder" "length" "()I") ∈ UW := UW_in (lw_i5 (List.mem_of_getElem? (i := 122) rfl)) rfl
theorem mw_5_123 : (Cond.selects "java/lang/StringBuilder" ⟨"java/lang/AbstractStringBuilder", "length", "()I"⟩ ⟨"java/lang/StringBuilder", "length", "()I"⟩) ∈ UW := UW_in (lw_i5 (List.mem_of_getElem? (i := 123) rfl)) rfl
theorem mw_5_124 : (Cond.instanceMethod ⟨"java/lang/StringBuilder", "length", "()I"⟩) ∈ UW := UW_in (lw_i5 (List.mem_of_getElem? (i := 124) rfl)) rfl
theorem mw_5_125 : (Cond.code ⟨"java/lang/StringBuilder", "length", "()I"⟩ prog_24_method_93_code 1 (some .int)) ∈ UW := UW_in (lw_i5 (List.mem_of_getElem? (i := 125) rfl)) rfl
theorem mw_5_126 : (Cond.methodLink "java/lang/StringBuilder" 343 ⟨"java/lang/AbstractStringBuilder", "length", "()I"⟩) ∈ UW := UW_in (lw_i5 (List.mem_of_getElem? (i := 126) rfl)) rfl
theorem mw_5_127 : (Cond.code ⟨"java/lang/AbstractStringBuilder", "length", "()I"⟩ prog_12_method_6_code 1 (some .int)) ∈ UW := UW_in (lw_i5 (List.mem_of_getElem? (i := 127) rfl)) rfl
theorem mw_5_128 : (Cond.methodLink "java/lang/String" 1047 ⟨"java/lang/AbstractStringBuilder", "isLatin1", "()Z"⟩) ∈ UW := UW_in (lw_i5 (List.mem_of_getElem? (i := 128) rfl)) rfl
theorem mw_5_129 : (Cond.methodLink "java/lang/String" 54 ⟨"java/util/Arrays", "copyOfRange", "([BII)[B"⟩) ∈ UW := UW_in (lw_i5 (List.mem_of_getElem? (i := 129) rfl)) rfl
theorem mw_5_130 : (Cond.static ⟨"java/util/Arrays", "copyOfRange", "([BII)[B"⟩) ∈ UW := UW_in (lw_i5 (List.mem_of_getElem? (i := 130) rfl)) rfl
theorem mw_5_131 : (Cond.code ⟨"java/util/Arrays", "copyOfRange", "([BII)[B"⟩ prog_29_method_132_code 3 (some (.array .byte))) ∈ UW := UW_in (lw_i5 (List.mem_of_getElem? (i := 131) rfl)) rfl
theorem mw_5_132 : (Cond.methodLink "java/util/Arrays" 339 ⟨"java/util/Arrays", "copyOfRangeByte", "([BII)[B"⟩) ∈ UW := UW_in (lw_i5 (List.mem_of_getElem? (i := 132) rfl)) rfl
theorem mw_5_133 : (Cond.static ⟨"java/util/Arrays", "copyOfRangeByte", "([BII)[B"⟩) ∈ UW := UW_in (lw_i5 (List.mem_of_getElem? (i := 133) rfl)) rfl
theorem mw_5_134 : (Cond.code ⟨"java/util/Arrays", "copyOfRangeByte", "([BII)[B"⟩ prog_29_method_133_code 5 (some (.array .byte))) ∈ UW := UW_in (lw_i5 (List.mem_of_getElem? (i := 134) rfl)) rfl
theorem mw_5_135 : (Cond.methodLink "java/util/Arrays" 343 ⟨"java/util/Arrays", "checkLength", "(II)V"⟩) ∈ UW := UW_in (lw_i5 (List.mem_of_getElem? (i := 135) rfl)) rfl
theorem mw_5_136 : (Cond.static ⟨"java/util/Arrays", "checkLength", "(II)V"⟩) ∈ UW := UW_in (lw_i5 (List.mem_of_getElem? (i := 136) rfl)) rfl
theorem mw_5_137 : (Cond.code ⟨"java/util/Arrays", "checkLength", "(II)V"⟩ prog_29_method_131_code 2 none) ∈ UW := UW_in (lw_i5 (List.mem_of_getElem? (i := 137) rfl)) rfl
theorem mw_5_138 : (Cond.methodLink "java/lang/String" 1051 ⟨"java/lang/StringUTF16", "compress", "([BII)[B"⟩) ∈ UW := UW_in (lw_i5 (List.mem_of_getElem? (i := 138) rfl)) rfl
theorem mw_5_139 : (Cond.static ⟨"java/lang/StringUTF16", "compress", "([BII)[B"⟩) ∈ UW := UW_in (lw_i5 (List.mem_of_getElem? (i := 139) rfl)) rfl
theorem mw_5_140 : (Cond.code ⟨"java/lang/StringUTF16", "compress", "([BII)[B"⟩ prog_26_method_17_code 6 (some (.array .byte))) ∈ UW := UW_in (lw_i5 (List.mem_of_getElem? (i := 140) rfl)) rfl
theorem mw_5_141 : (Cond.methodLink "java/lang/StringUTF16" 123 ⟨"java/lang/StringUTF16", "compress", "([BI[BII)I"⟩) ∈ UW := UW_in (lw_i5 (List.mem_of_getElem? (i := 141) rfl)) rfl
theorem mw_5_142 : (Cond.static ⟨"java/lang/StringUTF16", "compress", "([BI[BII)I"⟩) ∈ UW := UW_in (lw_i5 (List.mem_of_getElem? (i := 142) rfl)) rfl
theorem mw_5_143 : (Cond.code ⟨"java/lang/StringUTF16", "compress", "([BI[BII)I"⟩ prog_26_method_22_code 7 (some .int)) ∈ UW := UW_in (lw_i5 (List.mem_of_getElem? (i := 143) rfl)) rfl
theorem mw_5_144 : (Cond.methodLink "java/lang/StringUTF16" 126 ⟨"java/util/Arrays", "copyOfRange", "([BII)[B"⟩) ∈ UW := UW_in (lw_i5 (List.mem_of_getElem? (i := 144) rfl)) rfl
theorem mw_5_145 : (Cond.methodLink "java/lang/String" 47 ⟨"java/lang/StringUTF16", "coderFromArrayLen", "([BI)B"⟩) ∈ UW := UW_in (lw_i5 (List.mem_of_getElem? (i := 145) rfl)) rfl
theorem mw_5_146 : (Cond.static ⟨"java/lang/StringUTF16", "coderFromArrayLen", "([BI)B"⟩) ∈ UW := UW_in (lw_i5 (List.mem_of_getElem? (i := 146) rfl)) rfl
theorem mw_5_147 : (Cond.code ⟨"java/lang/StringUTF16", "coderFromArrayLen", "([BI)B"⟩ prog_26_method_15_code 2 (some .byte)) ∈ UW := UW_in (lw_i5 (List.mem_of_getElem? (i := 147) rfl)) rfl
theorem mw_5_148 : (Cond.fieldLink "java/lang/String" 9 "java/lang/String" "value" "[B") ∈ UW := UW_in (lw_i5 (List.mem_of_getElem? (i := 148) rfl)) rfl
theorem mw_5_149 : (Cond.fieldLink "java/lang/String" 15 "java/lang/String" "coder" "B") ∈ UW := UW_in (lw_i5 (List.mem_of_getElem? (i := 149) rfl)) rfl
theorem mw_5_150 : (Cond.laysFinal "java/lang/String" "java/lang/String" "value" "[B") ∈ UW := UW_in (lw_i5 (List.mem_of_getElem? (i := 150) rfl)) rfl
theorem mw_5_152 : (Cond.laysFinal "java/lang/String" "java/lang/String" "coder" "B") ∈ UW := UW_in (lw_i5 (List.mem_of_getElem? (i := 152) rfl)) rfl
theorem mw_5_154 : (Cond.lays "java/lang/String" "java/lang/String" "hash" "I") ∈ UW := UW_in (lw_i5 (List.mem_of_getElem? (i := 154) rfl)) rfl
theorem mw_5_156 : (Cond.lays "java/lang/String" "java/lang/String" "hashIsZero" "Z") ∈ UW := UW_in (lw_i5 (List.mem_of_getElem? (i := 156) rfl)) rfl
theorem mw_5_158 : (Cond.superclass "java/lang/String" "java/lang/Object") ∈ UW := UW_in (lw_i5 (List.mem_of_getElem? (i := 158) rfl)) rfl
theorem mw_5_162 : (Cond.fieldLink "FaultTestsLaw" 105 "FaultTestsLaw" "NAMES" "[Ljava/lang/String;") ∈ UW := UW_in (lw_i5 (List.mem_of_getElem? (i := 162) rfl)) rfl
theorem mw_5_167 : (Cond.sameMethod "java/lang/Throwable" "java/lang/Throwable" "fillInStackTrace" "(I)Ljava/lang/Throwable;") ∈ UW := UW_in (lw_i5 (List.mem_of_getElem? (i := 167) rfl)) rfl
theorem mw_5_168 : (Cond.sameMethod "java/lang/AbstractStringBuilder" "java/lang/AbstractStringBuilder" "appendNull" "()Ljava/lang/AbstractStringBuilder;") ∈ UW := UW_in (lw_i5 (List.mem_of_getElem? (i := 168) rfl)) rfl
theorem mw_5_169 : (Cond.sameMethod "java/lang/AbstractStringBuilder" "java/lang/AbstractStringBuilder" "ensureCapacityInternal" "(I)V") ∈ UW := UW_in (lw_i5 (List.mem_of_getElem? (i := 169) rfl)) rfl
theorem mw_5_170 : (Cond.sameMethod "java/lang/AbstractStringBuilder" "java/lang/AbstractStringBuilder" "newCapacity" "(I)I") ∈ UW := UW_in (lw_i5 (List.mem_of_getElem? (i := 170) rfl)) rfl
theorem mw_5_171 : (Cond.sameMethod "java/lang/AbstractStringBuilder" "java/lang/AbstractStringBuilder" "putStringAt" "(ILjava/lang/String;)V") ∈ UW := UW_in (lw_i5 (List.mem_of_getElem? (i := 171) rfl)) rfl
theorem mw_5_172 : (Cond.sameMethod "java/lang/AbstractStringBuilder" "java/lang/AbstractStringBuilder" "inflateIfNeededFor" "(Ljava/lang/String;)V") ∈ UW := UW_in (lw_i5 (List.mem_of_getElem? (i := 172) rfl)) rfl
theorem mw_5_173 : (Cond.sameMethod "java/lang/AbstractStringBuilder" "java/lang/AbstractStringBuilder" "inflate" "()V") ∈ UW := UW_in (lw_i5 (List.mem_of_getElem? (i := 173) rfl)) rfl
theorem mw_5_174 : (Cond.sameMethod "java/lang/AbstractStringBuilder" "java/lang/AbstractStringBuilder" "append" "(C)Ljava/lang/AbstractStringBuilder;") ∈ UW := UW_in (lw_i5 (List.mem_of_getElem? (i := 174) rfl)) rfl
theorem mw_5_175 : (Cond.sameMethod "java/lang/AbstractStringBuilder" "java/lang/AbstractStringBuilder" "append" "(I)Ljava/lang/AbstractStringBuilder;") ∈ UW := UW_in (lw_i5 (List.mem_of_getElem? (i := 175) rfl)) rfl
theorem lw_q1 {q : MethodName × Nat} (h : q ∈ lw_privs_1) : q ∈ lw_privs := List.mem_append_left _ h
theorem lw_q2 {q : MethodName × Nat} (h : q ∈ lw_privs_2) : q ∈ lw_privs := List.mem_append_right _ (h)
theorem lw_sel {q : MethodName × Nat} (h : q ∈ lw_privs) : Cond.selects q.1.cls q.1 q.1 ∈ lw_tbl := List.mem_append_left _ (List.mem_map.mpr ⟨q, h, rfl⟩)
theorem mp_1_0 : (Cond.selects "FaultTests" ⟨"FaultTests", "listFoundByTests", "()J"⟩ ⟨"FaultTests", "listFoundByTests", "()J"⟩) ∈ UW := UW_in (lw_sel (lw_q1 (List.mem_of_getElem? (i := 0) rfl))) rfl
theorem mp_1_1 : (Cond.selects "FaultTests" ⟨"FaultTests", "refreshTestRows", "()V"⟩ ⟨"FaultTests", "refreshTestRows", "()V"⟩) ∈ UW := UW_in (lw_sel (lw_q1 (List.mem_of_getElem? (i := 1) rfl))) rfl
theorem mp_1_2 : (Cond.selects "FaultTests$Lanes" ⟨"FaultTests$Lanes", "runGate", "(LFaultTests$Circuit;I)V"⟩ ⟨"FaultTests$Lanes", "runGate", "(LFaultTests$Circuit;I)V"⟩) ∈ UW := UW_in (lw_sel (lw_q1 (List.mem_of_getElem? (i := 2) rfl))) rfl
theorem mp_1_3 : (Cond.selects "FaultTests$Rows" ⟨"FaultTests$Rows", "store", "(LFaultTests$Circuit;LFaultTests$Lanes;II)V"⟩ ⟨"FaultTests$Rows", "store", "(LFaultTests$Circuit;LFaultTests$Lanes;II)V"⟩) ∈ UW := UW_in (lw_sel (lw_q1 (List.mem_of_getElem? (i := 3) rfl))) rfl
theorem mp_1_4 : (Cond.selects "FaultTests$Lanes" ⟨"FaultTests$Lanes", "setSites", "(LFaultTests$Circuit;LFaultTests$Lanes;I)I"⟩ ⟨"FaultTests$Lanes", "setSites", "(LFaultTests$Circuit;LFaultTests$Lanes;I)I"⟩) ∈ UW := UW_in (lw_sel (lw_q1 (List.mem_of_getElem? (i := 4) rfl))) rfl
theorem mp_1_5 : (Cond.selects "FaultTests" ⟨"FaultTests", "listFound", "(LFaultTests$Rows;I[J)J"⟩ ⟨"FaultTests", "listFound", "(LFaultTests$Rows;I[J)J"⟩) ∈ UW := UW_in (lw_sel (lw_q1 (List.mem_of_getElem? (i := 5) rfl))) rfl
theorem mp_1_6 : (Cond.selects "java/lang/Throwable" ⟨"java/lang/Throwable", "fillInStackTrace", "(I)Ljava/lang/Throwable;"⟩ ⟨"java/lang/Throwable", "fillInStackTrace", "(I)Ljava/lang/Throwable;"⟩) ∈ UW := UW_in (lw_sel (lw_q1 (List.mem_of_getElem? (i := 6) rfl))) rfl
theorem mp_1_7 : (Cond.selects "FaultTests" ⟨"FaultTests", "checkFault", "(I)V"⟩ ⟨"FaultTests", "checkFault", "(I)V"⟩) ∈ UW := UW_in (lw_sel (lw_q1 (List.mem_of_getElem? (i := 7) rfl))) rfl
theorem mp_1_8 : (Cond.selects "FaultTests" ⟨"FaultTests", "refreshFullRows", "()V"⟩ ⟨"FaultTests", "refreshFullRows", "()V"⟩) ∈ UW := UW_in (lw_sel (lw_q1 (List.mem_of_getElem? (i := 8) rfl))) rfl
theorem mp_1_9 : (Cond.selects "FaultTests" ⟨"FaultTests", "firstAlike", "(I)I"⟩ ⟨"FaultTests", "firstAlike", "(I)I"⟩) ∈ UW := UW_in (lw_sel (lw_q1 (List.mem_of_getElem? (i := 9) rfl))) rfl
theorem mp_1_10 : (Cond.selects "FaultTests" ⟨"FaultTests", "areInputs", "(I)Z"⟩ ⟨"FaultTests", "areInputs", "(I)Z"⟩) ∈ UW := UW_in (lw_sel (lw_q1 (List.mem_of_getElem? (i := 10) rfl))) rfl
theorem mp_1_11 : (Cond.selects "FaultTests$SetupReader" ⟨"FaultTests$SetupReader", "advance", "()V"⟩ ⟨"FaultTests$SetupReader", "advance", "()V"⟩) ∈ UW := UW_in (lw_sel (lw_q1 (List.mem_of_getElem? (i := 11) rfl))) rfl
theorem mp_1_12 : (Cond.selects "FaultTests$SetupReader" ⟨"FaultTests$SetupReader", "readCircuit", "()Z"⟩ ⟨"FaultTests$SetupReader", "readCircuit", "()Z"⟩) ∈ UW := UW_in (lw_sel (lw_q1 (List.mem_of_getElem? (i := 12) rfl))) rfl
theorem mp_1_13 : (Cond.selects "FaultTests$SetupReader" ⟨"FaultTests$SetupReader", "isWord", "(Ljava/lang/String;)Z"⟩ ⟨"FaultTests$SetupReader", "isWord", "(Ljava/lang/String;)Z"⟩) ∈ UW := UW_in (lw_sel (lw_q1 (List.mem_of_getElem? (i := 13) rfl))) rfl
theorem mp_1_14 : (Cond.selects "FaultTests$SetupReader" ⟨"FaultTests$SetupReader", "fail", "(I)Z"⟩ ⟨"FaultTests$SetupReader", "fail", "(I)Z"⟩) ∈ UW := UW_in (lw_sel (lw_q1 (List.mem_of_getElem? (i := 14) rfl))) rfl
theorem mp_1_15 : (Cond.selects "FaultTests$SetupReader" ⟨"FaultTests$SetupReader", "readSemicolon", "()Z"⟩ ⟨"FaultTests$SetupReader", "readSemicolon", "()Z"⟩) ∈ UW := UW_in (lw_sel (lw_q1 (List.mem_of_getElem? (i := 15) rfl))) rfl
theorem mp_2_0 : (Cond.selects "FaultTests$SetupReader" ⟨"FaultTests$SetupReader", "readStatement", "()Z"⟩ ⟨"FaultTests$SetupReader", "readStatement", "()Z"⟩) ∈ UW := UW_in (lw_sel (lw_q2 (List.mem_of_getElem? (i := 0) rfl))) rfl
theorem mp_2_1 : (Cond.selects "FaultTests$SetupReader" ⟨"FaultTests$SetupReader", "readGate", "()Z"⟩ ⟨"FaultTests$SetupReader", "readGate", "()Z"⟩) ∈ UW := UW_in (lw_sel (lw_q2 (List.mem_of_getElem? (i := 1) rfl))) rfl
theorem mp_2_2 : (Cond.selects "FaultTests$SetupReader" ⟨"FaultTests$SetupReader", "kindOfWord", "()I"⟩ ⟨"FaultTests$SetupReader", "kindOfWord", "()I"⟩) ∈ UW := UW_in (lw_sel (lw_q2 (List.mem_of_getElem? (i := 2) rfl))) rfl
theorem mp_2_3 : (Cond.selects "FaultTests$SetupReader" ⟨"FaultTests$SetupReader", "readOutputs", "()Z"⟩ ⟨"FaultTests$SetupReader", "readOutputs", "()Z"⟩) ∈ UW := UW_in (lw_sel (lw_q2 (List.mem_of_getElem? (i := 3) rfl))) rfl
theorem mp_2_4 : (Cond.selects "FaultTests$SetupReader" ⟨"FaultTests$SetupReader", "readBridge", "()Z"⟩ ⟨"FaultTests$SetupReader", "readBridge", "()Z"⟩) ∈ UW := UW_in (lw_sel (lw_q2 (List.mem_of_getElem? (i := 4) rfl))) rfl
theorem mp_2_5 : (Cond.selects "FaultTests$SetupReader" ⟨"FaultTests$SetupReader", "isKnownWire", "()Z"⟩ ⟨"FaultTests$SetupReader", "isKnownWire", "()Z"⟩) ∈ UW := UW_in (lw_sel (lw_q2 (List.mem_of_getElem? (i := 5) rfl))) rfl
theorem mp_2_6 : (Cond.selects "FaultTests$SetupReader" ⟨"FaultTests$SetupReader", "readTest", "()Z"⟩ ⟨"FaultTests$SetupReader", "readTest", "()Z"⟩) ∈ UW := UW_in (lw_sel (lw_q2 (List.mem_of_getElem? (i := 6) rfl))) rfl
theorem mp_2_7 : (Cond.selects "FaultTests" ⟨"FaultTests", "forgetRows", "()V"⟩ ⟨"FaultTests", "forgetRows", "()V"⟩) ∈ UW := UW_in (lw_sel (lw_q2 (List.mem_of_getElem? (i := 7) rfl))) rfl
theorem mp_2_8 : (Cond.selects "FaultTests" ⟨"FaultTests", "checkTest", "(I)V"⟩ ⟨"FaultTests", "checkTest", "(I)V"⟩) ∈ UW := UW_in (lw_sel (lw_q2 (List.mem_of_getElem? (i := 8) rfl))) rfl
theorem mp_2_9 : (Cond.selects "FaultTests" ⟨"FaultTests", "checkWire", "(I)V"⟩ ⟨"FaultTests", "checkWire", "(I)V"⟩) ∈ UW := UW_in (lw_sel (lw_q2 (List.mem_of_getElem? (i := 9) rfl))) rfl
theorem ms_0 : (Cond.selects "java/lang/StringBuilder" ⟨"java/lang/AbstractStringBuilder", "appendNull", "()Ljava/lang/AbstractStringBuilder;"⟩ ⟨"java/lang/AbstractStringBuilder", "appendNull", "()Ljava/lang/AbstractStringBuilder;"⟩) ∈ UW := UW_in2 (List.mem_append_left _ (List.mem_of_getElem? (i := 0) rfl)) rfl
theorem ms_1 : (Cond.selects "java/lang/StringBuilder" ⟨"java/lang/AbstractStringBuilder", "ensureCapacityInternal", "(I)V"⟩ ⟨"java/lang/AbstractStringBuilder", "ensureCapacityInternal", "(I)V"⟩) ∈ UW := UW_in2 (List.mem_append_left _ (List.mem_of_getElem? (i := 1) rfl)) rfl
theorem ms_2 : (Cond.selects "java/lang/StringBuilder" ⟨"java/lang/AbstractStringBuilder", "newCapacity", "(I)I"⟩ ⟨"java/lang/AbstractStringBuilder", "newCapacity", "(I)I"⟩) ∈ UW := UW_in2 (List.mem_append_left _ (List.mem_of_getElem? (i := 2) rfl)) rfl
theorem ms_3 : (Cond.selects "java/lang/StringBuilder" ⟨"java/lang/AbstractStringBuilder", "putStringAt", "(ILjava/lang/String;)V"⟩ ⟨"java/lang/AbstractStringBuilder", "putStringAt", "(ILjava/lang/String;)V"⟩) ∈ UW := UW_in2 (List.mem_append_left _ (List.mem_of_getElem? (i := 3) rfl)) rfl
theorem ms_4 : (Cond.selects "java/lang/StringBuilder" ⟨"java/lang/AbstractStringBuilder", "inflateIfNeededFor", "(Ljava/lang/String;)V"⟩ ⟨"java/lang/AbstractStringBuilder", "inflateIfNeededFor", "(Ljava/lang/String;)V"⟩) ∈ UW := UW_in2 (List.mem_append_left _ (List.mem_of_getElem? (i := 4) rfl)) rfl
