/-! ===== BEGIN printed: names, fields, word lists, decode rows ===== -/
def RX0 : String := "FaultTests$Circuit"
def TX0 : u_T := fun k => match k with
  | 0 => ("FaultTests$Circuit", "inputs", "I", false)
  | 1 => ("FaultTests$Circuit", "wires", "I", false)
  | 2 => ("FaultTests$Circuit", "outputs", "I", false)
  | 3 => ("FaultTests$Circuit", "bridges", "I", false)
  | 4 => ("FaultTests$Circuit", "kind", "[I", true)
  | 5 => ("FaultTests$Circuit", "operandCount", "[I", true)
  | 6 => ("FaultTests$Circuit", "operand", "[I", true)
  | 7 => ("FaultTests$Circuit", "level", "[I", true)
  | 8 => ("FaultTests$Circuit", "uses", "[I", true)
  | 9 => ("FaultTests$Circuit", "below", "[I", true)
  | 10 => ("FaultTests$Circuit", "outputWire", "[I", true)
  | 11 => ("FaultTests$Circuit", "bridgeFirst", "[I", true)
  | 12 => ("FaultTests$Circuit", "bridgeSecond", "[I", true)
  | _ => ("FaultTests$Circuit", "bridgeKind", "[I", true)
def tyX0 : Nat → FieldType := fun k => match k with
  | 0 => .int
  | 1 => .int
  | 2 => .int
  | 3 => .int
  | 4 => .array .int
  | 5 => .array .int
  | 6 => .array .int
  | 7 => .array .int
  | 8 => .array .int
  | 9 => .array .int
  | 10 => .array .int
  | 11 => .array .int
  | 12 => .array .int
  | _ => .array .int
theorem nmX0 : ∀ a, a < 14 → ∀ b, b < 14 → a ≠ b → (TX0 a).2.1 ≠ (TX0 b).2.1 := by decide +kernel
theorem tyX0_ok : ∀ k, k < 14 → parseFieldDescriptor (TX0 k).2.2.1 = some (tyX0 k) := by decide +kernel
abbrev cX0_init : ByteArray := prog_2_method_1_code
def yX0_init : MethodName := ⟨RX0, "<init>", "()V"⟩
abbrev cX0_clear : ByteArray := prog_2_method_2_code
def yX0_clear : MethodName := ⟨RX0, "clear", "(I)V"⟩
abbrev cX0_copyFrom : ByteArray := prog_2_method_3_code
def yX0_copyFrom : MethodName := ⟨RX0, "copyFrom", "(LFaultTests$Circuit;)V"⟩
abbrev cX0_isFullOfGates : ByteArray := prog_2_method_4_code
def yX0_isFullOfGates : MethodName := ⟨RX0, "isFullOfGates", "()Z"⟩
abbrev cX0_isFullOfOutputs : ByteArray := prog_2_method_5_code
def yX0_isFullOfOutputs : MethodName := ⟨RX0, "isFullOfOutputs", "()Z"⟩
abbrev cX0_isFullOfBridges : ByteArray := prog_2_method_6_code
def yX0_isFullOfBridges : MethodName := ⟨RX0, "isFullOfBridges", "()Z"⟩
abbrev cX0_startGate : ByteArray := prog_2_method_7_code
def yX0_startGate : MethodName := ⟨RX0, "startGate", "(I)V"⟩
abbrev cX0_putOperand : ByteArray := prog_2_method_8_code
def yX0_putOperand : MethodName := ⟨RX0, "putOperand", "(I)V"⟩
abbrev cX0_endGate : ByteArray := prog_2_method_9_code
def yX0_endGate : MethodName := ⟨RX0, "endGate", "()V"⟩
abbrev cX0_putOutput : ByteArray := prog_2_method_10_code
def yX0_putOutput : MethodName := ⟨RX0, "putOutput", "(I)V"⟩
abbrev cX0_putBridge : ByteArray := prog_2_method_11_code
def yX0_putBridge : MethodName := ⟨RX0, "putBridge", "(III)V"⟩
abbrev cX0_wouldLoop : ByteArray := prog_2_method_12_code
def yX0_wouldLoop : MethodName := ⟨RX0, "wouldLoop", "(II)Z"⟩
abbrev cX0_faultCount : ByteArray := prog_2_method_13_code
def yX0_faultCount : MethodName := ⟨RX0, "faultCount", "()I"⟩
abbrev cX0_greatestLevel : ByteArray := prog_2_method_14_code
def yX0_greatestLevel : MethodName := ⟨RX0, "greatestLevel", "()I"⟩
abbrev cX0_outputOf : ByteArray := prog_2_method_15_code
def yX0_outputOf : MethodName := ⟨RX0, "outputOf", "(I)I"⟩
abbrev cX0_fullWords : ByteArray := prog_2_method_16_code
def yX0_fullWords : MethodName := ⟨RX0, "fullWords", "()I"⟩
abbrev cX0_hasBit : ByteArray := prog_2_method_17_code
def yX0_hasBit : MethodName := ⟨RX0, "hasBit", "(II)Z"⟩
def RX1 : String := "FaultTests$History"
def TX1 : u_T := fun k => match k with
  | 0 => ("FaultTests$History", "count", "I", false)
  | 1 => ("FaultTests$History", "next", "I", false)
  | _ => ("FaultTests$History", "ring", "[LFaultTests$Setup;", true)
def tyX1 : Nat → FieldType := fun k => match k with
  | 0 => .int
  | 1 => .int
  | _ => .array (.object "FaultTests$Setup")
theorem nmX1 : ∀ a, a < 3 → ∀ b, b < 3 → a ≠ b → (TX1 a).2.1 ≠ (TX1 b).2.1 := by decide +kernel
theorem tyX1_ok : ∀ k, k < 3 → parseFieldDescriptor (TX1 k).2.2.1 = some (tyX1 k) := by decide +kernel
abbrev cX1_init : ByteArray := prog_3_method_1_code
def yX1_init : MethodName := ⟨RX1, "<init>", "()V"⟩
abbrev cX1_push : ByteArray := prog_3_method_2_code
def yX1_push : MethodName := ⟨RX1, "push", "(LFaultTests$Setup;)V"⟩
def RX2 : String := "FaultTests$Lanes"
def TX2 : u_T := fun k => match k with
  | 0 => ("FaultTests$Lanes", "zero", "[J", true)
  | _ => ("FaultTests$Lanes", "one", "[J", true)
def tyX2 : Nat → FieldType := fun k => match k with
  | 0 => .array .long
  | _ => .array .long
theorem nmX2 : ∀ a, a < 2 → ∀ b, b < 2 → a ≠ b → (TX2 a).2.1 ≠ (TX2 b).2.1 := by decide +kernel
theorem tyX2_ok : ∀ k, k < 2 → parseFieldDescriptor (TX2 k).2.2.1 = some (tyX2 k) := by decide +kernel
abbrev cX2_init : ByteArray := prog_4_method_1_code
def yX2_init : MethodName := ⟨RX2, "<init>", "()V"⟩
abbrev cX2_lane : ByteArray := prog_4_method_2_code
def yX2_lane : MethodName := ⟨RX2, "lane", "(II)I"⟩
abbrev cX2_setFullInputs : ByteArray := prog_4_method_3_code
def yX2_setFullInputs : MethodName := ⟨RX2, "setFullInputs", "(II)V"⟩
abbrev cX2_setTestInputs : ByteArray := prog_4_method_4_code
def yX2_setTestInputs : MethodName := ⟨RX2, "setTestInputs", "(ILFaultTests$TestList;)V"⟩
abbrev cX2_runGates : ByteArray := prog_4_method_5_code
def yX2_runGates : MethodName := ⟨RX2, "runGates", "(LFaultTests$Circuit;)V"⟩
abbrev cX2_runFault : ByteArray := prog_4_method_6_code
def yX2_runFault : MethodName := ⟨RX2, "runFault", "(LFaultTests$Circuit;LFaultTests$Lanes;I)V"⟩
abbrev cX2_setSites : ByteArray := prog_4_method_7_code
def yX2_setSites : MethodName := ⟨RX2, "setSites", "(LFaultTests$Circuit;LFaultTests$Lanes;I)I"⟩
abbrev cX2_runGate : ByteArray := prog_4_method_8_code
def yX2_runGate : MethodName := ⟨RX2, "runGate", "(LFaultTests$Circuit;I)V"⟩
def RX3 : String := "FaultTests$Rows"
def TX3 : u_T := fun k => match k with
  | 0 => ("FaultTests$Rows", "good", "LFaultTests$Lanes;", true)
  | 1 => ("FaultTests$Rows", "bad", "LFaultTests$Lanes;", true)
  | 2 => ("FaultTests$Rows", "zero", "[J", true)
  | 3 => ("FaultTests$Rows", "one", "[J", true)
  | _ => ("FaultTests$Rows", "words", "I", true)
def tyX3 : Nat → FieldType := fun k => match k with
  | 0 => .object "FaultTests$Lanes"
  | 1 => .object "FaultTests$Lanes"
  | 2 => .array .long
  | 3 => .array .long
  | _ => .int
theorem nmX3 : ∀ a, a < 5 → ∀ b, b < 5 → a ≠ b → (TX3 a).2.1 ≠ (TX3 b).2.1 := by decide +kernel
theorem tyX3_ok : ∀ k, k < 5 → parseFieldDescriptor (TX3 k).2.2.1 = some (tyX3 k) := by decide +kernel
abbrev cX3_init : ByteArray := prog_5_method_1_code
def yX3_init : MethodName := ⟨RX3, "<init>", "(I)V"⟩
abbrev cX3_rowOf : ByteArray := prog_5_method_2_code
def yX3_rowOf : MethodName := ⟨RX3, "rowOf", "(III)I"⟩
abbrev cX3_work : ByteArray := prog_5_method_3_code
def yX3_work : MethodName := ⟨RX3, "work", "(LFaultTests$Circuit;I)V"⟩
abbrev cX3_store : ByteArray := prog_5_method_4_code
def yX3_store : MethodName := ⟨RX3, "store", "(LFaultTests$Circuit;LFaultTests$Lanes;II)V"⟩
abbrev cX3_apart : ByteArray := prog_5_method_5_code
def yX3_apart : MethodName := ⟨RX3, "apart", "(LFaultTests$Circuit;III)J"⟩
abbrev cX3_blurred : ByteArray := prog_5_method_6_code
def yX3_blurred : MethodName := ⟨RX3, "blurred", "(LFaultTests$Circuit;II)J"⟩
abbrev cX3_firstApart : ByteArray := prog_5_method_7_code
def yX3_firstApart : MethodName := ⟨RX3, "firstApart", "(LFaultTests$Circuit;II)I"⟩
def RX4 : String := "FaultTests$Setup"
def TX4 : u_T := fun k => match k with
  | 0 => ("FaultTests$Setup", "circuit", "LFaultTests$Circuit;", true)
  | _ => ("FaultTests$Setup", "tests", "LFaultTests$TestList;", true)
def tyX4 : Nat → FieldType := fun k => match k with
  | 0 => .object "FaultTests$Circuit"
  | _ => .object "FaultTests$TestList"
theorem nmX4 : ∀ a, a < 2 → ∀ b, b < 2 → a ≠ b → (TX4 a).2.1 ≠ (TX4 b).2.1 := by decide +kernel
theorem tyX4_ok : ∀ k, k < 2 → parseFieldDescriptor (TX4 k).2.2.1 = some (tyX4 k) := by decide +kernel
abbrev cX4_init : ByteArray := prog_6_method_1_code
def yX4_init : MethodName := ⟨RX4, "<init>", "()V"⟩
abbrev cX4_clear : ByteArray := prog_6_method_2_code
def yX4_clear : MethodName := ⟨RX4, "clear", "(I)V"⟩
abbrev cX4_copyFrom : ByteArray := prog_6_method_3_code
def yX4_copyFrom : MethodName := ⟨RX4, "copyFrom", "(LFaultTests$Setup;)V"⟩
def RX5 : String := "FaultTests$SetupReader"
def TX5 : u_T := fun k => match k with
  | 0 => ("FaultTests$SetupReader", "setup", "LFaultTests$Setup;", true)
  | 1 => ("FaultTests$SetupReader", "textLength", "I", false)
  | 2 => ("FaultTests$SetupReader", "errorAt", "I", false)
  | 3 => ("FaultTests$SetupReader", "text", "[I", true)
  | 4 => ("FaultTests$SetupReader", "error", "I", false)
  | 5 => ("FaultTests$SetupReader", "end", "I", false)
  | 6 => ("FaultTests$SetupReader", "position", "I", false)
  | 7 => ("FaultTests$SetupReader", "token", "I", false)
  | 8 => ("FaultTests$SetupReader", "tokenStart", "I", false)
  | _ => ("FaultTests$SetupReader", "number", "I", false)
def tyX5 : Nat → FieldType := fun k => match k with
  | 0 => .object "FaultTests$Setup"
  | 1 => .int
  | 2 => .int
  | 3 => .array .int
  | 4 => .int
  | 5 => .int
  | 6 => .int
  | 7 => .int
  | 8 => .int
  | _ => .int
theorem nmX5 : ∀ a, a < 10 → ∀ b, b < 10 → a ≠ b → (TX5 a).2.1 ≠ (TX5 b).2.1 := by decide +kernel
theorem tyX5_ok : ∀ k, k < 10 → parseFieldDescriptor (TX5 k).2.2.1 = some (tyX5 k) := by decide +kernel
abbrev cX5_init : ByteArray := prog_7_method_1_code
def yX5_init : MethodName := ⟨RX5, "<init>", "()V"⟩
abbrev cX5_putBytes : ByteArray := prog_7_method_2_code
def yX5_putBytes : MethodName := ⟨RX5, "putBytes", "(I)V"⟩
abbrev cX5_read : ByteArray := prog_7_method_3_code
def yX5_read : MethodName := ⟨RX5, "read", "(I)I"⟩
abbrev cX5_fail : ByteArray := prog_7_method_4_code
def yX5_fail : MethodName := ⟨RX5, "fail", "(I)Z"⟩
abbrev cX5_readCircuit : ByteArray := prog_7_method_5_code
def yX5_readCircuit : MethodName := ⟨RX5, "readCircuit", "()Z"⟩
abbrev cX5_readStatement : ByteArray := prog_7_method_6_code
def yX5_readStatement : MethodName := ⟨RX5, "readStatement", "()Z"⟩
abbrev cX5_readSemicolon : ByteArray := prog_7_method_7_code
def yX5_readSemicolon : MethodName := ⟨RX5, "readSemicolon", "()Z"⟩
abbrev cX5_readGate : ByteArray := prog_7_method_8_code
def yX5_readGate : MethodName := ⟨RX5, "readGate", "()Z"⟩
abbrev cX5_readOutputs : ByteArray := prog_7_method_9_code
def yX5_readOutputs : MethodName := ⟨RX5, "readOutputs", "()Z"⟩
abbrev cX5_readBridge : ByteArray := prog_7_method_10_code
def yX5_readBridge : MethodName := ⟨RX5, "readBridge", "()Z"⟩
abbrev cX5_isKnownWire : ByteArray := prog_7_method_11_code
def yX5_isKnownWire : MethodName := ⟨RX5, "isKnownWire", "()Z"⟩
abbrev cX5_readTest : ByteArray := prog_7_method_12_code
def yX5_readTest : MethodName := ⟨RX5, "readTest", "()Z"⟩
abbrev cX5_kindOfWord : ByteArray := prog_7_method_13_code
def yX5_kindOfWord : MethodName := ⟨RX5, "kindOfWord", "()I"⟩
abbrev cX5_isWord : ByteArray := prog_7_method_14_code
def yX5_isWord : MethodName := ⟨RX5, "isWord", "(Ljava/lang/String;)Z"⟩
abbrev cX5_advance : ByteArray := prog_7_method_15_code
def yX5_advance : MethodName := ⟨RX5, "advance", "()V"⟩
abbrev cX5_isDigit : ByteArray := prog_7_method_16_code
def yX5_isDigit : MethodName := ⟨RX5, "isDigit", "(I)Z"⟩
abbrev cX5_isLetter : ByteArray := prog_7_method_17_code
def yX5_isLetter : MethodName := ⟨RX5, "isLetter", "(I)Z"⟩
def RX6 : String := "FaultTests$TestList"
def TX6 : u_T := fun k => match k with
  | 0 => ("FaultTests$TestList", "count", "I", false)
  | 1 => ("FaultTests$TestList", "ones", "[I", true)
  | 2 => ("FaultTests$TestList", "unknowns", "[I", true)
  | 3 => ("FaultTests$TestList", "seenZero", "[I", true)
  | _ => ("FaultTests$TestList", "seenOne", "[I", true)
def tyX6 : Nat → FieldType := fun k => match k with
  | 0 => .int
  | 1 => .array .int
  | 2 => .array .int
  | 3 => .array .int
  | _ => .array .int
theorem nmX6 : ∀ a, a < 5 → ∀ b, b < 5 → a ≠ b → (TX6 a).2.1 ≠ (TX6 b).2.1 := by decide +kernel
theorem tyX6_ok : ∀ k, k < 5 → parseFieldDescriptor (TX6 k).2.2.1 = some (tyX6 k) := by decide +kernel
abbrev cX6_init : ByteArray := prog_8_method_1_code
def yX6_init : MethodName := ⟨RX6, "<init>", "()V"⟩
abbrev cX6_clear : ByteArray := prog_8_method_2_code
def yX6_clear : MethodName := ⟨RX6, "clear", "()V"⟩
abbrev cX6_clearSeen : ByteArray := prog_8_method_3_code
def yX6_clearSeen : MethodName := ⟨RX6, "clearSeen", "()V"⟩
abbrev cX6_copyFrom : ByteArray := prog_8_method_4_code
def yX6_copyFrom : MethodName := ⟨RX6, "copyFrom", "(LFaultTests$TestList;)V"⟩
abbrev cX6_isFull : ByteArray := prog_8_method_5_code
def yX6_isFull : MethodName := ⟨RX6, "isFull", "()Z"⟩
abbrev cX6_put : ByteArray := prog_8_method_6_code
def yX6_put : MethodName := ⟨RX6, "put", "(II)V"⟩
abbrev cX6_countSeen : ByteArray := prog_8_method_11_code
def yX6_countSeen : MethodName := ⟨RX6, "countSeen", "()I"⟩
def RX7 : String := "FaultTests"
def TX7 : u_T := fun k => match k with
  | 0 => ("FaultTests", "reader", "LFaultTests$SetupReader;", true)
  | 1 => ("FaultTests", "now", "LFaultTests$Setup;", true)
  | 2 => ("FaultTests", "history", "LFaultTests$History;", true)
  | 3 => ("FaultTests", "fullRows", "LFaultTests$Rows;", true)
  | 4 => ("FaultTests", "testRows", "LFaultTests$Rows;", true)
  | 5 => ("FaultTests", "fullRowsFresh", "Z", false)
  | 6 => ("FaultTests", "testRowsFresh", "Z", false)
  | 7 => ("FaultTests", "fitting", "[I", true)
  | 8 => ("FaultTests", "partSizes", "[I", true)
  | 9 => ("FaultTests", "foundBy", "[J", true)
  | 10 => ("FaultTests", "foundUpTo", "[J", true)
  | _ => ("FaultTests", "foundByFull", "[J", true)
def tyX7 : Nat → FieldType := fun k => match k with
  | 0 => .object "FaultTests$SetupReader"
  | 1 => .object "FaultTests$Setup"
  | 2 => .object "FaultTests$History"
  | 3 => .object "FaultTests$Rows"
  | 4 => .object "FaultTests$Rows"
  | 5 => .boolean
  | 6 => .boolean
  | 7 => .array .int
  | 8 => .array .int
  | 9 => .array .long
  | 10 => .array .long
  | _ => .array .long
theorem nmX7 : ∀ a, a < 12 → ∀ b, b < 12 → a ≠ b → (TX7 a).2.1 ≠ (TX7 b).2.1 := by decide +kernel
theorem tyX7_ok : ∀ k, k < 12 → parseFieldDescriptor (TX7 k).2.2.1 = some (tyX7 k) := by decide +kernel
abbrev cX7_init : ByteArray := prog_1_method_1_code
def yX7_init : MethodName := ⟨RX7, "<init>", "()V"⟩
abbrev cX7_append : ByteArray := prog_1_method_2_code
def yX7_append : MethodName := ⟨RX7, "append", "(IIIII)I"⟩
abbrev cX7_load : ByteArray := prog_1_method_3_code
def yX7_load : MethodName := ⟨RX7, "load", "(I)I"⟩
abbrev cX7_state : ByteArray := prog_1_method_5_code
def yX7_state : MethodName := ⟨RX7, "state", "(I)I"⟩
abbrev cX7_value : ByteArray := prog_1_method_8_code
def yX7_value : MethodName := ⟨RX7, "value", "(II)I"⟩
abbrev cX7_faulty : ByteArray := prog_1_method_9_code
def yX7_faulty : MethodName := ⟨RX7, "faulty", "(III)I"⟩
abbrev cX7_finds : ByteArray := prog_1_method_10_code
def yX7_finds : MethodName := ⟨RX7, "finds", "(II)I"⟩
abbrev cX7_worth : ByteArray := prog_1_method_12_code
def yX7_worth : MethodName := ⟨RX7, "worth", "(I)I"⟩
abbrev cX7_testFor : ByteArray := prog_1_method_13_code
def yX7_testFor : MethodName := ⟨RX7, "testFor", "(I)I"⟩
abbrev cX7_hidden : ByteArray := prog_1_method_15_code
def yX7_hidden : MethodName := ⟨RX7, "hidden", "()I"⟩
abbrev cX7_alike : ByteArray := prog_1_method_16_code
def yX7_alike : MethodName := ⟨RX7, "alike", "(I)I"⟩
abbrev cX7_classes : ByteArray := prog_1_method_17_code
def yX7_classes : MethodName := ⟨RX7, "classes", "()I"⟩
abbrev cX7_addTest : ByteArray := prog_1_method_23_code
def yX7_addTest : MethodName := ⟨RX7, "addTest", "(II)I"⟩
abbrev cX7_checkWire : ByteArray := prog_1_method_33_code
def yX7_checkWire : MethodName := ⟨RX7, "checkWire", "(I)V"⟩
abbrev cX7_checkTest : ByteArray := prog_1_method_34_code
def yX7_checkTest : MethodName := ⟨RX7, "checkTest", "(I)V"⟩
abbrev cX7_checkFault : ByteArray := prog_1_method_35_code
def yX7_checkFault : MethodName := ⟨RX7, "checkFault", "(I)V"⟩
abbrev cX7_areInputs : ByteArray := prog_1_method_36_code
def yX7_areInputs : MethodName := ⟨RX7, "areInputs", "(I)Z"⟩
abbrev cX7_hasLane : ByteArray := prog_1_method_37_code
def yX7_hasLane : MethodName := ⟨RX7, "hasLane", "(JI)Z"⟩
abbrev cX7_forgetRows : ByteArray := prog_1_method_38_code
def yX7_forgetRows : MethodName := ⟨RX7, "forgetRows", "()V"⟩
abbrev cX7_refreshFullRows : ByteArray := prog_1_method_39_code
def yX7_refreshFullRows : MethodName := ⟨RX7, "refreshFullRows", "()V"⟩
abbrev cX7_refreshTestRows : ByteArray := prog_1_method_40_code
def yX7_refreshTestRows : MethodName := ⟨RX7, "refreshTestRows", "()V"⟩
abbrev cX7_listFoundByTests : ByteArray := prog_1_method_41_code
def yX7_listFoundByTests : MethodName := ⟨RX7, "listFoundByTests", "()J"⟩
abbrev cX7_listFound : ByteArray := prog_1_method_43_code
def yX7_listFound : MethodName := ⟨RX7, "listFound", "(LFaultTests$Rows;I[J)J"⟩
abbrev cX7_firstAlike : ByteArray := prog_1_method_44_code
def yX7_firstAlike : MethodName := ⟨RX7, "firstAlike", "(I)I"⟩
def RX8 : String := "FaultTestsLaw$Model"
def TX8 : u_T := fun k => match k with
  | 0 => ("FaultTestsLaw$Model", "inputs", "I", true)
  | 1 => ("FaultTestsLaw$Model", "gates", "I", true)
  | 2 => ("FaultTestsLaw$Model", "kind", "[I", true)
  | 3 => ("FaultTestsLaw$Model", "operands", "[[I", true)
  | 4 => ("FaultTestsLaw$Model", "outputs", "[I", true)
  | 5 => ("FaultTestsLaw$Model", "bridgeKind", "I", false)
  | 6 => ("FaultTestsLaw$Model", "bridgeOne", "I", false)
  | _ => ("FaultTestsLaw$Model", "bridgeOther", "I", false)
def tyX8 : Nat → FieldType := fun k => match k with
  | 0 => .int
  | 1 => .int
  | 2 => .array .int
  | 3 => .array (.array .int)
  | 4 => .array .int
  | 5 => .int
  | 6 => .int
  | _ => .int
theorem nmX8 : ∀ a, a < 8 → ∀ b, b < 8 → a ≠ b → (TX8 a).2.1 ≠ (TX8 b).2.1 := by decide +kernel
theorem tyX8_ok : ∀ k, k < 8 → parseFieldDescriptor (TX8 k).2.2.1 = some (tyX8 k) := by decide +kernel
abbrev cX8_init : ByteArray := prog_10_method_1_code
def yX8_init : MethodName := ⟨RX8, "<init>", "(II)V"⟩
abbrev cX8_wires : ByteArray := prog_10_method_2_code
def yX8_wires : MethodName := ⟨RX8, "wires", "()I"⟩
abbrev cX8_values : ByteArray := prog_10_method_3_code
def yX8_values : MethodName := ⟨RX8, "values", "([II)[I"⟩
abbrev cX8_finds : ByteArray := prog_10_method_4_code
def yX8_finds : MethodName := ⟨RX8, "finds", "([II)I"⟩
abbrev cX8_full : ByteArray := prog_10_method_5_code
def yX8_full : MethodName := ⟨RX8, "full", "(I)[I"⟩
abbrev cX8_isApart : ByteArray := prog_10_method_6_code
def yX8_isApart : MethodName := ⟨RX8, "isApart", "(II)Z"⟩
def RX9 : String := "FaultTestsModel"
def TX9 : u_T := fun k => match k with
  | _ => ("", "", "", false)
def tyX9 : Nat → FieldType := fun k => match k with
  | _ => .int
theorem nmX9 : ∀ a, a < 0 → ∀ b, b < 0 → a ≠ b → (TX9 a).2.1 ≠ (TX9 b).2.1 := by decide +kernel
theorem tyX9_ok : ∀ k, k < 0 → parseFieldDescriptor (TX9 k).2.2.1 = some (tyX9 k) := by decide +kernel
def RJx145de : String := "java/io/Serializable"
def TJx145de : u_T := fun k => match k with
  | _ => ("", "", "", false)
def tyJx145de : Nat → FieldType := fun k => match k with
  | _ => .int
theorem nmJx145de : ∀ a, a < 0 → ∀ b, b < 0 → a ≠ b → (TJx145de a).2.1 ≠ (TJx145de b).2.1 := by decide +kernel
theorem tyJx145de_ok : ∀ k, k < 0 → parseFieldDescriptor (TJx145de k).2.2.1 = some (tyJx145de k) := by decide +kernel
def RJ5 : String := "java/lang/AbstractStringBuilder"
def TJ5 : u_T := fun k => match k with
  | _ => ("", "", "", false)
def tyJ5 : Nat → FieldType := fun k => match k with
  | _ => .int
theorem nmJ5 : ∀ a, a < 0 → ∀ b, b < 0 → a ≠ b → (TJ5 a).2.1 ≠ (TJ5 b).2.1 := by decide +kernel
theorem tyJ5_ok : ∀ k, k < 0 → parseFieldDescriptor (TJ5 k).2.2.1 = some (tyJ5 k) := by decide +kernel
abbrev cJ5_init_d00df : ByteArray := prog_12_method_2_code
def yJ5_init_d00df : MethodName := ⟨RJ5, "<init>", "(I)V"⟩
abbrev cJ5_init_a7421 : ByteArray := prog_12_method_3_code
def yJ5_init_a7421 : MethodName := ⟨RJ5, "<init>", "(Ljava/lang/String;)V"⟩
abbrev cJ5_length_8abf5 : ByteArray := prog_12_method_6_code
def yJ5_length_8abf5 : MethodName := ⟨RJ5, "length", "()I"⟩
abbrev cJ5_ensureCapacityInternal_d00df : ByteArray := prog_12_method_9_code
def yJ5_ensureCapacityInternal_d00df : MethodName := ⟨RJ5, "ensureCapacityInternal", "(I)V"⟩
abbrev cJ5_newCapacity_0f7a4 : ByteArray := prog_12_method_10_code
def yJ5_newCapacity_0f7a4 : MethodName := ⟨RJ5, "newCapacity", "(I)I"⟩
abbrev cJ5_inflate_da8c8 : ByteArray := prog_12_method_11_code
def yJ5_inflate_da8c8 : MethodName := ⟨RJ5, "inflate", "()V"⟩
abbrev cJ5_append_cf1ce : ByteArray := prog_12_method_22_code
def yJ5_append_cf1ce : MethodName := ⟨RJ5, "append", "(Ljava/lang/String;)Ljava/lang/AbstractStringBuilder;"⟩
abbrev cJ5_appendNull_278bc : ByteArray := prog_12_method_26_code
def yJ5_appendNull_278bc : MethodName := ⟨RJ5, "appendNull", "()Ljava/lang/AbstractStringBuilder;"⟩
abbrev cJ5_append_3fe6f : ByteArray := prog_12_method_31_code
def yJ5_append_3fe6f : MethodName := ⟨RJ5, "append", "(C)Ljava/lang/AbstractStringBuilder;"⟩
abbrev cJ5_append_c97b9 : ByteArray := prog_12_method_32_code
def yJ5_append_c97b9 : MethodName := ⟨RJ5, "append", "(I)Ljava/lang/AbstractStringBuilder;"⟩
abbrev cJ5_getValue_6d5f1 : ByteArray := prog_12_method_64_code
def yJ5_getValue_6d5f1 : MethodName := ⟨RJ5, "getValue", "()[B"⟩
abbrev cJ5_isLatin1_aae02 : ByteArray := prog_12_method_68_code
def yJ5_isLatin1_aae02 : MethodName := ⟨RJ5, "isLatin1", "()Z"⟩
abbrev cJ5_inflateIfNeededFor_a7421 : ByteArray := prog_12_method_71_code
def yJ5_inflateIfNeededFor_a7421 : MethodName := ⟨RJ5, "inflateIfNeededFor", "(Ljava/lang/String;)V"⟩
abbrev cJ5_putStringAt_47b60 : ByteArray := prog_12_method_73_code
def yJ5_putStringAt_47b60 : MethodName := ⟨RJ5, "putStringAt", "(ILjava/lang/String;)V"⟩
def RJx2cfe8 : String := "java/lang/Appendable"
def TJx2cfe8 : u_T := fun k => match k with
  | _ => ("", "", "", false)
def tyJx2cfe8 : Nat → FieldType := fun k => match k with
  | _ => .int
theorem nmJx2cfe8 : ∀ a, a < 0 → ∀ b, b < 0 → a ≠ b → (TJx2cfe8 a).2.1 ≠ (TJx2cfe8 b).2.1 := by decide +kernel
theorem tyJx2cfe8_ok : ∀ k, k < 0 → parseFieldDescriptor (TJx2cfe8 k).2.2.1 = some (tyJx2cfe8 k) := by decide +kernel
def RJx9f9b0 : String := "java/lang/CharSequence"
def TJx9f9b0 : u_T := fun k => match k with
  | _ => ("", "", "", false)
def tyJx9f9b0 : Nat → FieldType := fun k => match k with
  | _ => .int
theorem nmJx9f9b0 : ∀ a, a < 0 → ∀ b, b < 0 → a ≠ b → (TJx9f9b0 a).2.1 ≠ (TJx9f9b0 b).2.1 := by decide +kernel
theorem tyJx9f9b0_ok : ∀ k, k < 0 → parseFieldDescriptor (TJx9f9b0 k).2.2.1 = some (tyJx9f9b0 k) := by decide +kernel
def RJx8e188 : String := "java/lang/Cloneable"
def TJx8e188 : u_T := fun k => match k with
  | _ => ("", "", "", false)
def tyJx8e188 : Nat → FieldType := fun k => match k with
  | _ => .int
theorem nmJx8e188 : ∀ a, a < 0 → ∀ b, b < 0 → a ≠ b → (TJx8e188 a).2.1 ≠ (TJx8e188 b).2.1 := by decide +kernel
theorem tyJx8e188_ok : ∀ k, k < 0 → parseFieldDescriptor (TJx8e188 k).2.2.1 = some (tyJx8e188 k) := by decide +kernel
def RJxb160c : String := "java/lang/Comparable"
def TJxb160c : u_T := fun k => match k with
  | _ => ("", "", "", false)
def tyJxb160c : Nat → FieldType := fun k => match k with
  | _ => .int
theorem nmJxb160c : ∀ a, a < 0 → ∀ b, b < 0 → a ≠ b → (TJxb160c a).2.1 ≠ (TJxb160c b).2.1 := by decide +kernel
theorem tyJxb160c_ok : ∀ k, k < 0 → parseFieldDescriptor (TJxb160c k).2.2.1 = some (tyJxb160c k) := by decide +kernel
def RJ6 : String := "java/lang/Integer"
def TJ6 : u_T := fun k => match k with
  | _ => ("", "", "", false)
def tyJ6 : Nat → FieldType := fun k => match k with
  | _ => .int
theorem nmJ6 : ∀ a, a < 0 → ∀ b, b < 0 → a ≠ b → (TJ6 a).2.1 ≠ (TJ6 b).2.1 := by decide +kernel
theorem tyJ6_ok : ∀ k, k < 0 → parseFieldDescriptor (TJ6 k).2.2.1 = some (tyJ6 k) := by decide +kernel
abbrev cJ6_getChars_ba4f3 : ByteArray := prog_18_method_12_code
def yJ6_getChars_ba4f3 : MethodName := ⟨RJ6, "getChars", "(II[B)I"⟩
abbrev cJ6_stringSize_0f7a4 : ByteArray := prog_18_method_13_code
def yJ6_stringSize_0f7a4 : MethodName := ⟨RJ6, "stringSize", "(I)I"⟩
abbrev cJ6_bitCount_0f7a4 : ByteArray := prog_18_method_49_code
def yJ6_bitCount_0f7a4 : MethodName := ⟨RJ6, "bitCount", "(I)I"⟩
def RJ13 : String := "java/lang/Long"
def TJ13 : u_T := fun k => match k with
  | _ => ("", "", "", false)
def tyJ13 : Nat → FieldType := fun k => match k with
  | _ => .int
theorem nmJ13 : ∀ a, a < 0 → ∀ b, b < 0 → a ≠ b → (TJ13 a).2.1 ≠ (TJ13 b).2.1 := by decide +kernel
theorem tyJ13_ok : ∀ k, k < 0 → parseFieldDescriptor (TJ13 k).2.2.1 = some (tyJ13 k) := by decide +kernel
abbrev cJ13_bitCount_95d88 : ByteArray := prog_19_method_50_code
def yJ13_bitCount_95d88 : MethodName := ⟨RJ13, "bitCount", "(J)I"⟩
def RJ9 : String := "java/lang/Math"
def TJ9 : u_T := fun k => match k with
  | _ => ("", "", "", false)
def tyJ9 : Nat → FieldType := fun k => match k with
  | _ => .int
theorem nmJ9 : ∀ a, a < 0 → ∀ b, b < 0 → a ≠ b → (TJ9 a).2.1 ≠ (TJ9 b).2.1 := by decide +kernel
theorem tyJ9_ok : ∀ k, k < 0 → parseFieldDescriptor (TJ9 k).2.2.1 = some (tyJ9 k) := by decide +kernel
abbrev cJ9_max_7cf53 : ByteArray := prog_20_method_65_code
def yJ9_max_7cf53 : MethodName := ⟨RJ9, "max", "(II)I"⟩
abbrev cJ9_min_7cf53 : ByteArray := prog_20_method_69_code
def yJ9_min_7cf53 : MethodName := ⟨RJ9, "min", "(II)I"⟩
def RJxd2413 : String := "java/lang/Number"
def TJxd2413 : u_T := fun k => match k with
  | _ => ("", "", "", false)
def tyJxd2413 : Nat → FieldType := fun k => match k with
  | _ => .int
theorem nmJxd2413 : ∀ a, a < 0 → ∀ b, b < 0 → a ≠ b → (TJxd2413 a).2.1 ≠ (TJxd2413 b).2.1 := by decide +kernel
theorem tyJxd2413_ok : ∀ k, k < 0 → parseFieldDescriptor (TJxd2413 k).2.2.1 = some (tyJxd2413 k) := by decide +kernel
def RJ0 : String := "java/lang/String"
def TJ0 : u_T := fun k => match k with
  | 0 => ("java/lang/String", "value", "[B", true)
  | 1 => ("java/lang/String", "coder", "B", true)
  | 2 => ("java/lang/String", "hash", "I", false)
  | _ => ("java/lang/String", "hashIsZero", "Z", false)
def tyJ0 : Nat → FieldType := fun k => match k with
  | 0 => .array .byte
  | 1 => .byte
  | 2 => .int
  | _ => .boolean
theorem nmJ0 : ∀ a, a < 4 → ∀ b, b < 4 → a ≠ b → (TJ0 a).2.1 ≠ (TJ0 b).2.1 := by decide +kernel
theorem tyJ0_ok : ∀ k, k < 4 → parseFieldDescriptor (TJ0 k).2.2.1 = some (tyJ0 k) := by decide +kernel
abbrev cJ0_init_81219 : ByteArray := prog_23_method_53_code
def yJ0_init_81219 : MethodName := ⟨RJ0, "<init>", "(Ljava/lang/StringBuilder;)V"⟩
abbrev cJ0_length_8abf5 : ByteArray := prog_23_method_54_code
def yJ0_length_8abf5 : MethodName := ⟨RJ0, "length", "()I"⟩
abbrev cJ0_charAt_5068e : ByteArray := prog_23_method_56_code
def yJ0_charAt_5068e : MethodName := ⟨RJ0, "charAt", "(I)C"⟩
abbrev cJ0_getBytes_840e7 : ByteArray := prog_23_method_147_code
def yJ0_getBytes_840e7 : MethodName := ⟨RJ0, "getBytes", "([BIB)V"⟩
abbrev cJ0_init_db425 : ByteArray := prog_23_method_150_code
def yJ0_init_db425 : MethodName := ⟨RJ0, "<init>", "(Ljava/lang/AbstractStringBuilder;Ljava/lang/Void;)V"⟩
abbrev cJ0_coder_7d493 : ByteArray := prog_23_method_152_code
def yJ0_coder_7d493 : MethodName := ⟨RJ0, "coder", "()B"⟩
abbrev cJ0_isLatin1_aae02 : ByteArray := prog_23_method_154_code
def yJ0_isLatin1_aae02 : MethodName := ⟨RJ0, "isLatin1", "()Z"⟩
abbrev cJ0_checkIndex_df160 : ByteArray := prog_23_method_155_code
def yJ0_checkIndex_df160 : MethodName := ⟨RJ0, "checkIndex", "(II)V"⟩
abbrev cJ0_checkBoundsOffCount_cabcc : ByteArray := prog_23_method_157_code
def yJ0_checkBoundsOffCount_cabcc : MethodName := ⟨RJ0, "checkBoundsOffCount", "(III)I"⟩
abbrev cJ0_checkBoundsBeginEnd_23922 : ByteArray := prog_23_method_158_code
def yJ0_checkBoundsBeginEnd_23922 : MethodName := ⟨RJ0, "checkBoundsBeginEnd", "(III)V"⟩
def RJ4 : String := "java/lang/StringBuilder"
def TJ4 : u_T := fun k => match k with
  | 0 => ("java/lang/AbstractStringBuilder", "value", "[B", false)
  | 1 => ("java/lang/AbstractStringBuilder", "coder", "B", false)
  | 2 => ("java/lang/AbstractStringBuilder", "maybeLatin1", "Z", false)
  | _ => ("java/lang/AbstractStringBuilder", "count", "I", false)
def tyJ4 : Nat → FieldType := fun k => match k with
  | 0 => .array .byte
  | 1 => .byte
  | 2 => .boolean
  | _ => .int
theorem nmJ4 : ∀ a, a < 4 → ∀ b, b < 4 → a ≠ b → (TJ4 a).2.1 ≠ (TJ4 b).2.1 := by decide +kernel
theorem tyJ4_ok : ∀ k, k < 4 → parseFieldDescriptor (TJ4 k).2.2.1 = some (tyJ4 k) := by decide +kernel
abbrev cJ4_init_da8c8 : ByteArray := prog_24_method_1_code
def yJ4_init_da8c8 : MethodName := ⟨RJ4, "<init>", "()V"⟩
abbrev cJ4_init_a7421 : ByteArray := prog_24_method_3_code
def yJ4_init_a7421 : MethodName := ⟨RJ4, "<init>", "(Ljava/lang/String;)V"⟩
abbrev cJ4_append_15ec4 : ByteArray := prog_24_method_7_code
def yJ4_append_15ec4 : MethodName := ⟨RJ4, "append", "(Ljava/lang/String;)Ljava/lang/StringBuilder;"⟩
abbrev cJ4_append_cf468 : ByteArray := prog_24_method_14_code
def yJ4_append_cf468 : MethodName := ⟨RJ4, "append", "(C)Ljava/lang/StringBuilder;"⟩
abbrev cJ4_append_bf812 : ByteArray := prog_24_method_15_code
def yJ4_append_bf812 : MethodName := ⟨RJ4, "append", "(I)Ljava/lang/StringBuilder;"⟩
abbrev cJ4_toString_0e30d : ByteArray := prog_24_method_42_code
def yJ4_toString_0e30d : MethodName := ⟨RJ4, "toString", "()Ljava/lang/String;"⟩
abbrev cJ4_append_cf1ce : ByteArray := prog_24_method_80_code
def yJ4_append_cf1ce : MethodName := ⟨RJ4, "append", "(Ljava/lang/String;)Ljava/lang/AbstractStringBuilder;"⟩
abbrev cJ4_length_8abf5 : ByteArray := prog_24_method_93_code
def yJ4_length_8abf5 : MethodName := ⟨RJ4, "length", "()I"⟩
def RJ1 : String := "java/lang/StringLatin1"
def TJ1 : u_T := fun k => match k with
  | _ => ("", "", "", false)
def tyJ1 : Nat → FieldType := fun k => match k with
  | _ => .int
theorem nmJ1 : ∀ a, a < 0 → ∀ b, b < 0 → a ≠ b → (TJ1 a).2.1 ≠ (TJ1 b).2.1 := by decide +kernel
theorem tyJ1_ok : ∀ k, k < 0 → parseFieldDescriptor (TJ1 k).2.2.1 = some (tyJ1 k) := by decide +kernel
abbrev cJ1_charAt_3b067 : ByteArray := prog_25_method_2_code
def yJ1_charAt_3b067 : MethodName := ⟨RJ1, "charAt", "([BI)C"⟩
abbrev cJ1_canEncode_fc78d : ByteArray := prog_25_method_3_code
def yJ1_canEncode_fc78d : MethodName := ⟨RJ1, "canEncode", "(C)Z"⟩
abbrev cJ1_inflate_0e8fd : ByteArray := prog_25_method_50_code
def yJ1_inflate_0e8fd : MethodName := ⟨RJ1, "inflate", "([BI[BII)V"⟩
def RJ2 : String := "java/lang/StringUTF16"
def TJ2 : u_T := fun k => match k with
  | _ => ("", "", "", false)
def tyJ2 : Nat → FieldType := fun k => match k with
  | _ => .int
theorem nmJ2 : ∀ a, a < 0 → ∀ b, b < 0 → a ≠ b → (TJ2 a).2.1 ≠ (TJ2 b).2.1 := by decide +kernel
theorem tyJ2_ok : ∀ k, k < 0 → parseFieldDescriptor (TJ2 k).2.2.1 = some (tyJ2 k) := by decide +kernel
abbrev cJ2_newBytesFor_77867 : ByteArray := prog_26_method_2_code
def yJ2_newBytesFor_77867 : MethodName := ⟨RJ2, "newBytesFor", "(I)[B"⟩
abbrev cJ2_newBytesLength_0f7a4 : ByteArray := prog_26_method_3_code
def yJ2_newBytesLength_0f7a4 : MethodName := ⟨RJ2, "newBytesLength", "(I)I"⟩
abbrev cJ2_putChar_b72d1 : ByteArray := prog_26_method_4_code
def yJ2_putChar_b72d1 : MethodName := ⟨RJ2, "putChar", "([BII)V"⟩
abbrev cJ2_getChar_3b067 : ByteArray := prog_26_method_5_code
def yJ2_getChar_3b067 : MethodName := ⟨RJ2, "getChar", "([BI)C"⟩
abbrev cJ2_length_9d52b : ByteArray := prog_26_method_6_code
def yJ2_length_9d52b : MethodName := ⟨RJ2, "length", "([B)I"⟩
abbrev cJ2_coderFromArrayLen_85cad : ByteArray := prog_26_method_15_code
def yJ2_coderFromArrayLen_85cad : MethodName := ⟨RJ2, "coderFromArrayLen", "([BI)B"⟩
abbrev cJ2_compress_39247 : ByteArray := prog_26_method_17_code
def yJ2_compress_39247 : MethodName := ⟨RJ2, "compress", "([BII)[B"⟩
abbrev cJ2_compress_5af95 : ByteArray := prog_26_method_22_code
def yJ2_compress_5af95 : MethodName := ⟨RJ2, "compress", "([BI[BII)I"⟩
abbrev cJ2_putCharSB_b72d1 : ByteArray := prog_26_method_71_code
def yJ2_putCharSB_b72d1 : MethodName := ⟨RJ2, "putCharSB", "([BII)V"⟩
abbrev cJ2_getChars_46870 : ByteArray := prog_26_method_77_code
def yJ2_getChars_46870 : MethodName := ⟨RJ2, "getChars", "(III[B)I"⟩
abbrev cJ2_putCharsAt_cd4e5 : ByteArray := prog_26_method_81_code
def yJ2_putCharsAt_cd4e5 : MethodName := ⟨RJ2, "putCharsAt", "([BICCCC)I"⟩
abbrev cJ2_charAt_3b067 : ByteArray := prog_26_method_83_code
def yJ2_charAt_3b067 : MethodName := ⟨RJ2, "charAt", "([BI)C"⟩
abbrev cJ2_inflate_0e8fd : ByteArray := prog_26_method_86_code
def yJ2_inflate_0e8fd : MethodName := ⟨RJ2, "inflate", "([BI[BII)V"⟩
abbrev cJ2_getChars_ba4f3 : ByteArray := prog_26_method_89_code
def yJ2_getChars_ba4f3 : MethodName := ⟨RJ2, "getChars", "(II[B)I"⟩
abbrev cJ2_checkIndex_2214a : ByteArray := prog_26_method_91_code
def yJ2_checkIndex_2214a : MethodName := ⟨RJ2, "checkIndex", "(I[B)V"⟩
abbrev cJ2_checkBoundsBeginEnd_d044e : ByteArray := prog_26_method_93_code
def yJ2_checkBoundsBeginEnd_d044e : MethodName := ⟨RJ2, "checkBoundsBeginEnd", "(II[B)V"⟩
abbrev cJ2_checkBoundsOffCount_d044e : ByteArray := prog_26_method_94_code
def yJ2_checkBoundsOffCount_d044e : MethodName := ⟨RJ2, "checkBoundsOffCount", "(II[B)V"⟩
def RJ10 : String := "java/lang/System"
def TJ10 : u_T := fun k => match k with
  | _ => ("", "", "", false)
def tyJ10 : Nat → FieldType := fun k => match k with
  | _ => .int
theorem nmJ10 : ∀ a, a < 0 → ∀ b, b < 0 → a ≠ b → (TJ10 a).2.1 ≠ (TJ10 b).2.1 := by decide +kernel
theorem tyJ10_ok : ∀ k, k < 0 → parseFieldDescriptor (TJ10 k).2.2.1 = some (tyJ10 k) := by decide +kernel
def RJxfd54e : String := "java/lang/constant/Constable"
def TJxfd54e : u_T := fun k => match k with
  | _ => ("", "", "", false)
def tyJxfd54e : Nat → FieldType := fun k => match k with
  | _ => .int
theorem nmJxfd54e : ∀ a, a < 0 → ∀ b, b < 0 → a ≠ b → (TJxfd54e a).2.1 ≠ (TJxfd54e b).2.1 := by decide +kernel
theorem tyJxfd54e_ok : ∀ k, k < 0 → parseFieldDescriptor (TJxfd54e k).2.2.1 = some (tyJxfd54e k) := by decide +kernel
def RJx3cf43 : String := "java/lang/constant/ConstantDesc"
def TJx3cf43 : u_T := fun k => match k with
  | _ => ("", "", "", false)
def tyJx3cf43 : Nat → FieldType := fun k => match k with
  | _ => .int
theorem nmJx3cf43 : ∀ a, a < 0 → ∀ b, b < 0 → a ≠ b → (TJx3cf43 a).2.1 ≠ (TJx3cf43 b).2.1 := by decide +kernel
theorem tyJx3cf43_ok : ∀ k, k < 0 → parseFieldDescriptor (TJx3cf43 k).2.2.1 = some (tyJx3cf43 k) := by decide +kernel
def RJ7 : String := "java/util/Arrays"
def TJ7 : u_T := fun k => match k with
  | _ => ("", "", "", false)
def tyJ7 : Nat → FieldType := fun k => match k with
  | _ => .int
theorem nmJ7 : ∀ a, a < 0 → ∀ b, b < 0 → a ≠ b → (TJ7 a).2.1 ≠ (TJ7 b).2.1 := by decide +kernel
theorem tyJ7_ok : ∀ k, k < 0 → parseFieldDescriptor (TJ7 k).2.2.1 = some (tyJ7 k) := by decide +kernel
abbrev cJ7_copyOf_9075b : ByteArray := prog_29_method_121_code
def yJ7_copyOf_9075b : MethodName := ⟨RJ7, "copyOf", "([BI)[B"⟩
abbrev cJ7_checkLength_df160 : ByteArray := prog_29_method_131_code
def yJ7_checkLength_df160 : MethodName := ⟨RJ7, "checkLength", "(II)V"⟩
abbrev cJ7_copyOfRange_39247 : ByteArray := prog_29_method_132_code
def yJ7_copyOfRange_39247 : MethodName := ⟨RJ7, "copyOfRange", "([BII)[B"⟩
abbrev cJ7_copyOfRangeByte_39247 : ByteArray := prog_29_method_133_code
def yJ7_copyOfRangeByte_39247 : MethodName := ⟨RJ7, "copyOfRangeByte", "([BII)[B"⟩
def RJ8 : String := "jdk/internal/util/ArraysSupport"
def TJ8 : u_T := fun k => match k with
  | _ => ("", "", "", false)
def tyJ8 : Nat → FieldType := fun k => match k with
  | _ => .int
theorem nmJ8 : ∀ a, a < 0 → ∀ b, b < 0 → a ≠ b → (TJ8 a).2.1 ≠ (TJ8 b).2.1 := by decide +kernel
theorem tyJ8_ok : ∀ k, k < 0 → parseFieldDescriptor (TJ8 k).2.2.1 = some (tyJ8 k) := by decide +kernel
abbrev cJ8_newLength_cabcc : ByteArray := prog_30_method_27_code
def yJ8_newLength_cabcc : MethodName := ⟨RJ8, "newLength", "(III)I"⟩
abbrev cJ8_hugeLength_7cf53 : ByteArray := prog_30_method_28_code
def yJ8_hugeLength_7cf53 : MethodName := ⟨RJ8, "hugeLength", "(II)I"⟩
def RJ3 : String := "jdk/internal/util/Preconditions"
def TJ3 : u_T := fun k => match k with
  | _ => ("", "", "", false)
def tyJ3 : Nat → FieldType := fun k => match k with
  | _ => .int
theorem nmJ3 : ∀ a, a < 0 → ∀ b, b < 0 → a ≠ b → (TJ3 a).2.1 ≠ (TJ3 b).2.1 := by decide +kernel
theorem tyJ3_ok : ∀ k, k < 0 → parseFieldDescriptor (TJ3 k).2.2.1 = some (tyJ3 k) := by decide +kernel
abbrev cJ3_checkIndex_8e157 : ByteArray := prog_31_method_11_code
def yJ3_checkIndex_8e157 : MethodName := ⟨RJ3, "checkIndex", "(IILjava/util/function/BiFunction;)I"⟩
abbrev cJ3_checkFromToIndex_8c36e : ByteArray := prog_31_method_12_code
def yJ3_checkFromToIndex_8c36e : MethodName := ⟨RJ3, "checkFromToIndex", "(IIILjava/util/function/BiFunction;)I"⟩
abbrev cJ3_checkFromIndexSize_8c36e : ByteArray := prog_31_method_13_code
def yJ3_checkFromIndexSize_8c36e : MethodName := ⟨RJ3, "checkFromIndexSize", "(IIILjava/util/function/BiFunction;)I"⟩
def RL : String := "FaultTestsLaw"
abbrev cL_cell : ByteArray := method_2_code
def yL_cell : MethodName := ⟨RL, "cell", "([II)I"⟩
abbrev cL_bound : ByteArray := method_3_code
def yL_bound : MethodName := ⟨RL, "bound", "(II)I"⟩
abbrev cL_read : ByteArray := method_4_code
def yL_read : MethodName := ⟨RL, "read", "(LFaultTests;Ljava/lang/String;)I"⟩
abbrev cL_plain : ByteArray := method_5_code
def yL_plain : MethodName := ⟨RL, "plain", "(III)I"⟩
abbrev cL_sets : ByteArray := method_6_code
def yL_sets : MethodName := ⟨RL, "sets", "(I[I)I"⟩
abbrev cL_toldOf : ByteArray := method_7_code
def yL_toldOf : MethodName := ⟨RL, "toldOf", "(I)I"⟩
abbrev cL_isTest : ByteArray := method_8_code
def yL_isTest : MethodName := ⟨RL, "isTest", "(LFaultTests;LFaultTestsLaw$Model;I[I)Z"⟩
abbrev cL_law : ByteArray := code
def yL_law : MethodName := ⟨RL, "law", "([I)Z"⟩
abbrev vwCl : List vw_C := [(RX0, TX0, 14), (RX1, TX1, 3), (RX2, TX2, 2), (RX3, TX3, 5), (RX4, TX4, 2), (RX5, TX5, 10), (RX6, TX6, 5), (RX7, TX7, 12), (RX8, TX8, 8), (RJ0, TJ0, 4), (RJ4, TJ4, 4)]
