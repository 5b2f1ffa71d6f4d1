def RX0 : String := "StochasticBench$Format"
def TX0 : u_T := fun k => match k with
  | 0 => ("StochasticBench$Format", "precision", "I", false)
  | 1 => ("StochasticBench$Format", "least", "I", false)
  | _ => ("StochasticBench$Format", "greatest", "I", false)
def tyX0 : Nat → FieldType := fun k => match k with
  | 0 => .int
  | 1 => .int
  | _ => .int
theorem nmX0 : ∀ a, a < 3 → ∀ b, b < 3 → a ≠ b → (TX0 a).2.1 ≠ (TX0 b).2.1 := by decide +kernel
theorem tyX0_ok : ∀ k, k < 3 → parseFieldDescriptor (TX0 k).2.2.1 = some (tyX0 k) := by decide +kernel
abbrev cX0_init : ByteArray := prog_2_method_1_code
def yX0_init : MethodName := ⟨RX0, "<init>", "()V"⟩
abbrev cX0_isPossible : ByteArray := prog_2_method_2_code
def yX0_isPossible : MethodName := ⟨RX0, "isPossible", "(III)Z"⟩
abbrev cX0_define : ByteArray := prog_2_method_3_code
def yX0_define : MethodName := ⟨RX0, "define", "(III)V"⟩
abbrev cX0_top : ByteArray := prog_2_method_4_code
def yX0_top : MethodName := ⟨RX0, "top", "()I"⟩
abbrev cX0_spacingBits : ByteArray := prog_2_method_5_code
def yX0_spacingBits : MethodName := ⟨RX0, "spacingBits", "(I)I"⟩
abbrev cX0_atMost : ByteArray := prog_2_method_6_code
def yX0_atMost : MethodName := ⟨RX0, "atMost", "(I)I"⟩
abbrev cX0_has : ByteArray := prog_2_method_7_code
def yX0_has : MethodName := ⟨RX0, "has", "(I)Z"⟩
abbrev cX0_countPositivesUpTo : ByteArray := prog_2_method_8_code
def yX0_countPositivesUpTo : MethodName := ⟨RX0, "countPositivesUpTo", "(I)I"⟩
abbrev cX0_countUpTo : ByteArray := prog_2_method_9_code
def yX0_countUpTo : MethodName := ⟨RX0, "countUpTo", "(I)I"⟩
abbrev cX0_covers : ByteArray := prog_2_method_10_code
def yX0_covers : MethodName := ⟨RX0, "covers", "(LStochasticBench$Format;)Z"⟩
def RX1 : String := "StochasticBench$History"
def TX1 : u_T := fun k => match k with
  | 0 => ("StochasticBench$History", "size", "I", false)
  | 1 => ("StochasticBench$History", "settings", "[LStochasticBench$Setting;", true)
  | 2 => ("StochasticBench$History", "ledgers", "[LStochasticBench$Ledger;", true)
  | _ => ("StochasticBench$History", "oldest", "I", false)
def tyX1 : Nat → FieldType := fun k => match k with
  | 0 => .int
  | 1 => .array (.object "StochasticBench$Setting")
  | 2 => .array (.object "StochasticBench$Ledger")
  | _ => .int
theorem nmX1 : ∀ a, a < 4 → ∀ b, b < 4 → a ≠ b → (TX1 a).2.1 ≠ (TX1 b).2.1 := by decide +kernel
theorem tyX1_ok : ∀ k, k < 4 → parseFieldDescriptor (TX1 k).2.2.1 = some (tyX1 k) := by decide +kernel
abbrev cX1_init : ByteArray := prog_3_method_1_code
def yX1_init : MethodName := ⟨RX1, "<init>", "()V"⟩
abbrev cX1_keep : ByteArray := prog_3_method_2_code
def yX1_keep : MethodName := ⟨RX1, "keep", "(LStochasticBench$Setting;LStochasticBench$Ledger;)V"⟩
abbrev cX1_restore : ByteArray := prog_3_method_3_code
def yX1_restore : MethodName := ⟨RX1, "restore", "(LStochasticBench$Setting;LStochasticBench$Ledger;)Z"⟩
def RX2 : String := "StochasticBench$Ledger"
def TX2 : u_T := fun k => match k with
  | 0 => ("StochasticBench$Ledger", "sums", "[J", true)
  | 1 => ("StochasticBench$Ledger", "size", "I", false)
  | 2 => ("StochasticBench$Ledger", "ring", "[LStochasticBench$Operation;", true)
  | _ => ("StochasticBench$Ledger", "oldest", "I", false)
def tyX2 : Nat → FieldType := fun k => match k with
  | 0 => .array .long
  | 1 => .int
  | 2 => .array (.object "StochasticBench$Operation")
  | _ => .int
theorem nmX2 : ∀ a, a < 4 → ∀ b, b < 4 → a ≠ b → (TX2 a).2.1 ≠ (TX2 b).2.1 := by decide +kernel
theorem tyX2_ok : ∀ k, k < 4 → parseFieldDescriptor (TX2 k).2.2.1 = some (tyX2 k) := by decide +kernel
abbrev cX2_init : ByteArray := prog_4_method_1_code
def yX2_init : MethodName := ⟨RX2, "<init>", "()V"⟩
abbrev cX2_copyFrom : ByteArray := prog_4_method_2_code
def yX2_copyFrom : MethodName := ⟨RX2, "copyFrom", "(LStochasticBench$Ledger;)V"⟩
abbrev cX2_clearSums : ByteArray := prog_4_method_3_code
def yX2_clearSums : MethodName := ⟨RX2, "clearSums", "()V"⟩
abbrev cX2_has : ByteArray := prog_4_method_4_code
def yX2_has : MethodName := ⟨RX2, "has", "(I)Z"⟩
abbrev cX2_at : ByteArray := prog_4_method_5_code
def yX2_at : MethodName := ⟨RX2, "at", "(I)LStochasticBench$Operation;"⟩
abbrev cX2_enter : ByteArray := prog_4_method_6_code
def yX2_enter : MethodName := ⟨RX2, "enter", "(LStochasticBench$Operation;)V"⟩
def RX3 : String := "StochasticBench$Operation"
def TX3 : u_T := fun k => match k with
  | 0 => ("StochasticBench$Operation", "number", "I", false)
  | 1 => ("StochasticBench$Operation", "code", "I", false)
  | 2 => ("StochasticBench$Operation", "mode", "I", false)
  | 3 => ("StochasticBench$Operation", "bits", "I", false)
  | 4 => ("StochasticBench$Operation", "draw", "I", false)
  | 5 => ("StochasticBench$Operation", "lower", "I", false)
  | 6 => ("StochasticBench$Operation", "upper", "I", false)
  | 7 => ("StochasticBench$Operation", "outcome", "I", false)
  | 8 => ("StochasticBench$Operation", "marks", "I", false)
  | 9 => ("StochasticBench$Operation", "numerator", "J", false)
  | _ => ("StochasticBench$Operation", "divisor", "J", false)
def tyX3 : Nat → FieldType := fun k => match k with
  | 0 => .int
  | 1 => .int
  | 2 => .int
  | 3 => .int
  | 4 => .int
  | 5 => .int
  | 6 => .int
  | 7 => .int
  | 8 => .int
  | 9 => .long
  | _ => .long
theorem nmX3 : ∀ a, a < 11 → ∀ b, b < 11 → a ≠ b → (TX3 a).2.1 ≠ (TX3 b).2.1 := by decide +kernel
theorem tyX3_ok : ∀ k, k < 11 → parseFieldDescriptor (TX3 k).2.2.1 = some (tyX3 k) := by decide +kernel
abbrev cX3_init : ByteArray := prog_5_method_1_code
def yX3_init : MethodName := ⟨RX3, "<init>", "()V"⟩
abbrev cX3_codeOf : ByteArray := prog_5_method_2_code
def yX3_codeOf : MethodName := ⟨RX3, "codeOf", "(IIII)I"⟩
abbrev cX3_kindOf : ByteArray := prog_5_method_3_code
def yX3_kindOf : MethodName := ⟨RX3, "kindOf", "(I)I"⟩
abbrev cX3_targetOf : ByteArray := prog_5_method_4_code
def yX3_targetOf : MethodName := ⟨RX3, "targetOf", "(I)I"⟩
abbrev cX3_firstOf : ByteArray := prog_5_method_5_code
def yX3_firstOf : MethodName := ⟨RX3, "firstOf", "(I)I"⟩
abbrev cX3_secondOf : ByteArray := prog_5_method_6_code
def yX3_secondOf : MethodName := ⟨RX3, "secondOf", "(I)I"⟩
abbrev cX3_drawFor : ByteArray := prog_5_method_7_code
def yX3_drawFor : MethodName := ⟨RX3, "drawFor", "(III)I"⟩
abbrev cX3_copyFrom : ByteArray := prog_5_method_8_code
def yX3_copyFrom : MethodName := ⟨RX3, "copyFrom", "(LStochasticBench$Operation;)V"⟩
abbrev cX3_decimalCode : ByteArray := prog_5_method_9_code
def yX3_decimalCode : MethodName := ⟨RX3, "decimalCode", "()I"⟩
abbrev cX3_isQuotient : ByteArray := prog_5_method_10_code
def yX3_isQuotient : MethodName := ⟨RX3, "isQuotient", "()Z"⟩
abbrev cX3_setFraction : ByteArray := prog_5_method_11_code
def yX3_setFraction : MethodName := ⟨RX3, "setFraction", "(JJ)V"⟩
abbrev cX3_denominator : ByteArray := prog_5_method_12_code
def yX3_denominator : MethodName := ⟨RX3, "denominator", "()J"⟩
abbrev cX3_numeratorOf : ByteArray := prog_5_method_13_code
def yX3_numeratorOf : MethodName := ⟨RX3, "numeratorOf", "(J)J"⟩
abbrev cX3_findNeighbors : ByteArray := prog_5_method_14_code
def yX3_findNeighbors : MethodName := ⟨RX3, "findNeighbors", "(LStochasticBench$Format;)Z"⟩
abbrev cX3_rounded : ByteArray := prog_5_method_15_code
def yX3_rounded : MethodName := ⟨RX3, "rounded", "(II)I"⟩
abbrev cX3_goesUp : ByteArray := prog_5_method_16_code
def yX3_goesUp : MethodName := ⟨RX3, "goesUp", "(II)Z"⟩
abbrev cX3_dependsOnDraw : ByteArray := prog_5_method_17_code
def yX3_dependsOnDraw : MethodName := ⟨RX3, "dependsOnDraw", "()Z"⟩
abbrev cX3_drawsUp : ByteArray := prog_5_method_18_code
def yX3_drawsUp : MethodName := ⟨RX3, "drawsUp", "()J"⟩
abbrev cX3_average : ByteArray := prog_5_method_19_code
def yX3_average : MethodName := ⟨RX3, "average", "()J"⟩
abbrev cX3_offset : ByteArray := prog_5_method_20_code
def yX3_offset : MethodName := ⟨RX3, "offset", "()J"⟩
abbrev cX3_scatter : ByteArray := prog_5_method_21_code
def yX3_scatter : MethodName := ⟨RX3, "scatter", "()J"⟩
abbrev cX3_addedTo : ByteArray := prog_5_method_22_code
def yX3_addedTo : MethodName := ⟨RX3, "addedTo", "(J)J"⟩
def RX4 : String := "StochasticBench$Program"
def TX4 : u_T := fun k => match k with
  | 0 => ("StochasticBench$Program", "length", "I", false)
  | 1 => ("StochasticBench$Program", "size", "I", false)
  | 2 => ("StochasticBench$Program", "steps", "[I", true)
  | 3 => ("StochasticBench$Program", "arguments", "[I", true)
  | 4 => ("StochasticBench$Program", "partners", "[I", true)
  | 5 => ("StochasticBench$Program", "text", "[I", true)
  | 6 => ("StochasticBench$Program", "open", "[I", true)
  | 7 => ("StochasticBench$Program", "depth", "I", false)
  | 8 => ("StochasticBench$Program", "wanted", "I", false)
  | 9 => ("StochasticBench$Program", "count", "I", false)
  | 10 => ("StochasticBench$Program", "kind", "I", false)
  | 11 => ("StochasticBench$Program", "target", "I", false)
  | _ => ("StochasticBench$Program", "first", "I", false)
def tyX4 : Nat → FieldType := fun k => match k with
  | 0 => .int
  | 1 => .int
  | 2 => .array .int
  | 3 => .array .int
  | 4 => .array .int
  | 5 => .array .int
  | 6 => .array .int
  | 7 => .int
  | 8 => .int
  | 9 => .int
  | 10 => .int
  | 11 => .int
  | _ => .int
theorem nmX4 : ∀ a, a < 13 → ∀ b, b < 13 → a ≠ b → (TX4 a).2.1 ≠ (TX4 b).2.1 := by decide +kernel
theorem tyX4_ok : ∀ k, k < 13 → parseFieldDescriptor (TX4 k).2.2.1 = some (tyX4 k) := by decide +kernel
abbrev cX4_init : ByteArray := prog_6_method_1_code
def yX4_init : MethodName := ⟨RX4, "<init>", "()V"⟩
abbrev cX4_append : ByteArray := prog_6_method_2_code
def yX4_append : MethodName := ⟨RX4, "append", "(I)Z"⟩
abbrev cX4_read : ByteArray := prog_6_method_3_code
def yX4_read : MethodName := ⟨RX4, "read", "()I"⟩
abbrev cX4_take : ByteArray := prog_6_method_4_code
def yX4_take : MethodName := ⟨RX4, "take", "(I)Z"⟩
abbrev cX4_want : ByteArray := prog_6_method_5_code
def yX4_want : MethodName := ⟨RX4, "want", "(I)Z"⟩
abbrev cX4_wantSecond : ByteArray := prog_6_method_6_code
def yX4_wantSecond : MethodName := ⟨RX4, "wantSecond", "(I)Z"⟩
abbrev cX4_takeBlank : ByteArray := prog_6_method_7_code
def yX4_takeBlank : MethodName := ⟨RX4, "takeBlank", "()Z"⟩
abbrev cX4_takeStatement : ByteArray := prog_6_method_8_code
def yX4_takeStatement : MethodName := ⟨RX4, "takeStatement", "(I)Z"⟩
abbrev cX4_takeTerm : ByteArray := prog_6_method_9_code
def yX4_takeTerm : MethodName := ⟨RX4, "takeTerm", "(I)Z"⟩
abbrev cX4_takeFirst : ByteArray := prog_6_method_10_code
def yX4_takeFirst : MethodName := ⟨RX4, "takeFirst", "(II)Z"⟩
abbrev cX4_takeSign : ByteArray := prog_6_method_11_code
def yX4_takeSign : MethodName := ⟨RX4, "takeSign", "(I)Z"⟩
abbrev cX4_takeSecond : ByteArray := prog_6_method_12_code
def yX4_takeSecond : MethodName := ⟨RX4, "takeSecond", "(I)Z"⟩
abbrev cX4_takeCount : ByteArray := prog_6_method_13_code
def yX4_takeCount : MethodName := ⟨RX4, "takeCount", "(I)Z"⟩
abbrev cX4_takeSecondOfCount : ByteArray := prog_6_method_14_code
def yX4_takeSecondOfCount : MethodName := ⟨RX4, "takeSecondOfCount", "(I)Z"⟩
abbrev cX4_takeOpen : ByteArray := prog_6_method_15_code
def yX4_takeOpen : MethodName := ⟨RX4, "takeOpen", "(I)Z"⟩
abbrev cX4_takeClose : ByteArray := prog_6_method_16_code
def yX4_takeClose : MethodName := ⟨RX4, "takeClose", "()Z"⟩
abbrev cX4_addOperation : ByteArray := prog_6_method_17_code
def yX4_addOperation : MethodName := ⟨RX4, "addOperation", "(II)Z"⟩
abbrev cX4_addStep : ByteArray := prog_6_method_18_code
def yX4_addStep : MethodName := ⟨RX4, "addStep", "(II)Z"⟩
abbrev cX4_isDigit : ByteArray := prog_6_method_19_code
def yX4_isDigit : MethodName := ⟨RX4, "isDigit", "(I)Z"⟩
abbrev cX4_isRegisterDigit : ByteArray := prog_6_method_20_code
def yX4_isRegisterDigit : MethodName := ⟨RX4, "isRegisterDigit", "(I)Z"⟩
def RX5 : String := "StochasticBench$Runner"
def TX5 : u_T := fun k => match k with
  | 0 => ("StochasticBench$Runner", "done", "I", false)
  | 1 => ("StochasticBench$Runner", "stop", "I", false)
  | 2 => ("StochasticBench$Runner", "roundsLeft", "[I", true)
  | 3 => ("StochasticBench$Runner", "doneBefore", "[I", true)
  | 4 => ("StochasticBench$Runner", "depth", "I", false)
  | _ => ("StochasticBench$Runner", "position", "I", false)
def tyX5 : Nat → FieldType := fun k => match k with
  | 0 => .int
  | 1 => .int
  | 2 => .array .int
  | 3 => .array .int
  | 4 => .int
  | _ => .int
theorem nmX5 : ∀ a, a < 6 → ∀ b, b < 6 → a ≠ b → (TX5 a).2.1 ≠ (TX5 b).2.1 := by decide +kernel
theorem tyX5_ok : ∀ k, k < 6 → parseFieldDescriptor (TX5 k).2.2.1 = some (tyX5 k) := by decide +kernel
abbrev cX5_init : ByteArray := prog_7_method_1_code
def yX5_init : MethodName := ⟨RX5, "<init>", "()V"⟩
abbrev cX5_carryOut : ByteArray := prog_7_method_2_code
def yX5_carryOut : MethodName := ⟨RX5, "carryOut", "(LStochasticBench$Program;LStochasticBench$Setting;LStochasticBench$Operation;LStochasticBench$Ledger;)V"⟩
abbrev cX5_start : ByteArray := prog_7_method_3_code
def yX5_start : MethodName := ⟨RX5, "start", "()V"⟩
abbrev cX5_nextCode : ByteArray := prog_7_method_4_code
def yX5_nextCode : MethodName := ⟨RX5, "nextCode", "(LStochasticBench$Program;)I"⟩
abbrev cX5_enterLoop : ByteArray := prog_7_method_5_code
def yX5_enterLoop : MethodName := ⟨RX5, "enterLoop", "(II)V"⟩
abbrev cX5_endRound : ByteArray := prog_7_method_6_code
def yX5_endRound : MethodName := ⟨RX5, "endRound", "(I)V"⟩
def RX6 : String := "StochasticBench$Setting"
def TX6 : u_T := fun k => match k with
  | 0 => ("StochasticBench$Setting", "formats", "[LStochasticBench$Format;", true)
  | 1 => ("StochasticBench$Setting", "formatNumbers", "[I", true)
  | 2 => ("StochasticBench$Setting", "values", "[I", true)
  | 3 => ("StochasticBench$Setting", "mode", "I", false)
  | 4 => ("StochasticBench$Setting", "bits", "I", false)
  | 5 => ("StochasticBench$Setting", "seed", "I", false)
  | _ => ("StochasticBench$Setting", "nextNumber", "I", false)
def tyX6 : Nat → FieldType := fun k => match k with
  | 0 => .array (.object "StochasticBench$Format")
  | 1 => .array .int
  | 2 => .array .int
  | 3 => .int
  | 4 => .int
  | 5 => .int
  | _ => .int
theorem nmX6 : ∀ a, a < 7 → ∀ b, b < 7 → a ≠ b → (TX6 a).2.1 ≠ (TX6 b).2.1 := by decide +kernel
theorem tyX6_ok : ∀ k, k < 7 → parseFieldDescriptor (TX6 k).2.2.1 = some (tyX6 k) := by decide +kernel
abbrev cX6_init : ByteArray := prog_8_method_1_code
def yX6_init : MethodName := ⟨RX6, "<init>", "()V"⟩
abbrev cX6_copyFrom : ByteArray := prog_8_method_2_code
def yX6_copyFrom : MethodName := ⟨RX6, "copyFrom", "(LStochasticBench$Setting;)V"⟩
abbrev cX6_formatAt : ByteArray := prog_8_method_3_code
def yX6_formatAt : MethodName := ⟨RX6, "formatAt", "(I)LStochasticBench$Format;"⟩
abbrev cX6_emptyRegistersOf : ByteArray := prog_8_method_4_code
def yX6_emptyRegistersOf : MethodName := ⟨RX6, "emptyRegistersOf", "(I)V"⟩
abbrev cX6_canCarryOut : ByteArray := prog_8_method_5_code
def yX6_canCarryOut : MethodName := ⟨RX6, "canCarryOut", "(I)Z"⟩
abbrev cX6_carryOut : ByteArray := prog_8_method_6_code
def yX6_carryOut : MethodName := ⟨RX6, "carryOut", "(ILStochasticBench$Operation;)V"⟩
abbrev cX6_computeFraction : ByteArray := prog_8_method_7_code
def yX6_computeFraction : MethodName := ⟨RX6, "computeFraction", "(ILStochasticBench$Operation;)V"⟩
def RX7 : String := "StochasticBench"
def TX7 : u_T := fun k => match k with
  | 0 => ("StochasticBench", "setting", "LStochasticBench$Setting;", true)
  | 1 => ("StochasticBench", "ledger", "LStochasticBench$Ledger;", true)
  | 2 => ("StochasticBench", "history", "LStochasticBench$History;", true)
  | 3 => ("StochasticBench", "program", "LStochasticBench$Program;", true)
  | 4 => ("StochasticBench", "runner", "LStochasticBench$Runner;", true)
  | 5 => ("StochasticBench", "trial", "LStochasticBench$Setting;", true)
  | 6 => ("StochasticBench", "work", "LStochasticBench$Operation;", true)
  | _ => ("StochasticBench", "lastStop", "I", false)
def tyX7 : Nat → FieldType := fun k => match k with
  | 0 => .object "StochasticBench$Setting"
  | 1 => .object "StochasticBench$Ledger"
  | 2 => .object "StochasticBench$History"
  | 3 => .object "StochasticBench$Program"
  | 4 => .object "StochasticBench$Runner"
  | 5 => .object "StochasticBench$Setting"
  | 6 => .object "StochasticBench$Operation"
  | _ => .int
theorem nmX7 : ∀ a, a < 8 → ∀ b, b < 8 → a ≠ b → (TX7 a).2.1 ≠ (TX7 b).2.1 := by decide +kernel
theorem tyX7_ok : ∀ k, k < 8 → parseFieldDescriptor (TX7 k).2.2.1 = some (tyX7 k) := by decide +kernel
abbrev cX7_init : ByteArray := prog_1_method_1_code
def yX7_init : MethodName := ⟨RX7, "<init>", "()V"⟩
abbrev cX7_setFormat : ByteArray := prog_1_method_2_code
def yX7_setFormat : MethodName := ⟨RX7, "setFormat", "(IIII)I"⟩
abbrev cX7_setRegister : ByteArray := prog_1_method_3_code
def yX7_setRegister : MethodName := ⟨RX7, "setRegister", "(II)I"⟩
abbrev cX7_setValue : ByteArray := prog_1_method_4_code
def yX7_setValue : MethodName := ⟨RX7, "setValue", "(II)I"⟩
abbrev cX7_setMode : ByteArray := prog_1_method_5_code
def yX7_setMode : MethodName := ⟨RX7, "setMode", "(I)I"⟩
abbrev cX7_setBits : ByteArray := prog_1_method_6_code
def yX7_setBits : MethodName := ⟨RX7, "setBits", "(I)I"⟩
abbrev cX7_setSeed : ByteArray := prog_1_method_7_code
def yX7_setSeed : MethodName := ⟨RX7, "setSeed", "(I)I"⟩
abbrev cX7_value : ByteArray := prog_1_method_8_code
def yX7_value : MethodName := ⟨RX7, "value", "(I)I"⟩
abbrev cX7_formatOf : ByteArray := prog_1_method_9_code
def yX7_formatOf : MethodName := ⟨RX7, "formatOf", "(I)I"⟩
abbrev cX7_operate : ByteArray := prog_1_method_10_code
def yX7_operate : MethodName := ⟨RX7, "operate", "(IIII)I"⟩
abbrev cX7_type : ByteArray := prog_1_method_11_code
def yX7_type : MethodName := ⟨RX7, "type", "(I)I"⟩
abbrev cX7_clear : ByteArray := prog_1_method_12_code
def yX7_clear : MethodName := ⟨RX7, "clear", "()I"⟩
abbrev cX7_fault : ByteArray := prog_1_method_13_code
def yX7_fault : MethodName := ⟨RX7, "fault", "()I"⟩
abbrev cX7_run : ByteArray := prog_1_method_14_code
def yX7_run : MethodName := ⟨RX7, "run", "()I"⟩
abbrev cX7_stopped : ByteArray := prog_1_method_15_code
def yX7_stopped : MethodName := ⟨RX7, "stopped", "()I"⟩
abbrev cX7_ifRun : ByteArray := prog_1_method_16_code
def yX7_ifRun : MethodName := ⟨RX7, "ifRun", "(III)I"⟩
abbrev cX7_ensembleSum : ByteArray := prog_1_method_17_code
def yX7_ensembleSum : MethodName := ⟨RX7, "ensembleSum", "(III)I"⟩
abbrev cX7_ensembleSpread : ByteArray := prog_1_method_18_code
def yX7_ensembleSpread : MethodName := ⟨RX7, "ensembleSpread", "(III)I"⟩
abbrev cX7_records : ByteArray := prog_1_method_19_code
def yX7_records : MethodName := ⟨RX7, "records", "()I"⟩
abbrev cX7_numberOf : ByteArray := prog_1_method_20_code
def yX7_numberOf : MethodName := ⟨RX7, "numberOf", "(I)I"⟩
abbrev cX7_operation : ByteArray := prog_1_method_21_code
def yX7_operation : MethodName := ⟨RX7, "operation", "(I)I"⟩
abbrev cX7_result : ByteArray := prog_1_method_22_code
def yX7_result : MethodName := ⟨RX7, "result", "(I)I"⟩
abbrev cX7_neighbor : ByteArray := prog_1_method_23_code
def yX7_neighbor : MethodName := ⟨RX7, "neighbor", "(IZ)I"⟩
abbrev cX7_drawOf : ByteArray := prog_1_method_24_code
def yX7_drawOf : MethodName := ⟨RX7, "drawOf", "(I)I"⟩
abbrev cX7_flags : ByteArray := prog_1_method_25_code
def yX7_flags : MethodName := ⟨RX7, "flags", "(I)I"⟩
abbrev cX7_exactNumerator : ByteArray := prog_1_method_26_code
def yX7_exactNumerator : MethodName := ⟨RX7, "exactNumerator", "(I)J"⟩
abbrev cX7_exactDenominator : ByteArray := prog_1_method_27_code
def yX7_exactDenominator : MethodName := ⟨RX7, "exactDenominator", "(I)J"⟩
abbrev cX7_replay : ByteArray := prog_1_method_28_code
def yX7_replay : MethodName := ⟨RX7, "replay", "(III)I"⟩
abbrev cX7_mean : ByteArray := prog_1_method_29_code
def yX7_mean : MethodName := ⟨RX7, "mean", "(I)J"⟩
abbrev cX7_biasNumerator : ByteArray := prog_1_method_30_code
def yX7_biasNumerator : MethodName := ⟨RX7, "biasNumerator", "(I)J"⟩
abbrev cX7_biasDenominator : ByteArray := prog_1_method_31_code
def yX7_biasDenominator : MethodName := ⟨RX7, "biasDenominator", "(I)J"⟩
abbrev cX7_variance : ByteArray := prog_1_method_32_code
def yX7_variance : MethodName := ⟨RX7, "variance", "(I)J"⟩
abbrev cX7_account : ByteArray := prog_1_method_33_code
def yX7_account : MethodName := ⟨RX7, "account", "(I)J"⟩
abbrev cX7_clearAccount : ByteArray := prog_1_method_34_code
def yX7_clearAccount : MethodName := ⟨RX7, "clearAccount", "()I"⟩
abbrev cX7_isValue : ByteArray := prog_1_method_35_code
def yX7_isValue : MethodName := ⟨RX7, "isValue", "(II)I"⟩
abbrev cX7_next : ByteArray := prog_1_method_36_code
def yX7_next : MethodName := ⟨RX7, "next", "(IIZ)I"⟩
abbrev cX7_countValues : ByteArray := prog_1_method_37_code
def yX7_countValues : MethodName := ⟨RX7, "countValues", "(I)I"⟩
abbrev cX7_between : ByteArray := prog_1_method_38_code
def yX7_between : MethodName := ⟨RX7, "between", "(III)I"⟩
abbrev cX7_contains : ByteArray := prog_1_method_39_code
def yX7_contains : MethodName := ⟨RX7, "contains", "(II)I"⟩
abbrev cX7_undo : ByteArray := prog_1_method_40_code
def yX7_undo : MethodName := ⟨RX7, "undo", "()I"⟩
abbrev cX7_told : ByteArray := prog_1_method_41_code
def yX7_told : MethodName := ⟨RX7, "told", "(I)I"⟩
abbrev cX7_digest : ByteArray := prog_1_method_42_code
def yX7_digest : MethodName := ⟨RX7, "digest", "()J"⟩
abbrev cX7_isFormat : ByteArray := prog_1_method_43_code
def yX7_isFormat : MethodName := ⟨RX7, "isFormat", "(I)Z"⟩
abbrev cX7_isRegister : ByteArray := prog_1_method_44_code
def yX7_isRegister : MethodName := ⟨RX7, "isRegister", "(I)Z"⟩
abbrev cX7_isMode : ByteArray := prog_1_method_45_code
def yX7_isMode : MethodName := ⟨RX7, "isMode", "(I)Z"⟩
abbrev cX7_isEnsemble : ByteArray := prog_1_method_46_code
def yX7_isEnsemble : MethodName := ⟨RX7, "isEnsemble", "(I)Z"⟩
abbrev cX7_isInRange : ByteArray := prog_1_method_47_code
def yX7_isInRange : MethodName := ⟨RX7, "isInRange", "(I)Z"⟩
abbrev cX7_remember : ByteArray := prog_1_method_48_code
def yX7_remember : MethodName := ⟨RX7, "remember", "()V"⟩
abbrev cX7_valueAfterTrial : ByteArray := prog_1_method_49_code
def yX7_valueAfterTrial : MethodName := ⟨RX7, "valueAfterTrial", "(III)I"⟩
abbrev cX7_toldOfFormats : ByteArray := prog_1_method_50_code
def yX7_toldOfFormats : MethodName := ⟨RX7, "toldOfFormats", "(I)I"⟩
abbrev cX7_lowestNumerator : ByteArray := prog_1_method_51_code
def yX7_lowestNumerator : MethodName := ⟨RX7, "lowestNumerator", "(JJ)J"⟩
abbrev cX7_lowestDenominator : ByteArray := prog_1_method_52_code
def yX7_lowestDenominator : MethodName := ⟨RX7, "lowestDenominator", "(JJ)J"⟩
abbrev cX7_commonDivisor : ByteArray := prog_1_method_53_code
def yX7_commonDivisor : MethodName := ⟨RX7, "commonDivisor", "(JJ)J"⟩
def RX8 : String := "StochasticBenchModel"
def TX8 : u_T := fun k => match k with
  | 0 => ("StochasticBenchModel", "page", "[J", true)
  | 1 => ("StochasticBenchModel", "remembered", "I", false)
  | 2 => ("StochasticBenchModel", "why", "I", false)
  | 3 => ("StochasticBenchModel", "text", "[I", true)
  | 4 => ("StochasticBenchModel", "typed", "I", false)
  | 5 => ("StochasticBenchModel", "lower", "J", false)
  | 6 => ("StochasticBenchModel", "upper", "J", false)
  | 7 => ("StochasticBenchModel", "isOver", "Z", false)
  | 8 => ("StochasticBenchModel", "now", "[J", true)
  | 9 => ("StochasticBenchModel", "useMode", "I", false)
  | 10 => ("StochasticBenchModel", "useSeed", "I", false)
  | 11 => ("StochasticBenchModel", "useNumber", "I", false)
  | 12 => ("StochasticBenchModel", "exactUp", "J", false)
  | 13 => ("StochasticBenchModel", "exactDown", "J", false)
  | 14 => ("StochasticBenchModel", "lastDraw", "J", false)
  | 15 => ("StochasticBenchModel", "stepSort", "[I", true)
  | 16 => ("StochasticBenchModel", "stepKind", "[I", true)
  | 17 => ("StochasticBenchModel", "stepT", "[I", true)
  | 18 => ("StochasticBenchModel", "stepA", "[I", true)
  | 19 => ("StochasticBenchModel", "stepB", "[I", true)
  | 20 => ("StochasticBenchModel", "steps", "I", false)
  | 21 => ("StochasticBenchModel", "spot", "I", false)
  | 22 => ("StochasticBenchModel", "broken", "I", false)
  | 23 => ("StochasticBenchModel", "open", "[I", true)
  | 24 => ("StochasticBenchModel", "opened", "I", false)
  | 25 => ("StochasticBenchModel", "left", "[I", true)
  | _ => ("StochasticBenchModel", "ended", "I", false)
def tyX8 : Nat → FieldType := fun k => match k with
  | 0 => .array .long
  | 1 => .int
  | 2 => .int
  | 3 => .array .int
  | 4 => .int
  | 5 => .long
  | 6 => .long
  | 7 => .boolean
  | 8 => .array .long
  | 9 => .int
  | 10 => .int
  | 11 => .int
  | 12 => .long
  | 13 => .long
  | 14 => .long
  | 15 => .array .int
  | 16 => .array .int
  | 17 => .array .int
  | 18 => .array .int
  | 19 => .array .int
  | 20 => .int
  | 21 => .int
  | 22 => .int
  | 23 => .array .int
  | 24 => .int
  | 25 => .array .int
  | _ => .int
theorem nmX8 : ∀ a, a < 27 → ∀ b, b < 27 → a ≠ b → (TX8 a).2.1 ≠ (TX8 b).2.1 := by decide +kernel
theorem tyX8_ok : ∀ k, k < 27 → parseFieldDescriptor (TX8 k).2.2.1 = some (tyX8 k) := by decide +kernel
abbrev cX8_init : ByteArray := prog_10_method_1_code
def yX8_init : MethodName := ⟨RX8, "<init>", "()V"⟩
abbrev cX8_in : ByteArray := prog_10_method_3_code
def yX8_in : MethodName := ⟨RX8, "in", "(III)Z"⟩
abbrev cX8_begins : ByteArray := prog_10_method_4_code
def yX8_begins : MethodName := ⟨RX8, "begins", "()V"⟩
abbrev cX8_isRegister : ByteArray := prog_10_method_5_code
def yX8_isRegister : MethodName := ⟨RX8, "isRegister", "(I)Z"⟩
abbrev cX8_isFormat : ByteArray := prog_10_method_6_code
def yX8_isFormat : MethodName := ⟨RX8, "isFormat", "(I)Z"⟩
abbrev cX8_greatest : ByteArray := prog_10_method_7_code
def yX8_greatest : MethodName := ⟨RX8, "greatest", "(II)J"⟩
abbrev cX8_exponent : ByteArray := prog_10_method_8_code
def yX8_exponent : MethodName := ⟨RX8, "exponent", "(IIIJ)I"⟩
abbrev cX8_cut : ByteArray := prog_10_method_9_code
def yX8_cut : MethodName := ⟨RX8, "cut", "(IIIJ)J"⟩
abbrev cX8_lift : ByteArray := prog_10_method_10_code
def yX8_lift : MethodName := ⟨RX8, "lift", "(IIIJ)J"⟩
abbrev cX8_under : ByteArray := prog_10_method_11_code
def yX8_under : MethodName := ⟨RX8, "under", "(IIIJ)J"⟩
abbrev cX8_over : ByteArray := prog_10_method_12_code
def yX8_over : MethodName := ⟨RX8, "over", "(IIIJ)J"⟩
abbrev cX8_floor : ByteArray := prog_10_method_13_code
def yX8_floor : MethodName := ⟨RX8, "floor", "(JJ)J"⟩
abbrev cX8_finds : ByteArray := prog_10_method_14_code
def yX8_finds : MethodName := ⟨RX8, "finds", "(IIIJJ)V"⟩
abbrev cX8_above : ByteArray := prog_10_method_15_code
def yX8_above : MethodName := ⟨RX8, "above", "(JJ)J"⟩
abbrev cX8_picks : ByteArray := prog_10_method_16_code
def yX8_picks : MethodName := ⟨RX8, "picks", "(JJIJI)J"⟩
abbrev cX8_drawn : ByteArray := prog_10_method_17_code
def yX8_drawn : MethodName := ⟨RX8, "drawn", "(III)J"⟩
abbrev cX8_part : ByteArray := prog_10_method_18_code
def yX8_part : MethodName := ⟨RX8, "part", "(II)I"⟩
abbrev cX8_formatIn : ByteArray := prog_10_method_19_code
def yX8_formatIn : MethodName := ⟨RX8, "formatIn", "(I)I"⟩
abbrev cX8_setFormat : ByteArray := prog_10_method_20_code
def yX8_setFormat : MethodName := ⟨RX8, "setFormat", "(IIII)I"⟩
abbrev cX8_setRegister : ByteArray := prog_10_method_21_code
def yX8_setRegister : MethodName := ⟨RX8, "setRegister", "(II)I"⟩
abbrev cX8_setValue : ByteArray := prog_10_method_22_code
def yX8_setValue : MethodName := ⟨RX8, "setValue", "(II)I"⟩
abbrev cX8_sets : ByteArray := prog_10_method_23_code
def yX8_sets : MethodName := ⟨RX8, "sets", "(II)I"⟩
abbrev cX8_setMode : ByteArray := prog_10_method_24_code
def yX8_setMode : MethodName := ⟨RX8, "setMode", "(I)I"⟩
abbrev cX8_setBits : ByteArray := prog_10_method_25_code
def yX8_setBits : MethodName := ⟨RX8, "setBits", "(I)I"⟩
abbrev cX8_setSeed : ByteArray := prog_10_method_26_code
def yX8_setSeed : MethodName := ⟨RX8, "setSeed", "(I)I"⟩
abbrev cX8_value : ByteArray := prog_10_method_27_code
def yX8_value : MethodName := ⟨RX8, "value", "(I)I"⟩
abbrev cX8_formatOf : ByteArray := prog_10_method_28_code
def yX8_formatOf : MethodName := ⟨RX8, "formatOf", "(I)I"⟩
abbrev cX8_takes : ByteArray := prog_10_method_29_code
def yX8_takes : MethodName := ⟨RX8, "takes", "()V"⟩
abbrev cX8_computes : ByteArray := prog_10_method_30_code
def yX8_computes : MethodName := ⟨RX8, "computes", "(IIII)V"⟩
abbrev cX8_works : ByteArray := prog_10_method_31_code
def yX8_works : MethodName := ⟨RX8, "works", "(IIII)J"⟩
abbrev cX8_divisor : ByteArray := prog_10_method_32_code
def yX8_divisor : MethodName := ⟨RX8, "divisor", "(JJ)J"⟩
abbrev cX8_at : ByteArray := prog_10_method_33_code
def yX8_at : MethodName := ⟨RX8, "at", "(I)I"⟩
abbrev cX8_dropsOldest : ByteArray := prog_10_method_34_code
def yX8_dropsOldest : MethodName := ⟨RX8, "dropsOldest", "()V"⟩
abbrev cX8_books : ByteArray := prog_10_method_35_code
def yX8_books : MethodName := ⟨RX8, "books", "(IIIIJ)V"⟩
abbrev cX8_does : ByteArray := prog_10_method_36_code
def yX8_does : MethodName := ⟨RX8, "does", "(IIII)J"⟩
abbrev cX8_operate : ByteArray := prog_10_method_37_code
def yX8_operate : MethodName := ⟨RX8, "operate", "(IIII)I"⟩
abbrev cX8_type : ByteArray := prog_10_method_38_code
def yX8_type : MethodName := ⟨RX8, "type", "(I)I"⟩
abbrev cX8_clear : ByteArray := prog_10_method_39_code
def yX8_clear : MethodName := ⟨RX8, "clear", "()I"⟩
abbrev cX8_here : ByteArray := prog_10_method_40_code
def yX8_here : MethodName := ⟨RX8, "here", "()I"⟩
abbrev cX8_skips : ByteArray := prog_10_method_41_code
def yX8_skips : MethodName := ⟨RX8, "skips", "()V"⟩
abbrev cX8_fails : ByteArray := prog_10_method_42_code
def yX8_fails : MethodName := ⟨RX8, "fails", "()V"⟩
abbrev cX8_takesIn : ByteArray := prog_10_method_43_code
def yX8_takesIn : MethodName := ⟨RX8, "takesIn", "(II)I"⟩
abbrev cX8_takesOne : ByteArray := prog_10_method_44_code
def yX8_takesOne : MethodName := ⟨RX8, "takesOne", "(I)Z"⟩
abbrev cX8_readsTerm : ByteArray := prog_10_method_45_code
def yX8_readsTerm : MethodName := ⟨RX8, "readsTerm", "(I)V"⟩
abbrev cX8_readsCount : ByteArray := prog_10_method_46_code
def yX8_readsCount : MethodName := ⟨RX8, "readsCount", "(I)V"⟩
abbrev cX8_readsStep : ByteArray := prog_10_method_47_code
def yX8_readsStep : MethodName := ⟨RX8, "readsStep", "()V"⟩
abbrev cX8_reads : ByteArray := prog_10_method_48_code
def yX8_reads : MethodName := ⟨RX8, "reads", "()I"⟩
abbrev cX8_fault : ByteArray := prog_10_method_49_code
def yX8_fault : MethodName := ⟨RX8, "fault", "()I"⟩
abbrev cX8_hasWork : ByteArray := prog_10_method_50_code
def yX8_hasWork : MethodName := ⟨RX8, "hasWork", "(I)Z"⟩
abbrev cX8_goes : ByteArray := prog_10_method_51_code
def yX8_goes : MethodName := ⟨RX8, "goes", "(Z)I"⟩
abbrev cX8_run : ByteArray := prog_10_method_52_code
def yX8_run : MethodName := ⟨RX8, "run", "()I"⟩
abbrev cX8_stopped : ByteArray := prog_10_method_53_code
def yX8_stopped : MethodName := ⟨RX8, "stopped", "()I"⟩
abbrev cX8_tries : ByteArray := prog_10_method_54_code
def yX8_tries : MethodName := ⟨RX8, "tries", "(III)I"⟩
abbrev cX8_ifRun : ByteArray := prog_10_method_55_code
def yX8_ifRun : MethodName := ⟨RX8, "ifRun", "(III)I"⟩
abbrev cX8_ensembleSum : ByteArray := prog_10_method_56_code
def yX8_ensembleSum : MethodName := ⟨RX8, "ensembleSum", "(III)I"⟩
abbrev cX8_ensembleSpread : ByteArray := prog_10_method_57_code
def yX8_ensembleSpread : MethodName := ⟨RX8, "ensembleSpread", "(III)I"⟩
abbrev cX8_isRecord : ByteArray := prog_10_method_58_code
def yX8_isRecord : MethodName := ⟨RX8, "isRecord", "(I)Z"⟩
abbrev cX8_records : ByteArray := prog_10_method_59_code
def yX8_records : MethodName := ⟨RX8, "records", "()I"⟩
abbrev cX8_numberOf : ByteArray := prog_10_method_60_code
def yX8_numberOf : MethodName := ⟨RX8, "numberOf", "(I)I"⟩
abbrev cX8_operation : ByteArray := prog_10_method_61_code
def yX8_operation : MethodName := ⟨RX8, "operation", "(I)I"⟩
abbrev cX8_result : ByteArray := prog_10_method_62_code
def yX8_result : MethodName := ⟨RX8, "result", "(I)I"⟩
abbrev cX8_neighbor : ByteArray := prog_10_method_63_code
def yX8_neighbor : MethodName := ⟨RX8, "neighbor", "(IZ)I"⟩
abbrev cX8_drawOf : ByteArray := prog_10_method_64_code
def yX8_drawOf : MethodName := ⟨RX8, "drawOf", "(I)I"⟩
abbrev cX8_flags : ByteArray := prog_10_method_65_code
def yX8_flags : MethodName := ⟨RX8, "flags", "(I)I"⟩
abbrev cX8_exactNumerator : ByteArray := prog_10_method_66_code
def yX8_exactNumerator : MethodName := ⟨RX8, "exactNumerator", "(I)J"⟩
abbrev cX8_exactDenominator : ByteArray := prog_10_method_67_code
def yX8_exactDenominator : MethodName := ⟨RX8, "exactDenominator", "(I)J"⟩
abbrev cX8_replay : ByteArray := prog_10_method_68_code
def yX8_replay : MethodName := ⟨RX8, "replay", "(III)I"⟩
abbrev cX8_upsAt : ByteArray := prog_10_method_69_code
def yX8_upsAt : MethodName := ⟨RX8, "upsAt", "(I)J"⟩
abbrev cX8_meanAt : ByteArray := prog_10_method_70_code
def yX8_meanAt : MethodName := ⟨RX8, "meanAt", "(I)J"⟩
abbrev cX8_varianceAt : ByteArray := prog_10_method_71_code
def yX8_varianceAt : MethodName := ⟨RX8, "varianceAt", "(I)J"⟩
abbrev cX8_mean : ByteArray := prog_10_method_72_code
def yX8_mean : MethodName := ⟨RX8, "mean", "(I)J"⟩
abbrev cX8_biasUp : ByteArray := prog_10_method_73_code
def yX8_biasUp : MethodName := ⟨RX8, "biasUp", "(I)J"⟩
abbrev cX8_biasDown : ByteArray := prog_10_method_74_code
def yX8_biasDown : MethodName := ⟨RX8, "biasDown", "(I)J"⟩
abbrev cX8_biasNumerator : ByteArray := prog_10_method_75_code
def yX8_biasNumerator : MethodName := ⟨RX8, "biasNumerator", "(I)J"⟩
abbrev cX8_biasDenominator : ByteArray := prog_10_method_76_code
def yX8_biasDenominator : MethodName := ⟨RX8, "biasDenominator", "(I)J"⟩
abbrev cX8_variance : ByteArray := prog_10_method_77_code
def yX8_variance : MethodName := ⟨RX8, "variance", "(I)J"⟩
abbrev cX8_account : ByteArray := prog_10_method_78_code
def yX8_account : MethodName := ⟨RX8, "account", "(I)J"⟩
abbrev cX8_clearAccount : ByteArray := prog_10_method_79_code
def yX8_clearAccount : MethodName := ⟨RX8, "clearAccount", "()I"⟩
abbrev cX8_isNumber : ByteArray := prog_10_method_80_code
def yX8_isNumber : MethodName := ⟨RX8, "isNumber", "(I)Z"⟩
abbrev cX8_most : ByteArray := prog_10_method_81_code
def yX8_most : MethodName := ⟨RX8, "most", "(I)J"⟩
abbrev cX8_isIn : ByteArray := prog_10_method_82_code
def yX8_isIn : MethodName := ⟨RX8, "isIn", "(IJ)Z"⟩
abbrev cX8_isValue : ByteArray := prog_10_method_83_code
def yX8_isValue : MethodName := ⟨RX8, "isValue", "(II)I"⟩
abbrev cX8_from : ByteArray := prog_10_method_84_code
def yX8_from : MethodName := ⟨RX8, "from", "(IJ)J"⟩
abbrev cX8_next : ByteArray := prog_10_method_85_code
def yX8_next : MethodName := ⟨RX8, "next", "(IIZ)I"⟩
abbrev cX8_upTo : ByteArray := prog_10_method_86_code
def yX8_upTo : MethodName := ⟨RX8, "upTo", "(IJ)J"⟩
abbrev cX8_ranks : ByteArray := prog_10_method_87_code
def yX8_ranks : MethodName := ⟨RX8, "ranks", "(IJ)J"⟩
abbrev cX8_countValues : ByteArray := prog_10_method_88_code
def yX8_countValues : MethodName := ⟨RX8, "countValues", "(I)I"⟩
abbrev cX8_between : ByteArray := prog_10_method_89_code
def yX8_between : MethodName := ⟨RX8, "between", "(III)I"⟩
abbrev cX8_contains : ByteArray := prog_10_method_90_code
def yX8_contains : MethodName := ⟨RX8, "contains", "(II)I"⟩
abbrev cX8_undo : ByteArray := prog_10_method_91_code
def yX8_undo : MethodName := ⟨RX8, "undo", "()I"⟩
abbrev cX8_told : ByteArray := prog_10_method_92_code
def yX8_told : MethodName := ⟨RX8, "told", "(I)I"⟩
abbrev cX8_digest : ByteArray := prog_10_method_93_code
def yX8_digest : MethodName := ⟨RX8, "digest", "()J"⟩
def RJ9 : String := "java/lang/Math"
def TJ9 : u_T := fun k => match k with
  | _ => ("", "", "", false)
def tyJ9 : Nat → FieldType := fun k => match k with
  | _ => .int
abbrev wsJ90 : List Cond := u_ws RJ9 TJ9 0
theorem nmJ9 : ∀ a, a < 0 → ∀ b, b < 0 → a ≠ b → (TJ9 a).2.1 ≠ (TJ9 b).2.1 := by decide +kernel
theorem tyJ9_ok : ∀ k, k < 0 → parseFieldDescriptor (TJ9 k).2.2.1 = some (tyJ9 k) := by decide +kernel
abbrev cJ9_floorDiv_f86c9 : ByteArray := prog_11_method_49_code
def yJ9_floorDiv_f86c9 : MethodName := ⟨RJ9, "floorDiv", "(JJ)J"⟩
abbrev cJ9_abs_0f7a4 : ByteArray := prog_11_method_59_code
def yJ9_abs_0f7a4 : MethodName := ⟨RJ9, "abs", "(I)I"⟩
abbrev cJ9_abs_067f4 : ByteArray := prog_11_method_61_code
def yJ9_abs_067f4 : MethodName := ⟨RJ9, "abs", "(J)J"⟩
abbrev cJ9_max_7cf53 : ByteArray := prog_11_method_65_code
def yJ9_max_7cf53 : MethodName := ⟨RJ9, "max", "(II)I"⟩
abbrev cJ9_min_7cf53 : ByteArray := prog_11_method_69_code
def yJ9_min_7cf53 : MethodName := ⟨RJ9, "min", "(II)I"⟩
def RJ10 : String := "java/lang/System"
def TJ10 : u_T := fun k => match k with
  | _ => ("", "", "", false)
def tyJ10 : Nat → FieldType := fun k => match k with
  | _ => .int
abbrev wsJ100 : List Cond := u_ws RJ10 TJ10 0
theorem nmJ10 : ∀ a, a < 0 → ∀ b, b < 0 → a ≠ b → (TJ10 a).2.1 ≠ (TJ10 b).2.1 := by decide +kernel
theorem tyJ10_ok : ∀ k, k < 0 → parseFieldDescriptor (TJ10 k).2.2.1 = some (tyJ10 k) := by decide +kernel
def RL : String := "StochasticBenchLaw"
abbrev cL_law : ByteArray := code
def yL_law : MethodName := ⟨RL, "law", "([I)Z"⟩
abbrev vwCl : List vw_C := [(RX0, TX0, 3), (RX1, TX1, 4), (RX2, TX2, 4), (RX3, TX3, 11), (RX4, TX4, 13), (RX5, TX5, 6), (RX6, TX6, 7), (RX7, TX7, 8), (RX8, TX8, 27)]
/-! ===== own: what the pools of the classes hold, by the words of the tables ===== -/
def q_ow : Nat → String := fun k => match k with
  | 0 => RX0
  | 1 => RX1
  | 2 => RX2
  | 3 => RX3
  | 4 => RX4
  | 5 => RX5
  | 6 => RX6
  | 7 => RX7
  | 8 => RX8
  | _ => RL
/-- the words that a method keeps through a call -/
def q_Ts : List Cond := lw_tbl.filter goodWord
theorem q_in {w : Cond} (i : Nat) (h : lw_tbl[i]? = some w) (hg : goodWord w = true) : w ∈ q_Ts := List.mem_filter.mpr ⟨List.mem_of_getElem? h, hg⟩
theorem q_ly0 : ∀ w ∈ u_ws RX0 TX0 3, w ∈ q_Ts := by
  intro w hw
  obtain ⟨k, hk, rfl⟩ := List.mem_map.mp hw
  have hk := List.mem_range.mp hk
  match k, hk with
  | 0, _ => exact q_in 105 (by decide +kernel) rfl
  | 1, _ => exact q_in 107 (by decide +kernel) rfl
  | 2, _ => exact q_in 109 (by decide +kernel) rfl
  | k + 3, h => omega
theorem q_ly1 : ∀ w ∈ u_ws RX1 TX1 4, w ∈ q_Ts := by
  intro w hw
  obtain ⟨k, hk, rfl⟩ := List.mem_map.mp hw
  have hk := List.mem_range.mp hk
  match k, hk with
  | 0, _ => exact q_in 241 (by decide +kernel) rfl
  | 1, _ => exact q_in 243 (by decide +kernel) rfl
  | 2, _ => exact q_in 245 (by decide +kernel) rfl
  | 3, _ => exact q_in 247 (by decide +kernel) rfl
  | k + 4, h => omega
theorem q_ly2 : ∀ w ∈ u_ws RX2 TX2 4, w ∈ q_Ts := by
  intro w hw
  obtain ⟨k, hk, rfl⟩ := List.mem_map.mp hw
  have hk := List.mem_range.mp hk
  match k, hk with
  | 0, _ => exact q_in 215 (by decide +kernel) rfl
  | 1, _ => exact q_in 217 (by decide +kernel) rfl
  | 2, _ => exact q_in 219 (by decide +kernel) rfl
  | 3, _ => exact q_in 221 (by decide +kernel) rfl
  | k + 4, h => omega
theorem q_ly3 : ∀ w ∈ u_ws RX3 TX3 11, w ∈ q_Ts := by
  intro w hw
  obtain ⟨k, hk, rfl⟩ := List.mem_map.mp hw
  have hk := List.mem_range.mp hk
  match k, hk with
  | 0, _ => exact q_in 185 (by decide +kernel) rfl
  | 1, _ => exact q_in 187 (by decide +kernel) rfl
  | 2, _ => exact q_in 189 (by decide +kernel) rfl
  | 3, _ => exact q_in 191 (by decide +kernel) rfl
  | 4, _ => exact q_in 193 (by decide +kernel) rfl
  | 5, _ => exact q_in 195 (by decide +kernel) rfl
  | 6, _ => exact q_in 197 (by decide +kernel) rfl
  | 7, _ => exact q_in 199 (by decide +kernel) rfl
  | 8, _ => exact q_in 201 (by decide +kernel) rfl
  | 9, _ => exact q_in 203 (by decide +kernel) rfl
  | 10, _ => exact q_in 205 (by decide +kernel) rfl
  | k + 11, h => omega
theorem q_ly4 : ∀ w ∈ u_ws RX4 TX4 13, w ∈ q_Ts := by
  intro w hw
  obtain ⟨k, hk, rfl⟩ := List.mem_map.mp hw
  have hk := List.mem_range.mp hk
  match k, hk with
  | 0, _ => exact q_in 274 (by decide +kernel) rfl
  | 1, _ => exact q_in 276 (by decide +kernel) rfl
  | 2, _ => exact q_in 278 (by decide +kernel) rfl
  | 3, _ => exact q_in 280 (by decide +kernel) rfl
  | 4, _ => exact q_in 282 (by decide +kernel) rfl
  | 5, _ => exact q_in 284 (by decide +kernel) rfl
  | 6, _ => exact q_in 286 (by decide +kernel) rfl
  | 7, _ => exact q_in 288 (by decide +kernel) rfl
  | 8, _ => exact q_in 290 (by decide +kernel) rfl
  | 9, _ => exact q_in 292 (by decide +kernel) rfl
  | 10, _ => exact q_in 294 (by decide +kernel) rfl
  | 11, _ => exact q_in 296 (by decide +kernel) rfl
  | 12, _ => exact q_in 298 (by decide +kernel) rfl
  | k + 13, h => omega
theorem q_ly5 : ∀ w ∈ u_ws RX5 TX5 6, w ∈ q_Ts := by
  intro w hw
  obtain ⟨k, hk, rfl⟩ := List.mem_map.mp hw
  have hk := List.mem_range.mp hk
  match k, hk with
  | 0, _ => exact q_in 315 (by decide +kernel) rfl
  | 1, _ => exact q_in 317 (by decide +kernel) rfl
  | 2, _ => exact q_in 319 (by decide +kernel) rfl
  | 3, _ => exact q_in 321 (by decide +kernel) rfl
  | 4, _ => exact q_in 323 (by decide +kernel) rfl
  | 5, _ => exact q_in 325 (by decide +kernel) rfl
  | k + 6, h => omega
theorem q_ly6 : ∀ w ∈ u_ws RX6 TX6 7, w ∈ q_Ts := by
  intro w hw
  obtain ⟨k, hk, rfl⟩ := List.mem_map.mp hw
  have hk := List.mem_range.mp hk
  match k, hk with
  | 0, _ => exact q_in 127 (by decide +kernel) rfl
  | 1, _ => exact q_in 129 (by decide +kernel) rfl
  | 2, _ => exact q_in 131 (by decide +kernel) rfl
  | 3, _ => exact q_in 133 (by decide +kernel) rfl
  | 4, _ => exact q_in 135 (by decide +kernel) rfl
  | 5, _ => exact q_in 137 (by decide +kernel) rfl
  | 6, _ => exact q_in 139 (by decide +kernel) rfl
  | k + 7, h => omega
theorem q_ly7 : ∀ w ∈ u_ws RX7 TX7 8, w ∈ q_Ts := by
  intro w hw
  obtain ⟨k, hk, rfl⟩ := List.mem_map.mp hw
  have hk := List.mem_range.mp hk
  match k, hk with
  | 0, _ => exact q_in 338 (by decide +kernel) rfl
  | 1, _ => exact q_in 340 (by decide +kernel) rfl
  | 2, _ => exact q_in 342 (by decide +kernel) rfl
  | 3, _ => exact q_in 344 (by decide +kernel) rfl
  | 4, _ => exact q_in 346 (by decide +kernel) rfl
  | 5, _ => exact q_in 348 (by decide +kernel) rfl
  | 6, _ => exact q_in 350 (by decide +kernel) rfl
  | 7, _ => exact q_in 352 (by decide +kernel) rfl
  | k + 8, h => omega
theorem q_ly8 : ∀ w ∈ u_ws RX8 TX8 27, w ∈ q_Ts := by
  intro w hw
  obtain ⟨k, hk, rfl⟩ := List.mem_map.mp hw
  have hk := List.mem_range.mp hk
  match k, hk with
  | 0, _ => exact q_in 921 (by decide +kernel) rfl
  | 1, _ => exact q_in 923 (by decide +kernel) rfl
  | 2, _ => exact q_in 925 (by decide +kernel) rfl
  | 3, _ => exact q_in 927 (by decide +kernel) rfl
  | 4, _ => exact q_in 929 (by decide +kernel) rfl
  | 5, _ => exact q_in 931 (by decide +kernel) rfl
  | 6, _ => exact q_in 933 (by decide +kernel) rfl
  | 7, _ => exact q_in 935 (by decide +kernel) rfl
  | 8, _ => exact q_in 937 (by decide +kernel) rfl
  | 9, _ => exact q_in 939 (by decide +kernel) rfl
  | 10, _ => exact q_in 941 (by decide +kernel) rfl
  | 11, _ => exact q_in 943 (by decide +kernel) rfl
  | 12, _ => exact q_in 945 (by decide +kernel) rfl
  | 13, _ => exact q_in 947 (by decide +kernel) rfl
  | 14, _ => exact q_in 949 (by decide +kernel) rfl
  | 15, _ => exact q_in 951 (by decide +kernel) rfl
  | 16, _ => exact q_in 953 (by decide +kernel) rfl
  | 17, _ => exact q_in 955 (by decide +kernel) rfl
  | 18, _ => exact q_in 957 (by decide +kernel) rfl
  | 19, _ => exact q_in 959 (by decide +kernel) rfl
  | 20, _ => exact q_in 961 (by decide +kernel) rfl
  | 21, _ => exact q_in 963 (by decide +kernel) rfl
  | 22, _ => exact q_in 965 (by decide +kernel) rfl
  | 23, _ => exact q_in 967 (by decide +kernel) rfl
  | 24, _ => exact q_in 969 (by decide +kernel) rfl
  | 25, _ => exact q_in 971 (by decide +kernel) rfl
  | 26, _ => exact q_in 973 (by decide +kernel) rfl
  | k + 27, h => omega
/-- fields: the user class, the pool place, the class, the place of the field, its type, final -/
def q_fT : List (Nat × Nat × Nat × Nat × FieldType × Bool) := [(0, 9, 0, 0, .int, false), (6, 35, 0, 0, .int, false), (7, 76, 0, 0, .int, false), (0, 15, 0, 1, .int, false), (6, 38, 0, 1, .int, false), (7, 311, 0, 1, .int, false), (0, 18, 0, 2, .int, false), (6, 41, 0, 2, .int, false), (7, 314, 0, 2, .int, false), (6, 11, 6, 0, (.array (.object "StochasticBench$Format")), true), (7, 72, 6, 0, (.array (.object "StochasticBench$Format")), true), (6, 17, 6, 1, (.array .int), true), (7, 90, 6, 1, (.array .int), true), (6, 21, 6, 2, (.array .int), true), (7, 94, 6, 2, (.array .int), true), (6, 24, 6, 3, .int, false), (7, 119, 6, 3, .int, false), (6, 28, 6, 4, .int, false), (7, 122, 6, 4, .int, false), (6, 31, 6, 5, .int, false), (7, 125, 6, 5, .int, false), (6, 54, 6, 6, .int, false), (7, 273, 6, 6, .int, false), (6, 69, 3, 0, .int, false), (3, 21, 3, 0, .int, false), (7, 195, 3, 0, .int, false), (6, 72, 3, 1, .int, false), (3, 24, 3, 1, .int, false), (6, 75, 3, 2, .int, false), (3, 27, 3, 2, .int, false), (3, 9, 3, 3, .int, false), (6, 76, 3, 3, .int, false), (7, 230, 3, 3, .int, false), (6, 81, 3, 4, .int, false), (3, 30, 3, 4, .int, false), (7, 207, 3, 4, .int, false), (3, 33, 3, 5, .int, false), (7, 204, 3, 5, .int, false), (3, 36, 3, 6, .int, false), (7, 201, 3, 6, .int, false), (6, 100, 3, 7, .int, false), (2, 50, 3, 7, .int, false), (3, 39, 3, 7, .int, false), (7, 144, 3, 7, .int, false), (2, 43, 3, 8, .int, false), (6, 111, 3, 8, .int, false), (3, 42, 3, 8, .int, false), (7, 210, 3, 8, .int, false), (6, 103, 3, 9, .long, false), (2, 57, 3, 9, .long, false), (3, 45, 3, 9, .long, false), (7, 215, 3, 9, .long, false), (3, 15, 3, 10, .long, false), (2, 9, 2, 0, (.array .long), true), (7, 243, 2, 0, (.array .long), true), (2, 22, 2, 1, .int, false), (7, 185, 2, 1, .int, false), (2, 17, 2, 2, (.array (.object "StochasticBench$Operation")), true), (2, 34, 2, 3, .int, false), (1, 27, 1, 0, .int, false), (7, 272, 1, 0, .int, false), (1, 11, 1, 1, (.array (.object "StochasticBench$Setting")), true), (1, 17, 1, 2, (.array (.object "StochasticBench$Ledger")), true), (1, 23, 1, 3, .int, false), (4, 27, 4, 0, .int, false), (7, 150, 4, 0, .int, false), (4, 31, 4, 1, .int, false), (5, 57, 4, 1, .int, false), (4, 11, 4, 2, (.array .int), true), (5, 60, 4, 2, (.array .int), true), (4, 15, 4, 3, (.array .int), true), (5, 63, 4, 3, (.array .int), true), (4, 18, 4, 4, (.array .int), true), (5, 66, 4, 4, (.array .int), true), (4, 21, 4, 5, (.array .int), true), (4, 24, 4, 6, (.array .int), true), (4, 34, 4, 7, .int, false), (4, 37, 4, 8, .int, false), (4, 101, 4, 9, .int, false), (4, 80, 4, 10, .int, false), (4, 86, 4, 11, .int, false), (4, 92, 4, 12, .int, false), (5, 27, 5, 0, .int, false), (7, 165, 5, 0, .int, false), (5, 47, 5, 1, .int, false), (7, 162, 5, 1, .int, false), (5, 11, 5, 2, (.array .int), true), (5, 17, 5, 3, (.array .int), true), (5, 50, 5, 4, .int, false), (5, 53, 5, 5, .int, false), (7, 10, 7, 0, (.object "StochasticBench$Setting"), true), (7, 19, 7, 1, (.object "StochasticBench$Ledger"), true), (7, 26, 7, 2, (.object "StochasticBench$History"), true), (7, 33, 7, 3, (.object "StochasticBench$Program"), true), (7, 40, 7, 4, (.object "StochasticBench$Runner"), true), (7, 44, 7, 5, (.object "StochasticBench$Setting"), true), (7, 50, 7, 6, (.object "StochasticBench$Operation"), true), (7, 54, 7, 7, .int, false), (8, 7, 8, 0, (.array .long), true), (8, 49, 8, 1, .int, false), (8, 249, 8, 2, .int, false), (8, 13, 8, 3, (.array .int), true), (8, 193, 8, 4, .int, false), (8, 79, 8, 5, .long, false), (8, 83, 8, 6, .long, false), (8, 75, 8, 7, .boolean, false), (8, 17, 8, 8, (.array .long), true), (8, 132, 8, 9, .int, false), (8, 135, 8, 10, .int, false), (8, 138, 8, 11, .int, false), (8, 146, 8, 12, .long, false), (8, 143, 8, 13, .long, false), (8, 157, 8, 14, .long, false), (8, 20, 8, 15, (.array .int), true), (8, 23, 8, 16, (.array .int), true), (8, 26, 8, 17, (.array .int), true), (8, 29, 8, 18, (.array .int), true), (8, 32, 8, 19, (.array .int), true), (8, 223, 8, 20, .int, false), (8, 197, 8, 21, .int, false), (8, 205, 8, 22, .int, false), (8, 35, 8, 23, (.array .int), true), (8, 220, 8, 24, .int, false), (8, 38, 8, 25, (.array .int), true), (8, 239, 8, 26, .int, false)]
def q_fOk (x : Nat × Nat × Nat × Nat × FieldType × Bool) : Prop := ∃ (C : String) (T : u_T) (N : Nat), vwCl[x.2.2.1]? = some (C, T, N) ∧ x.2.2.2.1 < N ∧ Cond.fieldLink (q_ow x.1) x.2.1 (T x.2.2.2.1).1 (T x.2.2.2.1).2.1 (T x.2.2.2.1).2.2.1 ∈ q_Ts ∧ parseFieldDescriptor (T x.2.2.2.1).2.2.1 = some x.2.2.2.2.1 ∧ (T x.2.2.2.1).2.2.2 = x.2.2.2.2.2 ∧ (T x.2.2.2.1).1 = q_ow x.2.2.1
theorem qwf0 : q_fOk (0, 9, 0, 0, .int, false) := ⟨RX0, TX0, 3, rfl, by decide, q_in 96 (by decide +kernel) rfl, by decide +kernel, rfl, rfl⟩
theorem qwf1 : q_fOk (6, 35, 0, 0, .int, false) := ⟨RX0, TX0, 3, rfl, by decide, q_in 97 (by decide +kernel) rfl, by decide +kernel, rfl, rfl⟩
theorem qwf2 : q_fOk (7, 76, 0, 0, .int, false) := ⟨RX0, TX0, 3, rfl, by decide, q_in 98 (by decide +kernel) rfl, by decide +kernel, rfl, rfl⟩
theorem qwf3 : q_fOk (0, 15, 0, 1, .int, false) := ⟨RX0, TX0, 3, rfl, by decide, q_in 99 (by decide +kernel) rfl, by decide +kernel, rfl, rfl⟩
theorem qwf4 : q_fOk (6, 38, 0, 1, .int, false) := ⟨RX0, TX0, 3, rfl, by decide, q_in 100 (by decide +kernel) rfl, by decide +kernel, rfl, rfl⟩
theorem qwf5 : q_fOk (7, 311, 0, 1, .int, false) := ⟨RX0, TX0, 3, rfl, by decide, q_in 101 (by decide +kernel) rfl, by decide +kernel, rfl, rfl⟩
theorem qwf6 : q_fOk (0, 18, 0, 2, .int, false) := ⟨RX0, TX0, 3, rfl, by decide, q_in 102 (by decide +kernel) rfl, by decide +kernel, rfl, rfl⟩
theorem qwf7 : q_fOk (6, 41, 0, 2, .int, false) := ⟨RX0, TX0, 3, rfl, by decide, q_in 103 (by decide +kernel) rfl, by decide +kernel, rfl, rfl⟩
theorem qwf8 : q_fOk (7, 314, 0, 2, .int, false) := ⟨RX0, TX0, 3, rfl, by decide, q_in 104 (by decide +kernel) rfl, by decide +kernel, rfl, rfl⟩
theorem qwf9 : q_fOk (6, 11, 6, 0, (.array (.object "StochasticBench$Format")), true) := ⟨RX6, TX6, 7, rfl, by decide, q_in 113 (by decide +kernel) rfl, by decide +kernel, rfl, rfl⟩
theorem qwf10 : q_fOk (7, 72, 6, 0, (.array (.object "StochasticBench$Format")), true) := ⟨RX6, TX6, 7, rfl, by decide, q_in 114 (by decide +kernel) rfl, by decide +kernel, rfl, rfl⟩
theorem qwf11 : q_fOk (6, 17, 6, 1, (.array .int), true) := ⟨RX6, TX6, 7, rfl, by decide, q_in 115 (by decide +kernel) rfl, by decide +kernel, rfl, rfl⟩
theorem qwf12 : q_fOk (7, 90, 6, 1, (.array .int), true) := ⟨RX6, TX6, 7, rfl, by decide, q_in 116 (by decide +kernel) rfl, by decide +kernel, rfl, rfl⟩
theorem qwf13 : q_fOk (6, 21, 6, 2, (.array .int), true) := ⟨RX6, TX6, 7, rfl, by decide, q_in 117 (by decide +kernel) rfl, by decide +kernel, rfl, rfl⟩
theorem qwf14 : q_fOk (7, 94, 6, 2, (.array .int), true) := ⟨RX6, TX6, 7, rfl, by decide, q_in 118 (by decide +kernel) rfl, by decide +kernel, rfl, rfl⟩
theorem qwf15 : q_fOk (6, 24, 6, 3, .int, false) := ⟨RX6, TX6, 7, rfl, by decide, q_in 119 (by decide +kernel) rfl, by decide +kernel, rfl, rfl⟩
theorem qwf16 : q_fOk (7, 119, 6, 3, .int, false) := ⟨RX6, TX6, 7, rfl, by decide, q_in 120 (by decide +kernel) rfl, by decide +kernel, rfl, rfl⟩
theorem qwf17 : q_fOk (6, 28, 6, 4, .int, false) := ⟨RX6, TX6, 7, rfl, by decide, q_in 121 (by decide +kernel) rfl, by decide +kernel, rfl, rfl⟩
theorem qwf18 : q_fOk (7, 122, 6, 4, .int, false) := ⟨RX6, TX6, 7, rfl, by decide, q_in 122 (by decide +kernel) rfl, by decide +kernel, rfl, rfl⟩
theorem qwf19 : q_fOk (6, 31, 6, 5, .int, false) := ⟨RX6, TX6, 7, rfl, by decide, q_in 123 (by decide +kernel) rfl, by decide +kernel, rfl, rfl⟩
theorem qwf20 : q_fOk (7, 125, 6, 5, .int, false) := ⟨RX6, TX6, 7, rfl, by decide, q_in 124 (by decide +kernel) rfl, by decide +kernel, rfl, rfl⟩
theorem qwf21 : q_fOk (6, 54, 6, 6, .int, false) := ⟨RX6, TX6, 7, rfl, by decide, q_in 125 (by decide +kernel) rfl, by decide +kernel, rfl, rfl⟩
theorem qwf22 : q_fOk (7, 273, 6, 6, .int, false) := ⟨RX6, TX6, 7, rfl, by decide, q_in 126 (by decide +kernel) rfl, by decide +kernel, rfl, rfl⟩
theorem qwf23 : q_fOk (6, 69, 3, 0, .int, false) := ⟨RX3, TX3, 11, rfl, by decide, q_in 155 (by decide +kernel) rfl, by decide +kernel, rfl, rfl⟩
theorem qwf24 : q_fOk (3, 21, 3, 0, .int, false) := ⟨RX3, TX3, 11, rfl, by decide, q_in 156 (by decide +kernel) rfl, by decide +kernel, rfl, rfl⟩
theorem qwf25 : q_fOk (7, 195, 3, 0, .int, false) := ⟨RX3, TX3, 11, rfl, by decide, q_in 157 (by decide +kernel) rfl, by decide +kernel, rfl, rfl⟩
theorem qwf26 : q_fOk (6, 72, 3, 1, .int, false) := ⟨RX3, TX3, 11, rfl, by decide, q_in 158 (by decide +kernel) rfl, by decide +kernel, rfl, rfl⟩
theorem qwf27 : q_fOk (3, 24, 3, 1, .int, false) := ⟨RX3, TX3, 11, rfl, by decide, q_in 159 (by decide +kernel) rfl, by decide +kernel, rfl, rfl⟩
theorem qwf28 : q_fOk (6, 75, 3, 2, .int, false) := ⟨RX3, TX3, 11, rfl, by decide, q_in 160 (by decide +kernel) rfl, by decide +kernel, rfl, rfl⟩
theorem qwf29 : q_fOk (3, 27, 3, 2, .int, false) := ⟨RX3, TX3, 11, rfl, by decide, q_in 161 (by decide +kernel) rfl, by decide +kernel, rfl, rfl⟩
theorem qwf30 : q_fOk (3, 9, 3, 3, .int, false) := ⟨RX3, TX3, 11, rfl, by decide, q_in 162 (by decide +kernel) rfl, by decide +kernel, rfl, rfl⟩
theorem qwf31 : q_fOk (6, 76, 3, 3, .int, false) := ⟨RX3, TX3, 11, rfl, by decide, q_in 163 (by decide +kernel) rfl, by decide +kernel, rfl, rfl⟩
theorem qwf32 : q_fOk (7, 230, 3, 3, .int, false) := ⟨RX3, TX3, 11, rfl, by decide, q_in 164 (by decide +kernel) rfl, by decide +kernel, rfl, rfl⟩
theorem qwf33 : q_fOk (6, 81, 3, 4, .int, false) := ⟨RX3, TX3, 11, rfl, by decide, q_in 165 (by decide +kernel) rfl, by decide +kernel, rfl, rfl⟩
theorem qwf34 : q_fOk (3, 30, 3, 4, .int, false) := ⟨RX3, TX3, 11, rfl, by decide, q_in 166 (by decide +kernel) rfl, by decide +kernel, rfl, rfl⟩
theorem qwf35 : q_fOk (7, 207, 3, 4, .int, false) := ⟨RX3, TX3, 11, rfl, by decide, q_in 167 (by decide +kernel) rfl, by decide +kernel, rfl, rfl⟩
theorem qwf36 : q_fOk (3, 33, 3, 5, .int, false) := ⟨RX3, TX3, 11, rfl, by decide, q_in 168 (by decide +kernel) rfl, by decide +kernel, rfl, rfl⟩
theorem qwf37 : q_fOk (7, 204, 3, 5, .int, false) := ⟨RX3, TX3, 11, rfl, by decide, q_in 169 (by decide +kernel) rfl, by decide +kernel, rfl, rfl⟩
theorem qwf38 : q_fOk (3, 36, 3, 6, .int, false) := ⟨RX3, TX3, 11, rfl, by decide, q_in 170 (by decide +kernel) rfl, by decide +kernel, rfl, rfl⟩
theorem qwf39 : q_fOk (7, 201, 3, 6, .int, false) := ⟨RX3, TX3, 11, rfl, by decide, q_in 171 (by decide +kernel) rfl, by decide +kernel, rfl, rfl⟩
theorem qwf40 : q_fOk (6, 100, 3, 7, .int, false) := ⟨RX3, TX3, 11, rfl, by decide, q_in 172 (by decide +kernel) rfl, by decide +kernel, rfl, rfl⟩
theorem qwf41 : q_fOk (2, 50, 3, 7, .int, false) := ⟨RX3, TX3, 11, rfl, by decide, q_in 173 (by decide +kernel) rfl, by decide +kernel, rfl, rfl⟩
theorem qwf42 : q_fOk (3, 39, 3, 7, .int, false) := ⟨RX3, TX3, 11, rfl, by decide, q_in 174 (by decide +kernel) rfl, by decide +kernel, rfl, rfl⟩
theorem qwf43 : q_fOk (7, 144, 3, 7, .int, false) := ⟨RX3, TX3, 11, rfl, by decide, q_in 175 (by decide +kernel) rfl, by decide +kernel, rfl, rfl⟩
theorem qwf44 : q_fOk (2, 43, 3, 8, .int, false) := ⟨RX3, TX3, 11, rfl, by decide, q_in 176 (by decide +kernel) rfl, by decide +kernel, rfl, rfl⟩
theorem qwf45 : q_fOk (6, 111, 3, 8, .int, false) := ⟨RX3, TX3, 11, rfl, by decide, q_in 177 (by decide +kernel) rfl, by decide +kernel, rfl, rfl⟩
theorem qwf46 : q_fOk (3, 42, 3, 8, .int, false) := ⟨RX3, TX3, 11, rfl, by decide, q_in 178 (by decide +kernel) rfl, by decide +kernel, rfl, rfl⟩
theorem qwf47 : q_fOk (7, 210, 3, 8, .int, false) := ⟨RX3, TX3, 11, rfl, by decide, q_in 179 (by decide +kernel) rfl, by decide +kernel, rfl, rfl⟩
theorem qwf48 : q_fOk (6, 103, 3, 9, .long, false) := ⟨RX3, TX3, 11, rfl, by decide, q_in 180 (by decide +kernel) rfl, by decide +kernel, rfl, rfl⟩
theorem qwf49 : q_fOk (2, 57, 3, 9, .long, false) := ⟨RX3, TX3, 11, rfl, by decide, q_in 181 (by decide +kernel) rfl, by decide +kernel, rfl, rfl⟩
theorem qwf50 : q_fOk (3, 45, 3, 9, .long, false) := ⟨RX3, TX3, 11, rfl, by decide, q_in 182 (by decide +kernel) rfl, by decide +kernel, rfl, rfl⟩
theorem qwf51 : q_fOk (7, 215, 3, 9, .long, false) := ⟨RX3, TX3, 11, rfl, by decide, q_in 183 (by decide +kernel) rfl, by decide +kernel, rfl, rfl⟩
theorem qwf52 : q_fOk (3, 15, 3, 10, .long, false) := ⟨RX3, TX3, 11, rfl, by decide, q_in 184 (by decide +kernel) rfl, by decide +kernel, rfl, rfl⟩
theorem qwf53 : q_fOk (2, 9, 2, 0, (.array .long), true) := ⟨RX2, TX2, 4, rfl, by decide, q_in 209 (by decide +kernel) rfl, by decide +kernel, rfl, rfl⟩
theorem qwf54 : q_fOk (7, 243, 2, 0, (.array .long), true) := ⟨RX2, TX2, 4, rfl, by decide, q_in 210 (by decide +kernel) rfl, by decide +kernel, rfl, rfl⟩
theorem qwf55 : q_fOk (2, 22, 2, 1, .int, false) := ⟨RX2, TX2, 4, rfl, by decide, q_in 211 (by decide +kernel) rfl, by decide +kernel, rfl, rfl⟩
theorem qwf56 : q_fOk (7, 185, 2, 1, .int, false) := ⟨RX2, TX2, 4, rfl, by decide, q_in 212 (by decide +kernel) rfl, by decide +kernel, rfl, rfl⟩
theorem qwf57 : q_fOk (2, 17, 2, 2, (.array (.object "StochasticBench$Operation")), true) := ⟨RX2, TX2, 4, rfl, by decide, q_in 213 (by decide +kernel) rfl, by decide +kernel, rfl, rfl⟩
theorem qwf58 : q_fOk (2, 34, 2, 3, .int, false) := ⟨RX2, TX2, 4, rfl, by decide, q_in 214 (by decide +kernel) rfl, by decide +kernel, rfl, rfl⟩
theorem qwf59 : q_fOk (1, 27, 1, 0, .int, false) := ⟨RX1, TX1, 4, rfl, by decide, q_in 236 (by decide +kernel) rfl, by decide +kernel, rfl, rfl⟩
theorem qwf60 : q_fOk (7, 272, 1, 0, .int, false) := ⟨RX1, TX1, 4, rfl, by decide, q_in 237 (by decide +kernel) rfl, by decide +kernel, rfl, rfl⟩
theorem qwf61 : q_fOk (1, 11, 1, 1, (.array (.object "StochasticBench$Setting")), true) := ⟨RX1, TX1, 4, rfl, by decide, q_in 238 (by decide +kernel) rfl, by decide +kernel, rfl, rfl⟩
theorem qwf62 : q_fOk (1, 17, 1, 2, (.array (.object "StochasticBench$Ledger")), true) := ⟨RX1, TX1, 4, rfl, by decide, q_in 239 (by decide +kernel) rfl, by decide +kernel, rfl, rfl⟩
theorem qwf63 : q_fOk (1, 23, 1, 3, .int, false) := ⟨RX1, TX1, 4, rfl, by decide, q_in 240 (by decide +kernel) rfl, by decide +kernel, rfl, rfl⟩
theorem qwf64 : q_fOk (4, 27, 4, 0, .int, false) := ⟨RX4, TX4, 13, rfl, by decide, q_in 256 (by decide +kernel) rfl, by decide +kernel, rfl, rfl⟩
theorem qwf65 : q_fOk (7, 150, 4, 0, .int, false) := ⟨RX4, TX4, 13, rfl, by decide, q_in 257 (by decide +kernel) rfl, by decide +kernel, rfl, rfl⟩
theorem qwf66 : q_fOk (4, 31, 4, 1, .int, false) := ⟨RX4, TX4, 13, rfl, by decide, q_in 258 (by decide +kernel) rfl, by decide +kernel, rfl, rfl⟩
theorem qwf67 : q_fOk (5, 57, 4, 1, .int, false) := ⟨RX4, TX4, 13, rfl, by decide, q_in 259 (by decide +kernel) rfl, by decide +kernel, rfl, rfl⟩
theorem qwf68 : q_fOk (4, 11, 4, 2, (.array .int), true) := ⟨RX4, TX4, 13, rfl, by decide, q_in 260 (by decide +kernel) rfl, by decide +kernel, rfl, rfl⟩
theorem qwf69 : q_fOk (5, 60, 4, 2, (.array .int), true) := ⟨RX4, TX4, 13, rfl, by decide, q_in 261 (by decide +kernel) rfl, by decide +kernel, rfl, rfl⟩
theorem qwf70 : q_fOk (4, 15, 4, 3, (.array .int), true) := ⟨RX4, TX4, 13, rfl, by decide, q_in 262 (by decide +kernel) rfl, by decide +kernel, rfl, rfl⟩
theorem qwf71 : q_fOk (5, 63, 4, 3, (.array .int), true) := ⟨RX4, TX4, 13, rfl, by decide, q_in 263 (by decide +kernel) rfl, by decide +kernel, rfl, rfl⟩
theorem qwf72 : q_fOk (4, 18, 4, 4, (.array .int), true) := ⟨RX4, TX4, 13, rfl, by decide, q_in 264 (by decide +kernel) rfl, by decide +kernel, rfl, rfl⟩
theorem qwf73 : q_fOk (5, 66, 4, 4, (.array .int), true) := ⟨RX4, TX4, 13, rfl, by decide, q_in 265 (by decide +kernel) rfl, by decide +kernel, rfl, rfl⟩
theorem qwf74 : q_fOk (4, 21, 4, 5, (.array .int), true) := ⟨RX4, TX4, 13, rfl, by decide, q_in 266 (by decide +kernel) rfl, by decide +kernel, rfl, rfl⟩
theorem qwf75 : q_fOk (4, 24, 4, 6, (.array .int), true) := ⟨RX4, TX4, 13, rfl, by decide, q_in 267 (by decide +kernel) rfl, by decide +kernel, rfl, rfl⟩
theorem qwf76 : q_fOk (4, 34, 4, 7, .int, false) := ⟨RX4, TX4, 13, rfl, by decide, q_in 268 (by decide +kernel) rfl, by decide +kernel, rfl, rfl⟩
theorem qwf77 : q_fOk (4, 37, 4, 8, .int, false) := ⟨RX4, TX4, 13, rfl, by decide, q_in 269 (by decide +kernel) rfl, by decide +kernel, rfl, rfl⟩
theorem qwf78 : q_fOk (4, 101, 4, 9, .int, false) := ⟨RX4, TX4, 13, rfl, by decide, q_in 270 (by decide +kernel) rfl, by decide +kernel, rfl, rfl⟩
theorem qwf79 : q_fOk (4, 80, 4, 10, .int, false) := ⟨RX4, TX4, 13, rfl, by decide, q_in 271 (by decide +kernel) rfl, by decide +kernel, rfl, rfl⟩
theorem qwf80 : q_fOk (4, 86, 4, 11, .int, false) := ⟨RX4, TX4, 13, rfl, by decide, q_in 272 (by decide +kernel) rfl, by decide +kernel, rfl, rfl⟩
theorem qwf81 : q_fOk (4, 92, 4, 12, .int, false) := ⟨RX4, TX4, 13, rfl, by decide, q_in 273 (by decide +kernel) rfl, by decide +kernel, rfl, rfl⟩
theorem qwf82 : q_fOk (5, 27, 5, 0, .int, false) := ⟨RX5, TX5, 6, rfl, by decide, q_in 307 (by decide +kernel) rfl, by decide +kernel, rfl, rfl⟩
theorem qwf83 : q_fOk (7, 165, 5, 0, .int, false) := ⟨RX5, TX5, 6, rfl, by decide, q_in 308 (by decide +kernel) rfl, by decide +kernel, rfl, rfl⟩
theorem qwf84 : q_fOk (5, 47, 5, 1, .int, false) := ⟨RX5, TX5, 6, rfl, by decide, q_in 309 (by decide +kernel) rfl, by decide +kernel, rfl, rfl⟩
theorem qwf85 : q_fOk (7, 162, 5, 1, .int, false) := ⟨RX5, TX5, 6, rfl, by decide, q_in 310 (by decide +kernel) rfl, by decide +kernel, rfl, rfl⟩
theorem qwf86 : q_fOk (5, 11, 5, 2, (.array .int), true) := ⟨RX5, TX5, 6, rfl, by decide, q_in 311 (by decide +kernel) rfl, by decide +kernel, rfl, rfl⟩
theorem qwf87 : q_fOk (5, 17, 5, 3, (.array .int), true) := ⟨RX5, TX5, 6, rfl, by decide, q_in 312 (by decide +kernel) rfl, by decide +kernel, rfl, rfl⟩
theorem qwf88 : q_fOk (5, 50, 5, 4, .int, false) := ⟨RX5, TX5, 6, rfl, by decide, q_in 313 (by decide +kernel) rfl, by decide +kernel, rfl, rfl⟩
theorem qwf89 : q_fOk (5, 53, 5, 5, .int, false) := ⟨RX5, TX5, 6, rfl, by decide, q_in 314 (by decide +kernel) rfl, by decide +kernel, rfl, rfl⟩
theorem qwf90 : q_fOk (7, 10, 7, 0, (.object "StochasticBench$Setting"), true) := ⟨RX7, TX7, 8, rfl, by decide, q_in 330 (by decide +kernel) rfl, by decide +kernel, rfl, rfl⟩
theorem qwf91 : q_fOk (7, 19, 7, 1, (.object "StochasticBench$Ledger"), true) := ⟨RX7, TX7, 8, rfl, by decide, q_in 331 (by decide +kernel) rfl, by decide +kernel, rfl, rfl⟩
theorem qwf92 : q_fOk (7, 26, 7, 2, (.object "StochasticBench$History"), true) := ⟨RX7, TX7, 8, rfl, by decide, q_in 332 (by decide +kernel) rfl, by decide +kernel, rfl, rfl⟩
theorem qwf93 : q_fOk (7, 33, 7, 3, (.object "StochasticBench$Program"), true) := ⟨RX7, TX7, 8, rfl, by decide, q_in 333 (by decide +kernel) rfl, by decide +kernel, rfl, rfl⟩
theorem qwf94 : q_fOk (7, 40, 7, 4, (.object "StochasticBench$Runner"), true) := ⟨RX7, TX7, 8, rfl, by decide, q_in 334 (by decide +kernel) rfl, by decide +kernel, rfl, rfl⟩
theorem qwf95 : q_fOk (7, 44, 7, 5, (.object "StochasticBench$Setting"), true) := ⟨RX7, TX7, 8, rfl, by decide, q_in 335 (by decide +kernel) rfl, by decide +kernel, rfl, rfl⟩
theorem qwf96 : q_fOk (7, 50, 7, 6, (.object "StochasticBench$Operation"), true) := ⟨RX7, TX7, 8, rfl, by decide, q_in 336 (by decide +kernel) rfl, by decide +kernel, rfl, rfl⟩
theorem qwf97 : q_fOk (7, 54, 7, 7, .int, false) := ⟨RX7, TX7, 8, rfl, by decide, q_in 337 (by decide +kernel) rfl, by decide +kernel, rfl, rfl⟩
theorem qwf98 : q_fOk (8, 7, 8, 0, (.array .long), true) := ⟨RX8, TX8, 27, rfl, by decide, q_in 894 (by decide +kernel) rfl, by decide +kernel, rfl, rfl⟩
theorem qwf99 : q_fOk (8, 49, 8, 1, .int, false) := ⟨RX8, TX8, 27, rfl, by decide, q_in 895 (by decide +kernel) rfl, by decide +kernel, rfl, rfl⟩
theorem qwf100 : q_fOk (8, 249, 8, 2, .int, false) := ⟨RX8, TX8, 27, rfl, by decide, q_in 896 (by decide +kernel) rfl, by decide +kernel, rfl, rfl⟩
theorem qwf101 : q_fOk (8, 13, 8, 3, (.array .int), true) := ⟨RX8, TX8, 27, rfl, by decide, q_in 897 (by decide +kernel) rfl, by decide +kernel, rfl, rfl⟩
theorem qwf102 : q_fOk (8, 193, 8, 4, .int, false) := ⟨RX8, TX8, 27, rfl, by decide, q_in 898 (by decide +kernel) rfl, by decide +kernel, rfl, rfl⟩
theorem qwf103 : q_fOk (8, 79, 8, 5, .long, false) := ⟨RX8, TX8, 27, rfl, by decide, q_in 899 (by decide +kernel) rfl, by decide +kernel, rfl, rfl⟩
theorem qwf104 : q_fOk (8, 83, 8, 6, .long, false) := ⟨RX8, TX8, 27, rfl, by decide, q_in 900 (by decide +kernel) rfl, by decide +kernel, rfl, rfl⟩
theorem qwf105 : q_fOk (8, 75, 8, 7, .boolean, false) := ⟨RX8, TX8, 27, rfl, by decide, q_in 901 (by decide +kernel) rfl, by decide +kernel, rfl, rfl⟩
theorem qwf106 : q_fOk (8, 17, 8, 8, (.array .long), true) := ⟨RX8, TX8, 27, rfl, by decide, q_in 902 (by decide +kernel) rfl, by decide +kernel, rfl, rfl⟩
theorem qwf107 : q_fOk (8, 132, 8, 9, .int, false) := ⟨RX8, TX8, 27, rfl, by decide, q_in 903 (by decide +kernel) rfl, by decide +kernel, rfl, rfl⟩
theorem qwf108 : q_fOk (8, 135, 8, 10, .int, false) := ⟨RX8, TX8, 27, rfl, by decide, q_in 904 (by decide +kernel) rfl, by decide +kernel, rfl, rfl⟩
theorem qwf109 : q_fOk (8, 138, 8, 11, .int, false) := ⟨RX8, TX8, 27, rfl, by decide, q_in 905 (by decide +kernel) rfl, by decide +kernel, rfl, rfl⟩
theorem qwf110 : q_fOk (8, 146, 8, 12, .long, false) := ⟨RX8, TX8, 27, rfl, by decide, q_in 906 (by decide +kernel) rfl, by decide +kernel, rfl, rfl⟩
theorem qwf111 : q_fOk (8, 143, 8, 13, .long, false) := ⟨RX8, TX8, 27, rfl, by decide, q_in 907 (by decide +kernel) rfl, by decide +kernel, rfl, rfl⟩
theorem qwf112 : q_fOk (8, 157, 8, 14, .long, false) := ⟨RX8, TX8, 27, rfl, by decide, q_in 908 (by decide +kernel) rfl, by decide +kernel, rfl, rfl⟩
theorem qwf113 : q_fOk (8, 20, 8, 15, (.array .int), true) := ⟨RX8, TX8, 27, rfl, by decide, q_in 909 (by decide +kernel) rfl, by decide +kernel, rfl, rfl⟩
theorem qwf114 : q_fOk (8, 23, 8, 16, (.array .int), true) := ⟨RX8, TX8, 27, rfl, by decide, q_in 910 (by decide +kernel) rfl, by decide +kernel, rfl, rfl⟩
theorem qwf115 : q_fOk (8, 26, 8, 17, (.array .int), true) := ⟨RX8, TX8, 27, rfl, by decide, q_in 911 (by decide +kernel) rfl, by decide +kernel, rfl, rfl⟩
theorem qwf116 : q_fOk (8, 29, 8, 18, (.array .int), true) := ⟨RX8, TX8, 27, rfl, by decide, q_in 912 (by decide +kernel) rfl, by decide +kernel, rfl, rfl⟩
theorem qwf117 : q_fOk (8, 32, 8, 19, (.array .int), true) := ⟨RX8, TX8, 27, rfl, by decide, q_in 913 (by decide +kernel) rfl, by decide +kernel, rfl, rfl⟩
theorem qwf118 : q_fOk (8, 223, 8, 20, .int, false) := ⟨RX8, TX8, 27, rfl, by decide, q_in 914 (by decide +kernel) rfl, by decide +kernel, rfl, rfl⟩
theorem qwf119 : q_fOk (8, 197, 8, 21, .int, false) := ⟨RX8, TX8, 27, rfl, by decide, q_in 915 (by decide +kernel) rfl, by decide +kernel, rfl, rfl⟩
theorem qwf120 : q_fOk (8, 205, 8, 22, .int, false) := ⟨RX8, TX8, 27, rfl, by decide, q_in 916 (by decide +kernel) rfl, by decide +kernel, rfl, rfl⟩
theorem qwf121 : q_fOk (8, 35, 8, 23, (.array .int), true) := ⟨RX8, TX8, 27, rfl, by decide, q_in 917 (by decide +kernel) rfl, by decide +kernel, rfl, rfl⟩
theorem qwf122 : q_fOk (8, 220, 8, 24, .int, false) := ⟨RX8, TX8, 27, rfl, by decide, q_in 918 (by decide +kernel) rfl, by decide +kernel, rfl, rfl⟩
theorem qwf123 : q_fOk (8, 38, 8, 25, (.array .int), true) := ⟨RX8, TX8, 27, rfl, by decide, q_in 919 (by decide +kernel) rfl, by decide +kernel, rfl, rfl⟩
theorem qwf124 : q_fOk (8, 239, 8, 26, .int, false) := ⟨RX8, TX8, 27, rfl, by decide, q_in 920 (by decide +kernel) rfl, by decide +kernel, rfl, rfl⟩
theorem q_fAll : ∀ x ∈ q_fT, q_fOk x := List.forall_mem_cons.mpr ⟨qwf0, List.forall_mem_cons.mpr ⟨qwf1, List.forall_mem_cons.mpr ⟨qwf2, List.forall_mem_cons.mpr ⟨qwf3, List.forall_mem_cons.mpr ⟨qwf4, List.forall_mem_cons.mpr ⟨qwf5, List.forall_mem_cons.mpr ⟨qwf6, List.forall_mem_cons.mpr ⟨qwf7, List.forall_mem_cons.mpr ⟨qwf8, List.forall_mem_cons.mpr ⟨qwf9, List.forall_mem_cons.mpr ⟨qwf10, List.forall_mem_cons.mpr ⟨qwf11, List.forall_mem_cons.mpr ⟨qwf12, List.forall_mem_cons.mpr ⟨qwf13, List.forall_mem_cons.mpr ⟨qwf14, List.forall_mem_cons.mpr ⟨qwf15, List.forall_mem_cons.mpr ⟨qwf16, List.forall_mem_cons.mpr ⟨qwf17, List.forall_mem_cons.mpr ⟨qwf18, List.forall_mem_cons.mpr ⟨qwf19, List.forall_mem_cons.mpr ⟨qwf20, List.forall_mem_cons.mpr ⟨qwf21, List.forall_mem_cons.mpr ⟨qwf22, List.forall_mem_cons.mpr ⟨qwf23, List.forall_mem_cons.mpr ⟨qwf24, List.forall_mem_cons.mpr ⟨qwf25, List.forall_mem_cons.mpr ⟨qwf26, List.forall_mem_cons.mpr ⟨qwf27, List.forall_mem_cons.mpr ⟨qwf28, List.forall_mem_cons.mpr ⟨qwf29, List.forall_mem_cons.mpr ⟨qwf30, List.forall_mem_cons.mpr ⟨qwf31, List.forall_mem_cons.mpr ⟨qwf32, List.forall_mem_cons.mpr ⟨qwf33, List.forall_mem_cons.mpr ⟨qwf34, List.forall_mem_cons.mpr ⟨qwf35, List.forall_mem_cons.mpr ⟨qwf36, List.forall_mem_cons.mpr ⟨qwf37, List.forall_mem_cons.mpr ⟨qwf38, List.forall_mem_cons.mpr ⟨qwf39, List.forall_mem_cons.mpr ⟨qwf40, List.forall_mem_cons.mpr ⟨qwf41, List.forall_mem_cons.mpr ⟨qwf42, List.forall_mem_cons.mpr ⟨qwf43, List.forall_mem_cons.mpr ⟨qwf44, List.forall_mem_cons.mpr ⟨qwf45, List.forall_mem_cons.mpr ⟨qwf46, List.forall_mem_cons.mpr ⟨qwf47, List.forall_mem_cons.mpr ⟨qwf48, List.forall_mem_cons.mpr ⟨qwf49, List.forall_mem_cons.mpr ⟨qwf50, List.forall_mem_cons.mpr ⟨qwf51, List.forall_mem_cons.mpr ⟨qwf52, List.forall_mem_cons.mpr ⟨qwf53, List.forall_mem_cons.mpr ⟨qwf54, List.forall_mem_cons.mpr ⟨qwf55, List.forall_mem_cons.mpr ⟨qwf56, List.forall_mem_cons.mpr ⟨qwf57, List.forall_mem_cons.mpr ⟨qwf58, List.forall_mem_cons.mpr ⟨qwf59, List.forall_mem_cons.mpr ⟨qwf60, List.forall_mem_cons.mpr ⟨qwf61, List.forall_mem_cons.mpr ⟨qwf62, List.forall_mem_cons.mpr ⟨qwf63, List.forall_mem_cons.mpr ⟨qwf64, List.forall_mem_cons.mpr ⟨qwf65, List.forall_mem_cons.mpr ⟨qwf66, List.forall_mem_cons.mpr ⟨qwf67, List.forall_mem_cons.mpr ⟨qwf68, List.forall_mem_cons.mpr ⟨qwf69, List.forall_mem_cons.mpr ⟨qwf70, List.forall_mem_cons.mpr ⟨qwf71, List.forall_mem_cons.mpr ⟨qwf72, List.forall_mem_cons.mpr ⟨qwf73, List.forall_mem_cons.mpr ⟨qwf74, List.forall_mem_cons.mpr ⟨qwf75, List.forall_mem_cons.mpr ⟨qwf76, List.forall_mem_cons.mpr ⟨qwf77, List.forall_mem_cons.mpr ⟨qwf78, List.forall_mem_cons.mpr ⟨qwf79, List.forall_mem_cons.mpr ⟨qwf80, List.forall_mem_cons.mpr ⟨qwf81, List.forall_mem_cons.mpr ⟨qwf82, List.forall_mem_cons.mpr ⟨qwf83, List.forall_mem_cons.mpr ⟨qwf84, List.forall_mem_cons.mpr ⟨qwf85, List.forall_mem_cons.mpr ⟨qwf86, List.forall_mem_cons.mpr ⟨qwf87, List.forall_mem_cons.mpr ⟨qwf88, List.forall_mem_cons.mpr ⟨qwf89, List.forall_mem_cons.mpr ⟨qwf90, List.forall_mem_cons.mpr ⟨qwf91, List.forall_mem_cons.mpr ⟨qwf92, List.forall_mem_cons.mpr ⟨qwf93, List.forall_mem_cons.mpr ⟨qwf94, List.forall_mem_cons.mpr ⟨qwf95, List.forall_mem_cons.mpr ⟨qwf96, List.forall_mem_cons.mpr ⟨qwf97, List.forall_mem_cons.mpr ⟨qwf98, List.forall_mem_cons.mpr ⟨qwf99, List.forall_mem_cons.mpr ⟨qwf100, List.forall_mem_cons.mpr ⟨qwf101, List.forall_mem_cons.mpr ⟨qwf102, List.forall_mem_cons.mpr ⟨qwf103, List.forall_mem_cons.mpr ⟨qwf104, List.forall_mem_cons.mpr ⟨qwf105, List.forall_mem_cons.mpr ⟨qwf106, List.forall_mem_cons.mpr ⟨qwf107, List.forall_mem_cons.mpr ⟨qwf108, List.forall_mem_cons.mpr ⟨qwf109, List.forall_mem_cons.mpr ⟨qwf110, List.forall_mem_cons.mpr ⟨qwf111, List.forall_mem_cons.mpr ⟨qwf112, List.forall_mem_cons.mpr ⟨qwf113, List.forall_mem_cons.mpr ⟨qwf114, List.forall_mem_cons.mpr ⟨qwf115, List.forall_mem_cons.mpr ⟨qwf116, List.forall_mem_cons.mpr ⟨qwf117, List.forall_mem_cons.mpr ⟨qwf118, List.forall_mem_cons.mpr ⟨qwf119, List.forall_mem_cons.mpr ⟨qwf120, List.forall_mem_cons.mpr ⟨qwf121, List.forall_mem_cons.mpr ⟨qwf122, List.forall_mem_cons.mpr ⟨qwf123, List.forall_mem_cons.mpr ⟨qwf124, fun _ h => absurd h List.not_mem_nil⟩⟩⟩⟩⟩⟩⟩⟩⟩⟩⟩⟩⟩⟩⟩⟩⟩⟩⟩⟩⟩⟩⟩⟩⟩⟩⟩⟩⟩⟩⟩⟩⟩⟩⟩⟩⟩⟩⟩⟩⟩⟩⟩⟩⟩⟩⟩⟩⟩⟩⟩⟩⟩⟩⟩⟩⟩⟩⟩⟩⟩⟩⟩⟩⟩⟩⟩⟩⟩⟩⟩⟩⟩⟩⟩⟩⟩⟩⟩⟩⟩⟩⟩⟩⟩⟩⟩⟩⟩⟩⟩⟩⟩⟩⟩⟩⟩⟩⟩⟩⟩⟩⟩⟩⟩⟩⟩⟩⟩⟩⟩⟩⟩⟩⟩⟩⟩⟩⟩⟩⟩⟩⟩⟩⟩
def q_F (ow idx : Nat) : Option (Nat × Nat × FieldType × Bool) := (q_fT.find? (fun x => x.1 == ow && x.2.1 == idx)).map (fun x => x.2.2)
theorem qF_0_9 : q_F 0 9 = some (0, 0, .int, false) := rfl
theorem qF_6_35 : q_F 6 35 = some (0, 0, .int, false) := rfl
theorem qF_7_76 : q_F 7 76 = some (0, 0, .int, false) := rfl
theorem qF_0_15 : q_F 0 15 = some (0, 1, .int, false) := rfl
theorem qF_6_38 : q_F 6 38 = some (0, 1, .int, false) := rfl
theorem qF_7_311 : q_F 7 311 = some (0, 1, .int, false) := rfl
theorem qF_0_18 : q_F 0 18 = some (0, 2, .int, false) := rfl
theorem qF_6_41 : q_F 6 41 = some (0, 2, .int, false) := rfl
theorem qF_7_314 : q_F 7 314 = some (0, 2, .int, false) := rfl
theorem qF_6_11 : q_F 6 11 = some (6, 0, (.array (.object "StochasticBench$Format")), true) := rfl
theorem qF_7_72 : q_F 7 72 = some (6, 0, (.array (.object "StochasticBench$Format")), true) := rfl
theorem qF_6_17 : q_F 6 17 = some (6, 1, (.array .int), true) := rfl
theorem qF_7_90 : q_F 7 90 = some (6, 1, (.array .int), true) := rfl
theorem qF_6_21 : q_F 6 21 = some (6, 2, (.array .int), true) := rfl
theorem qF_7_94 : q_F 7 94 = some (6, 2, (.array .int), true) := rfl
theorem qF_6_24 : q_F 6 24 = some (6, 3, .int, false) := rfl
theorem qF_7_119 : q_F 7 119 = some (6, 3, .int, false) := rfl
theorem qF_6_28 : q_F 6 28 = some (6, 4, .int, false) := rfl
theorem qF_7_122 : q_F 7 122 = some (6, 4, .int, false) := rfl
theorem qF_6_31 : q_F 6 31 = some (6, 5, .int, false) := rfl
theorem qF_7_125 : q_F 7 125 = some (6, 5, .int, false) := rfl
theorem qF_6_54 : q_F 6 54 = some (6, 6, .int, false) := rfl
theorem qF_7_273 : q_F 7 273 = some (6, 6, .int, false) := rfl
theorem qF_6_69 : q_F 6 69 = some (3, 0, .int, false) := rfl
theorem qF_3_21 : q_F 3 21 = some (3, 0, .int, false) := rfl
theorem qF_7_195 : q_F 7 195 = some (3, 0, .int, false) := rfl
theorem qF_6_72 : q_F 6 72 = some (3, 1, .int, false) := rfl
theorem qF_3_24 : q_F 3 24 = some (3, 1, .int, false) := rfl
theorem qF_6_75 : q_F 6 75 = some (3, 2, .int, false) := rfl
theorem qF_3_27 : q_F 3 27 = some (3, 2, .int, false) := rfl
theorem qF_3_9 : q_F 3 9 = some (3, 3, .int, false) := rfl
theorem qF_6_76 : q_F 6 76 = some (3, 3, .int, false) := rfl
theorem qF_7_230 : q_F 7 230 = some (3, 3, .int, false) := rfl
theorem qF_6_81 : q_F 6 81 = some (3, 4, .int, false) := rfl
theorem qF_3_30 : q_F 3 30 = some (3, 4, .int, false) := rfl
theorem qF_7_207 : q_F 7 207 = some (3, 4, .int, false) := rfl
theorem qF_3_33 : q_F 3 33 = some (3, 5, .int, false) := rfl
theorem qF_7_204 : q_F 7 204 = some (3, 5, .int, false) := rfl
theorem qF_3_36 : q_F 3 36 = some (3, 6, .int, false) := rfl
theorem qF_7_201 : q_F 7 201 = some (3, 6, .int, false) := rfl
theorem qF_6_100 : q_F 6 100 = some (3, 7, .int, false) := rfl
theorem qF_2_50 : q_F 2 50 = some (3, 7, .int, false) := rfl
theorem qF_3_39 : q_F 3 39 = some (3, 7, .int, false) := rfl
theorem qF_7_144 : q_F 7 144 = some (3, 7, .int, false) := rfl
theorem qF_2_43 : q_F 2 43 = some (3, 8, .int, false) := rfl
theorem qF_6_111 : q_F 6 111 = some (3, 8, .int, false) := rfl
theorem qF_3_42 : q_F 3 42 = some (3, 8, .int, false) := rfl
theorem qF_7_210 : q_F 7 210 = some (3, 8, .int, false) := rfl
theorem qF_6_103 : q_F 6 103 = some (3, 9, .long, false) := rfl
theorem qF_2_57 : q_F 2 57 = some (3, 9, .long, false) := rfl
theorem qF_3_45 : q_F 3 45 = some (3, 9, .long, false) := rfl
theorem qF_7_215 : q_F 7 215 = some (3, 9, .long, false) := rfl
theorem qF_3_15 : q_F 3 15 = some (3, 10, .long, false) := rfl
theorem qF_2_9 : q_F 2 9 = some (2, 0, (.array .long), true) := rfl
theorem qF_7_243 : q_F 7 243 = some (2, 0, (.array .long), true) := rfl
theorem qF_2_22 : q_F 2 22 = some (2, 1, .int, false) := rfl
theorem qF_7_185 : q_F 7 185 = some (2, 1, .int, false) := rfl
theorem qF_2_17 : q_F 2 17 = some (2, 2, (.array (.object "StochasticBench$Operation")), true) := rfl
theorem qF_2_34 : q_F 2 34 = some (2, 3, .int, false) := rfl
theorem qF_1_27 : q_F 1 27 = some (1, 0, .int, false) := rfl
theorem qF_7_272 : q_F 7 272 = some (1, 0, .int, false) := rfl
theorem qF_1_11 : q_F 1 11 = some (1, 1, (.array (.object "StochasticBench$Setting")), true) := rfl
theorem qF_1_17 : q_F 1 17 = some (1, 2, (.array (.object "StochasticBench$Ledger")), true) := rfl
theorem qF_1_23 : q_F 1 23 = some (1, 3, .int, false) := rfl
theorem qF_4_27 : q_F 4 27 = some (4, 0, .int, false) := rfl
theorem qF_7_150 : q_F 7 150 = some (4, 0, .int, false) := rfl
theorem qF_4_31 : q_F 4 31 = some (4, 1, .int, false) := rfl
theorem qF_5_57 : q_F 5 57 = some (4, 1, .int, false) := rfl
theorem qF_4_11 : q_F 4 11 = some (4, 2, (.array .int), true) := rfl
theorem qF_5_60 : q_F 5 60 = some (4, 2, (.array .int), true) := rfl
theorem qF_4_15 : q_F 4 15 = some (4, 3, (.array .int), true) := rfl
theorem qF_5_63 : q_F 5 63 = some (4, 3, (.array .int), true) := rfl
theorem qF_4_18 : q_F 4 18 = some (4, 4, (.array .int), true) := rfl
theorem qF_5_66 : q_F 5 66 = some (4, 4, (.array .int), true) := rfl
theorem qF_4_21 : q_F 4 21 = some (4, 5, (.array .int), true) := rfl
theorem qF_4_24 : q_F 4 24 = some (4, 6, (.array .int), true) := rfl
theorem qF_4_34 : q_F 4 34 = some (4, 7, .int, false) := rfl
theorem qF_4_37 : q_F 4 37 = some (4, 8, .int, false) := rfl
theorem qF_4_101 : q_F 4 101 = some (4, 9, .int, false) := rfl
theorem qF_4_80 : q_F 4 80 = some (4, 10, .int, false) := rfl
theorem qF_4_86 : q_F 4 86 = some (4, 11, .int, false) := rfl
theorem qF_4_92 : q_F 4 92 = some (4, 12, .int, false) := rfl
theorem qF_5_27 : q_F 5 27 = some (5, 0, .int, false) := rfl
theorem qF_7_165 : q_F 7 165 = some (5, 0, .int, false) := rfl
theorem qF_5_47 : q_F 5 47 = some (5, 1, .int, false) := rfl
theorem qF_7_162 : q_F 7 162 = some (5, 1, .int, false) := rfl
theorem qF_5_11 : q_F 5 11 = some (5, 2, (.array .int), true) := rfl
theorem qF_5_17 : q_F 5 17 = some (5, 3, (.array .int), true) := rfl
theorem qF_5_50 : q_F 5 50 = some (5, 4, .int, false) := rfl
theorem qF_5_53 : q_F 5 53 = some (5, 5, .int, false) := rfl
theorem qF_7_10 : q_F 7 10 = some (7, 0, (.object "StochasticBench$Setting"), true) := rfl
theorem qF_7_19 : q_F 7 19 = some (7, 1, (.object "StochasticBench$Ledger"), true) := rfl
theorem qF_7_26 : q_F 7 26 = some (7, 2, (.object "StochasticBench$History"), true) := rfl
theorem qF_7_33 : q_F 7 33 = some (7, 3, (.object "StochasticBench$Program"), true) := rfl
theorem qF_7_40 : q_F 7 40 = some (7, 4, (.object "StochasticBench$Runner"), true) := rfl
theorem qF_7_44 : q_F 7 44 = some (7, 5, (.object "StochasticBench$Setting"), true) := rfl
theorem qF_7_50 : q_F 7 50 = some (7, 6, (.object "StochasticBench$Operation"), true) := rfl
theorem qF_7_54 : q_F 7 54 = some (7, 7, .int, false) := rfl
theorem qF_8_7 : q_F 8 7 = some (8, 0, (.array .long), true) := rfl
theorem qF_8_49 : q_F 8 49 = some (8, 1, .int, false) := rfl
theorem qF_8_249 : q_F 8 249 = some (8, 2, .int, false) := rfl
theorem qF_8_13 : q_F 8 13 = some (8, 3, (.array .int), true) := rfl
theorem qF_8_193 : q_F 8 193 = some (8, 4, .int, false) := rfl
theorem qF_8_79 : q_F 8 79 = some (8, 5, .long, false) := rfl
theorem qF_8_83 : q_F 8 83 = some (8, 6, .long, false) := rfl
theorem qF_8_75 : q_F 8 75 = some (8, 7, .boolean, false) := rfl
theorem qF_8_17 : q_F 8 17 = some (8, 8, (.array .long), true) := rfl
theorem qF_8_132 : q_F 8 132 = some (8, 9, .int, false) := rfl
theorem qF_8_135 : q_F 8 135 = some (8, 10, .int, false) := rfl
theorem qF_8_138 : q_F 8 138 = some (8, 11, .int, false) := rfl
theorem qF_8_146 : q_F 8 146 = some (8, 12, .long, false) := rfl
theorem qF_8_143 : q_F 8 143 = some (8, 13, .long, false) := rfl
theorem qF_8_157 : q_F 8 157 = some (8, 14, .long, false) := rfl
theorem qF_8_20 : q_F 8 20 = some (8, 15, (.array .int), true) := rfl
theorem qF_8_23 : q_F 8 23 = some (8, 16, (.array .int), true) := rfl
theorem qF_8_26 : q_F 8 26 = some (8, 17, (.array .int), true) := rfl
theorem qF_8_29 : q_F 8 29 = some (8, 18, (.array .int), true) := rfl
theorem qF_8_32 : q_F 8 32 = some (8, 19, (.array .int), true) := rfl
theorem qF_8_223 : q_F 8 223 = some (8, 20, .int, false) := rfl
theorem qF_8_197 : q_F 8 197 = some (8, 21, .int, false) := rfl
theorem qF_8_205 : q_F 8 205 = some (8, 22, .int, false) := rfl
theorem qF_8_35 : q_F 8 35 = some (8, 23, (.array .int), true) := rfl
theorem qF_8_220 : q_F 8 220 = some (8, 24, .int, false) := rfl
theorem qF_8_38 : q_F 8 38 = some (8, 25, (.array .int), true) := rfl
theorem qF_8_239 : q_F 8 239 = some (8, 26, .int, false) := rfl
/-- new objects -/
def q_nT : List (Nat × Nat × Nat × Nat × List Value) := [(9, 7, 7, 8, [.null, .null, .null, .null, .null, .null, .null, .int 0]), (7, 7, 6, 7, [.null, .null, .null, .int 0, .int 0, .int 0, .int 0]), (6, 9, 0, 3, [.int 0, .int 0, .int 0]), (7, 16, 2, 4, [.null, .int 0, .null, .int 0]), (2, 15, 3, 11, [.int 0, .int 0, .int 0, .int 0, .int 0, .int 0, .int 0, .int 0, .int 0, .long 0, .long 0]), (7, 23, 1, 4, [.int 0, .null, .null, .int 0]), (1, 9, 6, 7, [.null, .null, .null, .int 0, .int 0, .int 0, .int 0]), (1, 15, 2, 4, [.null, .int 0, .null, .int 0]), (7, 30, 4, 13, [.int 0, .int 0, .null, .null, .null, .null, .null, .int 0, .int 0, .int 0, .int 0, .int 0, .int 0]), (7, 37, 5, 6, [.int 0, .int 0, .null, .null, .int 0, .int 0]), (7, 47, 3, 11, [.int 0, .int 0, .int 0, .int 0, .int 0, .int 0, .int 0, .int 0, .int 0, .long 0, .long 0]), (9, 10, 8, 27, [.null, .int 0, .int 0, .null, .int 0, .long 0, .long 0, .int 0, .null, .int 0, .int 0, .int 0, .long 0, .long 0, .long 0, .null, .null, .null, .null, .null, .int 0, .int 0, .int 0, .null, .int 0, .null, .int 0])]
def q_nOk (x : Nat × Nat × Nat × Nat × List Value) : Prop := ∃ (C : String) (T : u_T) (ty : Nat → FieldType), vwCl[x.2.2.1]? = some (C, T, x.2.2.2.1) ∧ Cond.classLink (q_ow x.1) x.2.1 C ∈ q_Ts ∧ Cond.instantiable C x.2.2.2.1 ∈ q_Ts ∧ Cond.initialized C ∈ q_Ts ∧ (∀ k, k < x.2.2.2.1 → parseFieldDescriptor (T k).2.2.1 = some (ty k)) ∧ (∀ j, j < x.2.2.2.1 → defaultValue (ty j) = vp_V x.2.2.2.2 j) ∧ (∀ w ∈ u_ws C T x.2.2.2.1, w ∈ q_Ts)
theorem qwn0 : q_nOk (9, 7, 7, 8, [.null, .null, .null, .null, .null, .null, .null, .int 0]) := ⟨RX7, TX7, tyX7, rfl, q_in 75 (by decide +kernel) rfl, q_in 76 (by decide +kernel) rfl, q_in 64 (by decide +kernel) rfl, tyX7_ok, (by decide +kernel), q_ly7⟩
theorem qwn1 : q_nOk (7, 7, 6, 7, [.null, .null, .null, .int 0, .int 0, .int 0, .int 0]) := ⟨RX6, TX6, tyX6, rfl, q_in 83 (by decide +kernel) rfl, q_in 84 (by decide +kernel) rfl, q_in 65 (by decide +kernel) rfl, tyX6_ok, (by decide +kernel), q_ly6⟩
theorem qwn2 : q_nOk (6, 9, 0, 3, [.int 0, .int 0, .int 0]) := ⟨RX0, TX0, tyX0, rfl, q_in 89 (by decide +kernel) rfl, q_in 91 (by decide +kernel) rfl, q_in 66 (by decide +kernel) rfl, tyX0_ok, (by decide +kernel), q_ly0⟩
theorem qwn3 : q_nOk (7, 16, 2, 4, [.null, .int 0, .null, .int 0]) := ⟨RX2, TX2, tyX2, rfl, q_in 142 (by decide +kernel) rfl, q_in 143 (by decide +kernel) rfl, q_in 67 (by decide +kernel) rfl, tyX2_ok, (by decide +kernel), q_ly2⟩
theorem qwn4 : q_nOk (2, 15, 3, 11, [.int 0, .int 0, .int 0, .int 0, .int 0, .int 0, .int 0, .int 0, .int 0, .long 0, .long 0]) := ⟨RX3, TX3, tyX3, rfl, q_in 148 (by decide +kernel) rfl, q_in 150 (by decide +kernel) rfl, q_in 68 (by decide +kernel) rfl, tyX3_ok, (by decide +kernel), q_ly3⟩
theorem qwn5 : q_nOk (7, 23, 1, 4, [.int 0, .null, .null, .int 0]) := ⟨RX1, TX1, tyX1, rfl, q_in 224 (by decide +kernel) rfl, q_in 225 (by decide +kernel) rfl, q_in 69 (by decide +kernel) rfl, tyX1_ok, (by decide +kernel), q_ly1⟩
theorem qwn6 : q_nOk (1, 9, 6, 7, [.null, .null, .null, .int 0, .int 0, .int 0, .int 0]) := ⟨RX6, TX6, tyX6, rfl, q_in 230 (by decide +kernel) rfl, q_in 84 (by decide +kernel) rfl, q_in 65 (by decide +kernel) rfl, tyX6_ok, (by decide +kernel), q_ly6⟩
theorem qwn7 : q_nOk (1, 15, 2, 4, [.null, .int 0, .null, .int 0]) := ⟨RX2, TX2, tyX2, rfl, q_in 232 (by decide +kernel) rfl, q_in 143 (by decide +kernel) rfl, q_in 67 (by decide +kernel) rfl, tyX2_ok, (by decide +kernel), q_ly2⟩
theorem qwn8 : q_nOk (7, 30, 4, 13, [.int 0, .int 0, .null, .null, .null, .null, .null, .int 0, .int 0, .int 0, .int 0, .int 0, .int 0]) := ⟨RX4, TX4, tyX4, rfl, q_in 250 (by decide +kernel) rfl, q_in 251 (by decide +kernel) rfl, q_in 70 (by decide +kernel) rfl, tyX4_ok, (by decide +kernel), q_ly4⟩
theorem qwn9 : q_nOk (7, 37, 5, 6, [.int 0, .int 0, .null, .null, .int 0, .int 0]) := ⟨RX5, TX5, tyX5, rfl, q_in 301 (by decide +kernel) rfl, q_in 302 (by decide +kernel) rfl, q_in 71 (by decide +kernel) rfl, tyX5_ok, (by decide +kernel), q_ly5⟩
theorem qwn10 : q_nOk (7, 47, 3, 11, [.int 0, .int 0, .int 0, .int 0, .int 0, .int 0, .int 0, .int 0, .int 0, .long 0, .long 0]) := ⟨RX3, TX3, tyX3, rfl, q_in 328 (by decide +kernel) rfl, q_in 150 (by decide +kernel) rfl, q_in 68 (by decide +kernel) rfl, tyX3_ok, (by decide +kernel), q_ly3⟩
theorem qwn11 : q_nOk (9, 10, 8, 27, [.null, .int 0, .int 0, .null, .int 0, .long 0, .long 0, .int 0, .null, .int 0, .int 0, .int 0, .long 0, .long 0, .long 0, .null, .null, .null, .null, .null, .int 0, .int 0, .int 0, .null, .int 0, .null, .int 0]) := ⟨RX8, TX8, tyX8, rfl, q_in 884 (by decide +kernel) rfl, q_in 885 (by decide +kernel) rfl, q_in 72 (by decide +kernel) rfl, tyX8_ok, (by decide +kernel), q_ly8⟩
theorem q_nAll : ∀ x ∈ q_nT, q_nOk x := List.forall_mem_cons.mpr ⟨qwn0, List.forall_mem_cons.mpr ⟨qwn1, List.forall_mem_cons.mpr ⟨qwn2, List.forall_mem_cons.mpr ⟨qwn3, List.forall_mem_cons.mpr ⟨qwn4, List.forall_mem_cons.mpr ⟨qwn5, List.forall_mem_cons.mpr ⟨qwn6, List.forall_mem_cons.mpr ⟨qwn7, List.forall_mem_cons.mpr ⟨qwn8, List.forall_mem_cons.mpr ⟨qwn9, List.forall_mem_cons.mpr ⟨qwn10, List.forall_mem_cons.mpr ⟨qwn11, fun _ h => absurd h List.not_mem_nil⟩⟩⟩⟩⟩⟩⟩⟩⟩⟩⟩⟩
def q_N (ow idx : Nat) : Option (Nat × Nat × List Value) := (q_nT.find? (fun x => x.1 == ow && x.2.1 == idx)).map (fun x => x.2.2)
theorem qN_9_7 : q_N 9 7 = some (7, 8, [.null, .null, .null, .null, .null, .null, .null, .int 0]) := rfl
theorem qN_7_7 : q_N 7 7 = some (6, 7, [.null, .null, .null, .int 0, .int 0, .int 0, .int 0]) := rfl
theorem qN_6_9 : q_N 6 9 = some (0, 3, [.int 0, .int 0, .int 0]) := rfl
theorem qN_7_16 : q_N 7 16 = some (2, 4, [.null, .int 0, .null, .int 0]) := rfl
theorem qN_2_15 : q_N 2 15 = some (3, 11, [.int 0, .int 0, .int 0, .int 0, .int 0, .int 0, .int 0, .int 0, .int 0, .long 0, .long 0]) := rfl
theorem qN_7_23 : q_N 7 23 = some (1, 4, [.int 0, .null, .null, .int 0]) := rfl
theorem qN_1_9 : q_N 1 9 = some (6, 7, [.null, .null, .null, .int 0, .int 0, .int 0, .int 0]) := rfl
theorem qN_1_15 : q_N 1 15 = some (2, 4, [.null, .int 0, .null, .int 0]) := rfl
theorem qN_7_30 : q_N 7 30 = some (4, 13, [.int 0, .int 0, .null, .null, .null, .null, .null, .int 0, .int 0, .int 0, .int 0, .int 0, .int 0]) := rfl
theorem qN_7_37 : q_N 7 37 = some (5, 6, [.int 0, .int 0, .null, .null, .int 0, .int 0]) := rfl
theorem qN_7_47 : q_N 7 47 = some (3, 11, [.int 0, .int 0, .int 0, .int 0, .int 0, .int 0, .int 0, .int 0, .int 0, .long 0, .long 0]) := rfl
theorem qN_9_10 : q_N 9 10 = some (8, 27, [.null, .int 0, .int 0, .null, .int 0, .long 0, .long 0, .int 0, .null, .int 0, .int 0, .int 0, .long 0, .long 0, .long 0, .null, .null, .null, .null, .null, .int 0, .int 0, .int 0, .null, .int 0, .null, .int 0]) := rfl
/-- new arrays of references -/
def q_eln : Nat → String := fun k => match k with
  | 2 => "StochasticBench$Format"
  | 3 => "StochasticBench$Ledger"
  | 4 => "StochasticBench$Operation"
  | 5 => "StochasticBench$Setting"
  | _ => ""
def q_aT : List (Nat × Nat × Nat) := [(7, 7, 5), (6, 9, 2), (7, 16, 3), (2, 15, 4), (1, 9, 5), (1, 15, 3), (7, 47, 4)]
def q_aOk (x : Nat × Nat × Nat) : Prop := Cond.classLink (q_ow x.1) x.2.1 (q_eln x.2.2) ∈ q_Ts ∧ 2 ≤ x.2.2 ∧ x.2.2 ≤ 5
theorem qwa0 : q_aOk (7, 7, 5) := ⟨q_in 83 (by decide +kernel) rfl, by decide, by decide⟩
theorem qwa1 : q_aOk (6, 9, 2) := ⟨q_in 89 (by decide +kernel) rfl, by decide, by decide⟩
theorem qwa2 : q_aOk (7, 16, 3) := ⟨q_in 142 (by decide +kernel) rfl, by decide, by decide⟩
theorem qwa3 : q_aOk (2, 15, 4) := ⟨q_in 148 (by decide +kernel) rfl, by decide, by decide⟩
theorem qwa4 : q_aOk (1, 9, 5) := ⟨q_in 230 (by decide +kernel) rfl, by decide, by decide⟩
theorem qwa5 : q_aOk (1, 15, 3) := ⟨q_in 232 (by decide +kernel) rfl, by decide, by decide⟩
theorem qwa6 : q_aOk (7, 47, 4) := ⟨q_in 328 (by decide +kernel) rfl, by decide, by decide⟩
theorem q_aAll : ∀ x ∈ q_aT, q_aOk x := List.forall_mem_cons.mpr ⟨qwa0, List.forall_mem_cons.mpr ⟨qwa1, List.forall_mem_cons.mpr ⟨qwa2, List.forall_mem_cons.mpr ⟨qwa3, List.forall_mem_cons.mpr ⟨qwa4, List.forall_mem_cons.mpr ⟨qwa5, List.forall_mem_cons.mpr ⟨qwa6, fun _ h => absurd h List.not_mem_nil⟩⟩⟩⟩⟩⟩⟩
def q_A (ow idx : Nat) : Option Nat := (q_aT.find? (fun x => x.1 == ow && x.2.1 == idx)).map (fun x => x.2.2)
theorem qA_7_7 : q_A 7 7 = some 5 := rfl
theorem qA_6_9 : q_A 6 9 = some 2 := rfl
theorem qA_7_16 : q_A 7 16 = some 3 := rfl
theorem qA_2_15 : q_A 2 15 = some 4 := rfl
theorem qA_1_9 : q_A 1 9 = some 5 := rfl
theorem qA_1_15 : q_A 1 15 = some 3 := rfl
theorem qA_7_47 : q_A 7 47 = some 4 := rfl
/-- constants -/
def q_cT : List (Nat × Nat × Int32) := [(7, 68, (-2000000001)), (7, 176, (-1048575)), (7, 175, 1048575), (7, 135, (-2000000002)), (3, 19, 747796405), (3, 20, 73244475), (7, 153, (-2000000003)), (4, 44, (-2000000009)), (7, 158, (-2000000009)), (5, 56, 1000000), (8, 104, (-2000000001)), (8, 119, (-1048575)), (8, 120, 1048575), (8, 186, (-2000000002)), (8, 98, 747796405), (8, 99, 73244475), (8, 196, (-2000000003)), (8, 200, (-2000000009))]
theorem qwc0 : Cond.constant (q_ow 7) 68 (-2000000001) ∈ q_Ts := q_in 365 (by decide +kernel) rfl
theorem qwc1 : Cond.constant (q_ow 7) 176 (-1048575) ∈ q_Ts := q_in 417 (by decide +kernel) rfl
theorem qwc2 : Cond.constant (q_ow 7) 175 1048575 ∈ q_Ts := q_in 418 (by decide +kernel) rfl
theorem qwc3 : Cond.constant (q_ow 7) 135 (-2000000002) ∈ q_Ts := q_in 509 (by decide +kernel) rfl
theorem qwc4 : Cond.constant (q_ow 3) 19 747796405 ∈ q_Ts := q_in 520 (by decide +kernel) rfl
theorem qwc5 : Cond.constant (q_ow 3) 20 73244475 ∈ q_Ts := q_in 521 (by decide +kernel) rfl
theorem qwc6 : Cond.constant (q_ow 7) 153 (-2000000003) ∈ q_Ts := q_in 575 (by decide +kernel) rfl
theorem qwc7 : Cond.constant (q_ow 4) 44 (-2000000009) ∈ q_Ts := q_in 655 (by decide +kernel) rfl
theorem qwc8 : Cond.constant (q_ow 7) 158 (-2000000009) ∈ q_Ts := q_in 660 (by decide +kernel) rfl
theorem qwc9 : Cond.constant (q_ow 5) 56 1000000 ∈ q_Ts := q_in 673 (by decide +kernel) rfl
theorem qwc10 : Cond.constant (q_ow 8) 104 (-2000000001) ∈ q_Ts := q_in 986 (by decide +kernel) rfl
theorem qwc11 : Cond.constant (q_ow 8) 119 (-1048575) ∈ q_Ts := q_in 1010 (by decide +kernel) rfl
theorem qwc12 : Cond.constant (q_ow 8) 120 1048575 ∈ q_Ts := q_in 1011 (by decide +kernel) rfl
theorem qwc13 : Cond.constant (q_ow 8) 186 (-2000000002) ∈ q_Ts := q_in 1074 (by decide +kernel) rfl
theorem qwc14 : Cond.constant (q_ow 8) 98 747796405 ∈ q_Ts := q_in 1095 (by decide +kernel) rfl
theorem qwc15 : Cond.constant (q_ow 8) 99 73244475 ∈ q_Ts := q_in 1096 (by decide +kernel) rfl
theorem qwc16 : Cond.constant (q_ow 8) 196 (-2000000003) ∈ q_Ts := q_in 1130 (by decide +kernel) rfl
theorem qwc17 : Cond.constant (q_ow 8) 200 (-2000000009) ∈ q_Ts := q_in 1143 (by decide +kernel) rfl
theorem q_cAll : ∀ x ∈ q_cT, Cond.constant (q_ow x.1) x.2.1 x.2.2 ∈ q_Ts := List.forall_mem_cons.mpr ⟨qwc0, List.forall_mem_cons.mpr ⟨qwc1, List.forall_mem_cons.mpr ⟨qwc2, List.forall_mem_cons.mpr ⟨qwc3, List.forall_mem_cons.mpr ⟨qwc4, List.forall_mem_cons.mpr ⟨qwc5, List.forall_mem_cons.mpr ⟨qwc6, List.forall_mem_cons.mpr ⟨qwc7, List.forall_mem_cons.mpr ⟨qwc8, List.forall_mem_cons.mpr ⟨qwc9, List.forall_mem_cons.mpr ⟨qwc10, List.forall_mem_cons.mpr ⟨qwc11, List.forall_mem_cons.mpr ⟨qwc12, List.forall_mem_cons.mpr ⟨qwc13, List.forall_mem_cons.mpr ⟨qwc14, List.forall_mem_cons.mpr ⟨qwc15, List.forall_mem_cons.mpr ⟨qwc16, List.forall_mem_cons.mpr ⟨qwc17, fun _ h => absurd h List.not_mem_nil⟩⟩⟩⟩⟩⟩⟩⟩⟩⟩⟩⟩⟩⟩⟩⟩⟩⟩
def q_C (ow idx : Nat) : Option Int32 := (q_cT.find? (fun x => x.1 == ow && x.2.1 == idx)).map (fun x => x.2.2)
theorem qC_7_68 : q_C 7 68 = some (-2000000001) := rfl
theorem qC_7_176 : q_C 7 176 = some (-1048575) := rfl
theorem qC_7_175 : q_C 7 175 = some 1048575 := rfl
theorem qC_7_135 : q_C 7 135 = some (-2000000002) := rfl
theorem qC_3_19 : q_C 3 19 = some 747796405 := rfl
theorem qC_3_20 : q_C 3 20 = some 73244475 := rfl
theorem qC_7_153 : q_C 7 153 = some (-2000000003) := rfl
theorem qC_4_44 : q_C 4 44 = some (-2000000009) := rfl
theorem qC_7_158 : q_C 7 158 = some (-2000000009) := rfl
theorem qC_5_56 : q_C 5 56 = some 1000000 := rfl
theorem qC_8_104 : q_C 8 104 = some (-2000000001) := rfl
theorem qC_8_119 : q_C 8 119 = some (-1048575) := rfl
theorem qC_8_120 : q_C 8 120 = some 1048575 := rfl
theorem qC_8_186 : q_C 8 186 = some (-2000000002) := rfl
theorem qC_8_98 : q_C 8 98 = some 747796405 := rfl
theorem qC_8_99 : q_C 8 99 = some 73244475 := rfl
theorem qC_8_196 : q_C 8 196 = some (-2000000003) := rfl
theorem qC_8_200 : q_C 8 200 = some (-2000000009) := rfl
def q_dT : List (Nat × Nat × Int64) := [(3, 84, 2), (7, 213, (-2000000001)), (7, 249, 2147483647), (7, 279, 18432), (7, 281, 31), (3, 97, 31), (8, 41, 4), (8, 43, (-4)), (8, 45, 3), (8, 47, 8), (8, 96, 2), (8, 141, 1048576), (8, 160, 64), (8, 267, (-2000000009)), (8, 259, 1000), (8, 261, 100), (8, 263, 10), (8, 265, (-2000000001)), (8, 278, 2147483647), (8, 300, 18432), (8, 302, 31)]
theorem qwd0 : Cond.constantLong (q_ow 3) 84 2 ∈ q_Ts := q_in 468 (by decide +kernel) rfl
theorem qwd1 : Cond.constantLong (q_ow 7) 213 (-2000000001) ∈ q_Ts := q_in 755 (by decide +kernel) rfl
theorem qwd2 : Cond.constantLong (q_ow 7) 249 2147483647 ∈ q_Ts := q_in 806 (by decide +kernel) rfl
theorem qwd3 : Cond.constantLong (q_ow 7) 279 18432 ∈ q_Ts := q_in 871 (by decide +kernel) rfl
theorem qwd4 : Cond.constantLong (q_ow 7) 281 31 ∈ q_Ts := q_in 872 (by decide +kernel) rfl
theorem qwd5 : Cond.constantLong (q_ow 3) 97 31 ∈ q_Ts := q_in 882 (by decide +kernel) rfl
theorem qwd6 : Cond.constantLong (q_ow 8) 41 4 ∈ q_Ts := q_in 890 (by decide +kernel) rfl
theorem qwd7 : Cond.constantLong (q_ow 8) 43 (-4) ∈ q_Ts := q_in 891 (by decide +kernel) rfl
theorem qwd8 : Cond.constantLong (q_ow 8) 45 3 ∈ q_Ts := q_in 892 (by decide +kernel) rfl
theorem qwd9 : Cond.constantLong (q_ow 8) 47 8 ∈ q_Ts := q_in 893 (by decide +kernel) rfl
theorem qwd10 : Cond.constantLong (q_ow 8) 96 2 ∈ q_Ts := q_in 1045 (by decide +kernel) rfl
theorem qwd11 : Cond.constantLong (q_ow 8) 141 1048576 ∈ q_Ts := q_in 1091 (by decide +kernel) rfl
theorem qwd12 : Cond.constantLong (q_ow 8) 160 64 ∈ q_Ts := q_in 1101 (by decide +kernel) rfl
theorem qwd13 : Cond.constantLong (q_ow 8) 267 (-2000000009) ∈ q_Ts := q_in 1121 (by decide +kernel) rfl
theorem qwd14 : Cond.constantLong (q_ow 8) 259 1000 ∈ q_Ts := q_in 1224 (by decide +kernel) rfl
theorem qwd15 : Cond.constantLong (q_ow 8) 261 100 ∈ q_Ts := q_in 1225 (by decide +kernel) rfl
theorem qwd16 : Cond.constantLong (q_ow 8) 263 10 ∈ q_Ts := q_in 1226 (by decide +kernel) rfl
theorem qwd17 : Cond.constantLong (q_ow 8) 265 (-2000000001) ∈ q_Ts := q_in 1247 (by decide +kernel) rfl
theorem qwd18 : Cond.constantLong (q_ow 8) 278 2147483647 ∈ q_Ts := q_in 1288 (by decide +kernel) rfl
theorem qwd19 : Cond.constantLong (q_ow 8) 300 18432 ∈ q_Ts := q_in 1344 (by decide +kernel) rfl
theorem qwd20 : Cond.constantLong (q_ow 8) 302 31 ∈ q_Ts := q_in 1345 (by decide +kernel) rfl
theorem q_dAll : ∀ x ∈ q_dT, Cond.constantLong (q_ow x.1) x.2.1 x.2.2 ∈ q_Ts := List.forall_mem_cons.mpr ⟨qwd0, List.forall_mem_cons.mpr ⟨qwd1, List.forall_mem_cons.mpr ⟨qwd2, List.forall_mem_cons.mpr ⟨qwd3, List.forall_mem_cons.mpr ⟨qwd4, List.forall_mem_cons.mpr ⟨qwd5, List.forall_mem_cons.mpr ⟨qwd6, List.forall_mem_cons.mpr ⟨qwd7, List.forall_mem_cons.mpr ⟨qwd8, List.forall_mem_cons.mpr ⟨qwd9, List.forall_mem_cons.mpr ⟨qwd10, List.forall_mem_cons.mpr ⟨qwd11, List.forall_mem_cons.mpr ⟨qwd12, List.forall_mem_cons.mpr ⟨qwd13, List.forall_mem_cons.mpr ⟨qwd14, List.forall_mem_cons.mpr ⟨qwd15, List.forall_mem_cons.mpr ⟨qwd16, List.forall_mem_cons.mpr ⟨qwd17, List.forall_mem_cons.mpr ⟨qwd18, List.forall_mem_cons.mpr ⟨qwd19, List.forall_mem_cons.mpr ⟨qwd20, fun _ h => absurd h List.not_mem_nil⟩⟩⟩⟩⟩⟩⟩⟩⟩⟩⟩⟩⟩⟩⟩⟩⟩⟩⟩⟩⟩
def q_D (ow idx : Nat) : Option Int64 := (q_dT.find? (fun x => x.1 == ow && x.2.1 == idx)).map (fun x => x.2.2)
theorem qD_3_84 : q_D 3 84 = some 2 := rfl
theorem qD_7_213 : q_D 7 213 = some (-2000000001) := rfl
theorem qD_7_249 : q_D 7 249 = some 2147483647 := rfl
theorem qD_7_279 : q_D 7 279 = some 18432 := rfl
theorem qD_7_281 : q_D 7 281 = some 31 := rfl
theorem qD_3_97 : q_D 3 97 = some 31 := rfl
theorem qD_8_41 : q_D 8 41 = some 4 := rfl
theorem qD_8_43 : q_D 8 43 = some (-4) := rfl
theorem qD_8_45 : q_D 8 45 = some 3 := rfl
theorem qD_8_47 : q_D 8 47 = some 8 := rfl
theorem qD_8_96 : q_D 8 96 = some 2 := rfl
theorem qD_8_141 : q_D 8 141 = some 1048576 := rfl
theorem qD_8_160 : q_D 8 160 = some 64 := rfl
theorem qD_8_267 : q_D 8 267 = some (-2000000009) := rfl
theorem qD_8_259 : q_D 8 259 = some 1000 := rfl
theorem qD_8_261 : q_D 8 261 = some 100 := rfl
theorem qD_8_263 : q_D 8 263 = some 10 := rfl
theorem qD_8_265 : q_D 8 265 = some (-2000000001) := rfl
theorem qD_8_278 : q_D 8 278 = some 2147483647 := rfl
theorem qD_8_300 : q_D 8 300 = some 18432 := rfl
theorem qD_8_302 : q_D 8 302 = some 31 := rfl
def q_nest : List (String × Nat × MethodName × String) := [(RX6, 34, yX0_init, "StochasticBench"), (RX2, 21, yX3_init, "StochasticBench"), (RX7, 32, yX4_init, "StochasticBench"), (RX7, 39, yX5_init, "StochasticBench"), (RX7, 49, yX3_init, "StochasticBench")]
def q_over : List String := ["StochasticBench$Format", "StochasticBench$Operation", "StochasticBench$Setting", "StochasticBench$Ledger"]
theorem q_nestIn : ∀ x ∈ q_nest, Cond.methodLinkNest x.1 x.2.1 x.2.2.1 x.2.2.2 ∈ lw_tbl := List.forall_mem_cons.mpr ⟨List.mem_of_getElem? (i := 92) (by decide +kernel), List.forall_mem_cons.mpr ⟨List.mem_of_getElem? (i := 151) (by decide +kernel), List.forall_mem_cons.mpr ⟨List.mem_of_getElem? (i := 252) (by decide +kernel), List.forall_mem_cons.mpr ⟨List.mem_of_getElem? (i := 303) (by decide +kernel), List.forall_mem_cons.mpr ⟨List.mem_of_getElem? (i := 329) (by decide +kernel), fun _ h => absurd h List.not_mem_nil⟩⟩⟩⟩⟩
theorem q_overIn : ∀ C ∈ q_over, Cond.arrayOver (.object C) ∈ lw_tbl := List.forall_mem_cons.mpr ⟨List.mem_of_getElem? (i := 90) (by decide +kernel), List.forall_mem_cons.mpr ⟨List.mem_of_getElem? (i := 149) (by decide +kernel), List.forall_mem_cons.mpr ⟨List.mem_of_getElem? (i := 231) (by decide +kernel), List.forall_mem_cons.mpr ⟨List.mem_of_getElem? (i := 233) (by decide +kernel), fun _ h => absurd h List.not_mem_nil⟩⟩⟩⟩
theorem q_aci : Cond.arrayClass .int ∈ q_Ts := q_in 112 (by decide +kernel) rfl
theorem q_acj : Cond.arrayClass .long ∈ q_Ts := q_in 208 (by decide +kernel) rfl
