def RX0 : String := "ProgramSchool$Answer"
def TX0 : u_T := fun k => match k with
  | 0 => ("ProgramSchool$Answer", "pupil", "I", true)
  | 1 => ("ProgramSchool$Answer", "exercise", "LProgramSchool$Exercise;", true)
  | 2 => ("ProgramSchool$Answer", "program", "LProgramSchool$Program;", true)
  | 3 => ("ProgramSchool$Answer", "day", "I", true)
  | 4 => ("ProgramSchool$Answer", "ends", "LProgramSchool$Row;", true)
  | 5 => ("ProgramSchool$Answer", "passed", "LProgramSchool$Row;", true)
  | 6 => ("ProgramSchool$Answer", "commons", "LProgramSchool$Row;", true)
  | _ => ("ProgramSchool$Answer", "isStruck", "Z", false)
def tyX0 : Nat → FieldType := fun k => match k with
  | 0 => .int
  | 1 => .object "ProgramSchool$Exercise"
  | 2 => .object "ProgramSchool$Program"
  | 3 => .int
  | 4 => .object "ProgramSchool$Row"
  | 5 => .object "ProgramSchool$Row"
  | 6 => .object "ProgramSchool$Row"
  | _ => .boolean
abbrev wsX00 : List Cond := u_ws RX0 TX0 8
theorem nmX0 : ∀ a, a < 8 → ∀ b, b < 8 → a ≠ b → (TX0 a).2.1 ≠ (TX0 b).2.1 := by decide +kernel
theorem tyX0_ok : ∀ k, k < 8 → parseFieldDescriptor (TX0 k).2.2.1 = some (tyX0 k) := by decide +kernel
abbrev cX0_init : ByteArray := prog_2_method_1_code
def yX0_init : MethodName := ⟨RX0, "<init>", "(ILProgramSchool$Exercise;ILProgramSchool$Program;)V"⟩
abbrev cX0_markNow : ByteArray := prog_2_method_2_code
def yX0_markNow : MethodName := ⟨RX0, "markNow", "()I"⟩
abbrev cX0_markFor : ByteArray := prog_2_method_3_code
def yX0_markFor : MethodName := ⟨RX0, "markFor", "(I)I"⟩
def RX1 : String := "ProgramSchool$Exercise"
def TX1 : u_T := fun k => match k with
  | 0 => ("ProgramSchool$Exercise", "number", "I", true)
  | 1 => ("ProgramSchool$Exercise", "fuel", "I", true)
  | 2 => ("ProgramSchool$Exercise", "due", "I", true)
  | _ => ("ProgramSchool$Exercise", "tests", "Ljava/util/ArrayList;", true)
def tyX1 : Nat → FieldType := fun k => match k with
  | 0 => .int
  | 1 => .int
  | 2 => .int
  | _ => .object "java/util/ArrayList"
abbrev wsX10 : List Cond := u_ws RX1 TX1 4
theorem nmX1 : ∀ a, a < 4 → ∀ b, b < 4 → a ≠ b → (TX1 a).2.1 ≠ (TX1 b).2.1 := by decide +kernel
theorem tyX1_ok : ∀ k, k < 4 → parseFieldDescriptor (TX1 k).2.2.1 = some (tyX1 k) := by decide +kernel
abbrev cX1_init : ByteArray := prog_3_method_1_code
def yX1_init : MethodName := ⟨RX1, "<init>", "(III)V"⟩
abbrev cX1_add : ByteArray := prog_3_method_2_code
def yX1_add : MethodName := ⟨RX1, "add", "(LProgramSchool$Test;)V"⟩
abbrev cX1_testCount : ByteArray := prog_3_method_3_code
def yX1_testCount : MethodName := ⟨RX1, "testCount", "()I"⟩
abbrev cX1_test : ByteArray := prog_3_method_4_code
def yX1_test : MethodName := ⟨RX1, "test", "(I)LProgramSchool$Test;"⟩
abbrev cX1_pointsFor : ByteArray := prog_3_method_5_code
def yX1_pointsFor : MethodName := ⟨RX1, "pointsFor", "(LProgramSchool$Row;)I"⟩
def RX2 : String := "ProgramSchool$Machine"
def TX2 : u_T := fun k => match k with
  | 0 => ("ProgramSchool$Machine", "values", "LProgramSchool$Row;", true)
  | 1 => ("ProgramSchool$Machine", "program", "LProgramSchool$Program;", false)
  | 2 => ("ProgramSchool$Machine", "run", "LProgramSchool$Run;", false)
  | _ => ("ProgramSchool$Machine", "at", "I", false)
def tyX2 : Nat → FieldType := fun k => match k with
  | 0 => .object "ProgramSchool$Row"
  | 1 => .object "ProgramSchool$Program"
  | 2 => .object "ProgramSchool$Run"
  | _ => .int
abbrev wsX20 : List Cond := u_ws RX2 TX2 4
theorem nmX2 : ∀ a, a < 4 → ∀ b, b < 4 → a ≠ b → (TX2 a).2.1 ≠ (TX2 b).2.1 := by decide +kernel
theorem tyX2_ok : ∀ k, k < 4 → parseFieldDescriptor (TX2 k).2.2.1 = some (tyX2 k) := by decide +kernel
abbrev cX2_init : ByteArray := prog_4_method_1_code
def yX2_init : MethodName := ⟨RX2, "<init>", "(LProgramSchool$Program;LProgramSchool$Run;)V"⟩
abbrev cX2_run : ByteArray := prog_4_method_2_code
def yX2_run : MethodName := ⟨RX2, "run", "(LProgramSchool$Program;LProgramSchool$Run;III)V"⟩
abbrev cX2_compute : ByteArray := prog_4_method_3_code
def yX2_compute : MethodName := ⟨RX2, "compute", "(II)V"⟩
abbrev cX2_go : ByteArray := prog_4_method_4_code
def yX2_go : MethodName := ⟨RX2, "go", "(II)V"⟩
abbrev cX2_decide : ByteArray := prog_4_method_5_code
def yX2_decide : MethodName := ⟨RX2, "decide", "(ZI)V"⟩
abbrev cX2_call : ByteArray := prog_4_method_6_code
def yX2_call : MethodName := ⟨RX2, "call", "(I)V"⟩
def RX3 : String := "ProgramSchool$Program"
def TX3 : u_T := fun k => match k with
  | 0 => ("ProgramSchool$Program", "tokens", "LProgramSchool$Tokens;", true)
  | 1 => ("ProgramSchool$Program", "partStarts", "LProgramSchool$Row;", true)
  | 2 => ("ProgramSchool$Program", "partEnds", "LProgramSchool$Row;", true)
  | 3 => ("ProgramSchool$Program", "codes", "LProgramSchool$Row;", true)
  | 4 => ("ProgramSchool$Program", "operands", "LProgramSchool$Row;", true)
  | 5 => ("ProgramSchool$Program", "defNames", "LProgramSchool$Row;", true)
  | 6 => ("ProgramSchool$Program", "defParameters", "LProgramSchool$Row;", true)
  | 7 => ("ProgramSchool$Program", "defBlocks", "LProgramSchool$Row;", true)
  | 8 => ("ProgramSchool$Program", "defEntries", "LProgramSchool$Row;", true)
  | 9 => ("ProgramSchool$Program", "fault", "I", false)
  | _ => ("ProgramSchool$Program", "faultToken", "I", false)
def tyX3 : Nat → FieldType := fun k => match k with
  | 0 => .object "ProgramSchool$Tokens"
  | 1 => .object "ProgramSchool$Row"
  | 2 => .object "ProgramSchool$Row"
  | 3 => .object "ProgramSchool$Row"
  | 4 => .object "ProgramSchool$Row"
  | 5 => .object "ProgramSchool$Row"
  | 6 => .object "ProgramSchool$Row"
  | 7 => .object "ProgramSchool$Row"
  | 8 => .object "ProgramSchool$Row"
  | 9 => .int
  | _ => .int
abbrev wsX30 : List Cond := u_ws RX3 TX3 11
theorem nmX3 : ∀ a, a < 11 → ∀ b, b < 11 → a ≠ b → (TX3 a).2.1 ≠ (TX3 b).2.1 := by decide +kernel
theorem tyX3_ok : ∀ k, k < 11 → parseFieldDescriptor (TX3 k).2.2.1 = some (tyX3 k) := by decide +kernel
abbrev cX3_init : ByteArray := prog_5_method_1_code
def yX3_init : MethodName := ⟨RX3, "<init>", "()V"⟩
abbrev cX3_begin : ByteArray := prog_5_method_2_code
def yX3_begin : MethodName := ⟨RX3, "begin", "()V"⟩
abbrev cX3_beginPart : ByteArray := prog_5_method_3_code
def yX3_beginPart : MethodName := ⟨RX3, "beginPart", "(I)I"⟩
abbrev cX3_endPart : ByteArray := prog_5_method_4_code
def yX3_endPart : MethodName := ⟨RX3, "endPart", "(II)V"⟩
abbrev cX3_partCount : ByteArray := prog_5_method_5_code
def yX3_partCount : MethodName := ⟨RX3, "partCount", "()I"⟩
abbrev cX3_addCode : ByteArray := prog_5_method_6_code
def yX3_addCode : MethodName := ⟨RX3, "addCode", "(II)I"⟩
abbrev cX3_codeCount : ByteArray := prog_5_method_7_code
def yX3_codeCount : MethodName := ⟨RX3, "codeCount", "()I"⟩
abbrev cX3_code : ByteArray := prog_5_method_8_code
def yX3_code : MethodName := ⟨RX3, "code", "(I)I"⟩
abbrev cX3_operand : ByteArray := prog_5_method_9_code
def yX3_operand : MethodName := ⟨RX3, "operand", "(I)I"⟩
abbrev cX3_setOperand : ByteArray := prog_5_method_10_code
def yX3_setOperand : MethodName := ⟨RX3, "setOperand", "(II)V"⟩
abbrev cX3_addDef : ByteArray := prog_5_method_11_code
def yX3_addDef : MethodName := ⟨RX3, "addDef", "(I)I"⟩
abbrev cX3_setDef : ByteArray := prog_5_method_12_code
def yX3_setDef : MethodName := ⟨RX3, "setDef", "(IIII)V"⟩
abbrev cX3_defNamed : ByteArray := prog_5_method_13_code
def yX3_defNamed : MethodName := ⟨RX3, "defNamed", "(I)I"⟩
abbrev cX3_parameters : ByteArray := prog_5_method_14_code
def yX3_parameters : MethodName := ⟨RX3, "parameters", "(I)I"⟩
abbrev cX3_block : ByteArray := prog_5_method_15_code
def yX3_block : MethodName := ⟨RX3, "block", "(I)I"⟩
abbrev cX3_entry : ByteArray := prog_5_method_16_code
def yX3_entry : MethodName := ⟨RX3, "entry", "(I)I"⟩
abbrev cX3_partsInCommon : ByteArray := prog_5_method_17_code
def yX3_partsInCommon : MethodName := ⟨RX3, "partsInCommon", "(LProgramSchool$Program;)I"⟩
abbrev cX3_freePartLike : ByteArray := prog_5_method_18_code
def yX3_freePartLike : MethodName := ⟨RX3, "freePartLike", "(ILProgramSchool$Program;LProgramSchool$Row;)I"⟩
abbrev cX3_areAlike : ByteArray := prog_5_method_19_code
def yX3_areAlike : MethodName := ⟨RX3, "areAlike", "(ILProgramSchool$Program;I)Z"⟩
def RX4 : String := "ProgramSchool$Reader"
def TX4 : u_T := fun k => match k with
  | 0 => ("ProgramSchool$Reader", "program", "LProgramSchool$Program;", false)
  | 1 => ("ProgramSchool$Reader", "tokens", "LProgramSchool$Tokens;", false)
  | 2 => ("ProgramSchool$Reader", "at", "I", false)
  | 3 => ("ProgramSchool$Reader", "end", "I", false)
  | 4 => ("ProgramSchool$Reader", "level", "I", false)
  | 5 => ("ProgramSchool$Reader", "isInDef", "Z", false)
  | 6 => ("ProgramSchool$Reader", "outerNames", "LProgramSchool$Row;", true)
  | 7 => ("ProgramSchool$Reader", "innerNames", "LProgramSchool$Row;", true)
  | 8 => ("ProgramSchool$Reader", "callTokens", "LProgramSchool$Row;", true)
  | 9 => ("ProgramSchool$Reader", "callArguments", "LProgramSchool$Row;", true)
  | _ => ("ProgramSchool$Reader", "callCodes", "LProgramSchool$Row;", true)
def tyX4 : Nat → FieldType := fun k => match k with
  | 0 => .object "ProgramSchool$Program"
  | 1 => .object "ProgramSchool$Tokens"
  | 2 => .int
  | 3 => .int
  | 4 => .int
  | 5 => .boolean
  | 6 => .object "ProgramSchool$Row"
  | 7 => .object "ProgramSchool$Row"
  | 8 => .object "ProgramSchool$Row"
  | 9 => .object "ProgramSchool$Row"
  | _ => .object "ProgramSchool$Row"
abbrev wsX40 : List Cond := u_ws RX4 TX4 11
theorem nmX4 : ∀ a, a < 11 → ∀ b, b < 11 → a ≠ b → (TX4 a).2.1 ≠ (TX4 b).2.1 := by decide +kernel
theorem tyX4_ok : ∀ k, k < 11 → parseFieldDescriptor (TX4 k).2.2.1 = some (tyX4 k) := by decide +kernel
abbrev cX4_init : ByteArray := prog_6_method_1_code
def yX4_init : MethodName := ⟨RX4, "<init>", "(LProgramSchool$Program;)V"⟩
abbrev cX4_read : ByteArray := prog_6_method_2_code
def yX4_read : MethodName := ⟨RX4, "read", "(LProgramSchool$Program;)V"⟩
abbrev cX4_nameFault : ByteArray := prog_6_method_3_code
def yX4_nameFault : MethodName := ⟨RX4, "nameFault", "()V"⟩
abbrev cX4_kind : ByteArray := prog_6_method_4_code
def yX4_kind : MethodName := ⟨RX4, "kind", "()I"⟩
abbrev cX4_names : ByteArray := prog_6_method_5_code
def yX4_names : MethodName := ⟨RX4, "names", "()LProgramSchool$Row;"⟩
abbrev cX4_refuse : ByteArray := prog_6_method_6_code
def yX4_refuse : MethodName := ⟨RX4, "refuse", "(II)V"⟩
abbrev cX4_expect : ByteArray := prog_6_method_7_code
def yX4_expect : MethodName := ⟨RX4, "expect", "(I)V"⟩
abbrev cX4_openLevel : ByteArray := prog_6_method_8_code
def yX4_openLevel : MethodName := ⟨RX4, "openLevel", "()V"⟩
abbrev cX4_statement : ByteArray := prog_6_method_9_code
def yX4_statement : MethodName := ⟨RX4, "statement", "()V"⟩
abbrev cX4_nameStatement : ByteArray := prog_6_method_10_code
def yX4_nameStatement : MethodName := ⟨RX4, "nameStatement", "()V"⟩
abbrev cX4_cellStatement : ByteArray := prog_6_method_11_code
def yX4_cellStatement : MethodName := ⟨RX4, "cellStatement", "()V"⟩
abbrev cX4_ifStatement : ByteArray := prog_6_method_12_code
def yX4_ifStatement : MethodName := ⟨RX4, "ifStatement", "()V"⟩
abbrev cX4_whileStatement : ByteArray := prog_6_method_13_code
def yX4_whileStatement : MethodName := ⟨RX4, "whileStatement", "()V"⟩
abbrev cX4_returnStatement : ByteArray := prog_6_method_14_code
def yX4_returnStatement : MethodName := ⟨RX4, "returnStatement", "()V"⟩
abbrev cX4_defStatement : ByteArray := prog_6_method_15_code
def yX4_defStatement : MethodName := ⟨RX4, "defStatement", "()V"⟩
abbrev cX4_parameters : ByteArray := prog_6_method_16_code
def yX4_parameters : MethodName := ⟨RX4, "parameters", "()V"⟩
abbrev cX4_parameter : ByteArray := prog_6_method_17_code
def yX4_parameter : MethodName := ⟨RX4, "parameter", "()V"⟩
abbrev cX4_block : ByteArray := prog_6_method_18_code
def yX4_block : MethodName := ⟨RX4, "block", "(I)V"⟩
abbrev cX4_expression : ByteArray := prog_6_method_19_code
def yX4_expression : MethodName := ⟨RX4, "expression", "(I)V"⟩
abbrev cX4_operand : ByteArray := prog_6_method_20_code
def yX4_operand : MethodName := ⟨RX4, "operand", "()V"⟩
abbrev cX4_markedOperand : ByteArray := prog_6_method_21_code
def yX4_markedOperand : MethodName := ⟨RX4, "markedOperand", "()V"⟩
abbrev cX4_call : ByteArray := prog_6_method_22_code
def yX4_call : MethodName := ⟨RX4, "call", "()V"⟩
abbrev cX4_variable : ByteArray := prog_6_method_23_code
def yX4_variable : MethodName := ⟨RX4, "variable", "(LProgramSchool$Row;)I"⟩
abbrev cX4_linkCalls : ByteArray := prog_6_method_24_code
def yX4_linkCalls : MethodName := ⟨RX4, "linkCalls", "()V"⟩
def RX5 : String := "ProgramSchool$Row"
def TX5 : u_T := fun k => match k with
  | 0 => ("ProgramSchool$Row", "items", "[I", true)
  | _ => ("ProgramSchool$Row", "size", "I", false)
def tyX5 : Nat → FieldType := fun k => match k with
  | 0 => .array .int
  | _ => .int
abbrev wsX50 : List Cond := u_ws RX5 TX5 2
theorem nmX5 : ∀ a, a < 2 → ∀ b, b < 2 → a ≠ b → (TX5 a).2.1 ≠ (TX5 b).2.1 := by decide +kernel
theorem tyX5_ok : ∀ k, k < 2 → parseFieldDescriptor (TX5 k).2.2.1 = some (tyX5 k) := by decide +kernel
abbrev cX5_init : ByteArray := prog_7_method_1_code
def yX5_init : MethodName := ⟨RX5, "<init>", "(I)V"⟩
abbrev cX5_size : ByteArray := prog_7_method_2_code
def yX5_size : MethodName := ⟨RX5, "size", "()I"⟩
abbrev cX5_get : ByteArray := prog_7_method_3_code
def yX5_get : MethodName := ⟨RX5, "get", "(I)I"⟩
abbrev cX5_set : ByteArray := prog_7_method_4_code
def yX5_set : MethodName := ⟨RX5, "set", "(II)V"⟩
abbrev cX5_add : ByteArray := prog_7_method_5_code
def yX5_add : MethodName := ⟨RX5, "add", "(I)V"⟩
abbrev cX5_last : ByteArray := prog_7_method_6_code
def yX5_last : MethodName := ⟨RX5, "last", "()I"⟩
abbrev cX5_takeLast : ByteArray := prog_7_method_7_code
def yX5_takeLast : MethodName := ⟨RX5, "takeLast", "()I"⟩
abbrev cX5_cut : ByteArray := prog_7_method_8_code
def yX5_cut : MethodName := ⟨RX5, "cut", "(I)V"⟩
abbrev cX5_empty : ByteArray := prog_7_method_9_code
def yX5_empty : MethodName := ⟨RX5, "empty", "()V"⟩
abbrev cX5_fillWithZeros : ByteArray := prog_7_method_10_code
def yX5_fillWithZeros : MethodName := ⟨RX5, "fillWithZeros", "()V"⟩
abbrev cX5_placeOf : ByteArray := prog_7_method_11_code
def yX5_placeOf : MethodName := ⟨RX5, "placeOf", "(I)I"⟩
def RX6 : String := "ProgramSchool$Run"
def TX6 : u_T := fun k => match k with
  | 0 => ("ProgramSchool$Run", "outputs", "LProgramSchool$Row;", true)
  | 1 => ("ProgramSchool$Run", "cells", "LProgramSchool$Row;", true)
  | 2 => ("ProgramSchool$Run", "variables", "LProgramSchool$Row;", true)
  | 3 => ("ProgramSchool$Run", "backs", "LProgramSchool$Row;", true)
  | 4 => ("ProgramSchool$Run", "fuel", "I", false)
  | 5 => ("ProgramSchool$Run", "first", "I", false)
  | 6 => ("ProgramSchool$Run", "second", "I", false)
  | 7 => ("ProgramSchool$Run", "inputsTaken", "I", false)
  | _ => ("ProgramSchool$Run", "end", "I", false)
def tyX6 : Nat → FieldType := fun k => match k with
  | 0 => .object "ProgramSchool$Row"
  | 1 => .object "ProgramSchool$Row"
  | 2 => .object "ProgramSchool$Row"
  | 3 => .object "ProgramSchool$Row"
  | 4 => .int
  | 5 => .int
  | 6 => .int
  | 7 => .int
  | _ => .int
abbrev wsX60 : List Cond := u_ws RX6 TX6 9
theorem nmX6 : ∀ a, a < 9 → ∀ b, b < 9 → a ≠ b → (TX6 a).2.1 ≠ (TX6 b).2.1 := by decide +kernel
theorem tyX6_ok : ∀ k, k < 9 → parseFieldDescriptor (TX6 k).2.2.1 = some (tyX6 k) := by decide +kernel
abbrev cX6_init : ByteArray := prog_8_method_1_code
def yX6_init : MethodName := ⟨RX6, "<init>", "()V"⟩
abbrev cX6_begin : ByteArray := prog_8_method_2_code
def yX6_begin : MethodName := ⟨RX6, "begin", "(III)V"⟩
abbrev cX6_isGoing : ByteArray := prog_8_method_3_code
def yX6_isGoing : MethodName := ⟨RX6, "isGoing", "()Z"⟩
abbrev cX6_end : ByteArray := prog_8_method_4_code
def yX6_end : MethodName := ⟨RX6, "end", "()I"⟩
abbrev cX6_fuel : ByteArray := prog_8_method_5_code
def yX6_fuel : MethodName := ⟨RX6, "fuel", "()I"⟩
abbrev cX6_outputCount : ByteArray := prog_8_method_6_code
def yX6_outputCount : MethodName := ⟨RX6, "outputCount", "()I"⟩
abbrev cX6_output : ByteArray := prog_8_method_7_code
def yX6_output : MethodName := ⟨RX6, "output", "(I)I"⟩
abbrev cX6_cell : ByteArray := prog_8_method_8_code
def yX6_cell : MethodName := ⟨RX6, "cell", "(I)I"⟩
abbrev cX6_stop : ByteArray := prog_8_method_9_code
def yX6_stop : MethodName := ⟨RX6, "stop", "(I)V"⟩
abbrev cX6_takeFuel : ByteArray := prog_8_method_10_code
def yX6_takeFuel : MethodName := ⟨RX6, "takeFuel", "()Z"⟩
abbrev cX6_input : ByteArray := prog_8_method_11_code
def yX6_input : MethodName := ⟨RX6, "input", "()I"⟩
abbrev cX6_put : ByteArray := prog_8_method_12_code
def yX6_put : MethodName := ⟨RX6, "put", "(I)V"⟩
abbrev cX6_setCell : ByteArray := prog_8_method_13_code
def yX6_setCell : MethodName := ⟨RX6, "setCell", "(II)V"⟩
abbrev cX6_variable : ByteArray := prog_8_method_14_code
def yX6_variable : MethodName := ⟨RX6, "variable", "(I)I"⟩
abbrev cX6_setVariable : ByteArray := prog_8_method_15_code
def yX6_setVariable : MethodName := ⟨RX6, "setVariable", "(II)V"⟩
abbrev cX6_enter : ByteArray := prog_8_method_16_code
def yX6_enter : MethodName := ⟨RX6, "enter", "(I)Z"⟩
abbrev cX6_leave : ByteArray := prog_8_method_17_code
def yX6_leave : MethodName := ⟨RX6, "leave", "()I"⟩
abbrev cX6_one : ByteArray := prog_8_method_18_code
def yX6_one : MethodName := ⟨RX6, "one", "(II)I"⟩
abbrev cX6_two : ByteArray := prog_8_method_19_code
def yX6_two : MethodName := ⟨RX6, "two", "(III)I"⟩
abbrev cX6_intOf : ByteArray := prog_8_method_20_code
def yX6_intOf : MethodName := ⟨RX6, "intOf", "(J)I"⟩
def RX7 : String := "ProgramSchool$Test"
def TX7 : u_T := fun k => match k with
  | 0 => ("ProgramSchool$Test", "weight", "I", true)
  | 1 => ("ProgramSchool$Test", "first", "I", true)
  | 2 => ("ProgramSchool$Test", "second", "I", true)
  | 3 => ("ProgramSchool$Test", "count", "I", true)
  | 4 => ("ProgramSchool$Test", "one", "I", true)
  | 5 => ("ProgramSchool$Test", "other", "I", true)
  | _ => ("ProgramSchool$Test", "isWithdrawn", "Z", false)
def tyX7 : Nat → FieldType := fun k => match k with
  | 0 => .int
  | 1 => .int
  | 2 => .int
  | 3 => .int
  | 4 => .int
  | 5 => .int
  | _ => .boolean
abbrev wsX70 : List Cond := u_ws RX7 TX7 7
theorem nmX7 : ∀ a, a < 7 → ∀ b, b < 7 → a ≠ b → (TX7 a).2.1 ≠ (TX7 b).2.1 := by decide +kernel
theorem tyX7_ok : ∀ k, k < 7 → parseFieldDescriptor (TX7 k).2.2.1 = some (tyX7 k) := by decide +kernel
abbrev cX7_init : ByteArray := prog_9_method_1_code
def yX7_init : MethodName := ⟨RX7, "<init>", "(IIIIII)V"⟩
abbrev cX7_isPassedBy : ByteArray := prog_9_method_2_code
def yX7_isPassedBy : MethodName := ⟨RX7, "isPassedBy", "(LProgramSchool$Run;)Z"⟩
def RX8 : String := "ProgramSchool$Tokens"
def TX8 : u_T := fun k => match k with
  | 0 => ("ProgramSchool$Tokens", "kinds", "LProgramSchool$Row;", true)
  | 1 => ("ProgramSchool$Tokens", "values", "LProgramSchool$Row;", true)
  | 2 => ("ProgramSchool$Tokens", "places", "LProgramSchool$Row;", true)
  | 3 => ("ProgramSchool$Tokens", "nameStarts", "LProgramSchool$Row;", true)
  | _ => ("ProgramSchool$Tokens", "nameSizes", "LProgramSchool$Row;", true)
def tyX8 : Nat → FieldType := fun k => match k with
  | 0 => .object "ProgramSchool$Row"
  | 1 => .object "ProgramSchool$Row"
  | 2 => .object "ProgramSchool$Row"
  | 3 => .object "ProgramSchool$Row"
  | _ => .object "ProgramSchool$Row"
abbrev wsX80 : List Cond := u_ws RX8 TX8 5
theorem nmX8 : ∀ a, a < 5 → ∀ b, b < 5 → a ≠ b → (TX8 a).2.1 ≠ (TX8 b).2.1 := by decide +kernel
theorem tyX8_ok : ∀ k, k < 5 → parseFieldDescriptor (TX8 k).2.2.1 = some (tyX8 k) := by decide +kernel
abbrev cX8_init : ByteArray := prog_10_method_1_code
def yX8_init : MethodName := ⟨RX8, "<init>", "()V"⟩
abbrev cX8_scan : ByteArray := prog_10_method_2_code
def yX8_scan : MethodName := ⟨RX8, "scan", "(LProgramSchool$Row;)V"⟩
abbrev cX8_last : ByteArray := prog_10_method_3_code
def yX8_last : MethodName := ⟨RX8, "last", "()I"⟩
abbrev cX8_levelOf : ByteArray := prog_10_method_4_code
def yX8_levelOf : MethodName := ⟨RX8, "levelOf", "(I)I"⟩
abbrev cX8_add : ByteArray := prog_10_method_5_code
def yX8_add : MethodName := ⟨RX8, "add", "(III)V"⟩
abbrev cX8_scanNumber : ByteArray := prog_10_method_6_code
def yX8_scanNumber : MethodName := ⟨RX8, "scanNumber", "(LProgramSchool$Row;I)I"⟩
abbrev cX8_scanWord : ByteArray := prog_10_method_7_code
def yX8_scanWord : MethodName := ⟨RX8, "scanWord", "(LProgramSchool$Row;I)I"⟩
abbrev cX8_keyword : ByteArray := prog_10_method_8_code
def yX8_keyword : MethodName := ⟨RX8, "keyword", "(LProgramSchool$Row;II)I"⟩
abbrev cX8_isWord : ByteArray := prog_10_method_9_code
def yX8_isWord : MethodName := ⟨RX8, "isWord", "(LProgramSchool$Row;IILjava/lang/String;)Z"⟩
abbrev cX8_nameNumber : ByteArray := prog_10_method_10_code
def yX8_nameNumber : MethodName := ⟨RX8, "nameNumber", "(LProgramSchool$Row;II)I"⟩
abbrev cX8_areSame : ByteArray := prog_10_method_11_code
def yX8_areSame : MethodName := ⟨RX8, "areSame", "(LProgramSchool$Row;III)Z"⟩
abbrev cX8_scanMark : ByteArray := prog_10_method_12_code
def yX8_scanMark : MethodName := ⟨RX8, "scanMark", "(LProgramSchool$Row;I)I"⟩
abbrev cX8_markOfTwo : ByteArray := prog_10_method_13_code
def yX8_markOfTwo : MethodName := ⟨RX8, "markOfTwo", "(II)I"⟩
abbrev cX8_markOfOne : ByteArray := prog_10_method_14_code
def yX8_markOfOne : MethodName := ⟨RX8, "markOfOne", "(I)I"⟩
abbrev cX8_isDigit : ByteArray := prog_10_method_15_code
def yX8_isDigit : MethodName := ⟨RX8, "isDigit", "(I)Z"⟩
abbrev cX8_isLetter : ByteArray := prog_10_method_16_code
def yX8_isLetter : MethodName := ⟨RX8, "isLetter", "(I)Z"⟩
def RX9 : String := "ProgramSchool$Walker"
def TX9 : u_T := fun k => match k with
  | 0 => ("ProgramSchool$Walker", "values", "LProgramSchool$Row;", true)
  | 1 => ("ProgramSchool$Walker", "waiting", "LProgramSchool$Row;", true)
  | 2 => ("ProgramSchool$Walker", "program", "LProgramSchool$Program;", false)
  | 3 => ("ProgramSchool$Walker", "tokens", "LProgramSchool$Tokens;", false)
  | 4 => ("ProgramSchool$Walker", "run", "LProgramSchool$Run;", false)
  | 5 => ("ProgramSchool$Walker", "at", "I", false)
  | _ => ("ProgramSchool$Walker", "due", "I", false)
def tyX9 : Nat → FieldType := fun k => match k with
  | 0 => .object "ProgramSchool$Row"
  | 1 => .object "ProgramSchool$Row"
  | 2 => .object "ProgramSchool$Program"
  | 3 => .object "ProgramSchool$Tokens"
  | 4 => .object "ProgramSchool$Run"
  | 5 => .int
  | _ => .int
abbrev wsX90 : List Cond := u_ws RX9 TX9 7
theorem nmX9 : ∀ a, a < 7 → ∀ b, b < 7 → a ≠ b → (TX9 a).2.1 ≠ (TX9 b).2.1 := by decide +kernel
theorem tyX9_ok : ∀ k, k < 7 → parseFieldDescriptor (TX9 k).2.2.1 = some (tyX9 k) := by decide +kernel
abbrev cX9_init : ByteArray := prog_11_method_1_code
def yX9_init : MethodName := ⟨RX9, "<init>", "(LProgramSchool$Program;LProgramSchool$Run;)V"⟩
abbrev cX9_run : ByteArray := prog_11_method_2_code
def yX9_run : MethodName := ⟨RX9, "run", "(LProgramSchool$Program;LProgramSchool$Run;III)V"⟩
abbrev cX9_statement : ByteArray := prog_11_method_3_code
def yX9_statement : MethodName := ⟨RX9, "statement", "()V"⟩
abbrev cX9_beginStatement : ByteArray := prog_11_method_4_code
def yX9_beginStatement : MethodName := ⟨RX9, "beginStatement", "()V"⟩
abbrev cX9_endBlock : ByteArray := prog_11_method_5_code
def yX9_endBlock : MethodName := ⟨RX9, "endBlock", "()V"⟩
abbrev cX9_operand : ByteArray := prog_11_method_6_code
def yX9_operand : MethodName := ⟨RX9, "operand", "()V"⟩
abbrev cX9_value : ByteArray := prog_11_method_7_code
def yX9_value : MethodName := ⟨RX9, "value", "(I)V"⟩
abbrev cX9_operator : ByteArray := prog_11_method_8_code
def yX9_operator : MethodName := ⟨RX9, "operator", "()V"⟩
abbrev cX9_doWaitingMarks : ByteArray := prog_11_method_9_code
def yX9_doWaitingMarks : MethodName := ⟨RX9, "doWaitingMarks", "(I)V"⟩
abbrev cX9_decide : ByteArray := prog_11_method_10_code
def yX9_decide : MethodName := ⟨RX9, "decide", "(Z)V"⟩
abbrev cX9_endExpression : ByteArray := prog_11_method_11_code
def yX9_endExpression : MethodName := ⟨RX9, "endExpression", "(I)V"⟩
abbrev cX9_endStatement : ByteArray := prog_11_method_12_code
def yX9_endStatement : MethodName := ⟨RX9, "endStatement", "(II)V"⟩
abbrev cX9_otherBlock : ByteArray := prog_11_method_13_code
def yX9_otherBlock : MethodName := ⟨RX9, "otherBlock", "()I"⟩
abbrev cX9_call : ByteArray := prog_11_method_14_code
def yX9_call : MethodName := ⟨RX9, "call", "()V"⟩
abbrev cX9_endCall : ByteArray := prog_11_method_15_code
def yX9_endCall : MethodName := ⟨RX9, "endCall", "()V"⟩
def RX10 : String := "ProgramSchool"
def TX10 : u_T := fun k => match k with
  | 0 => ("ProgramSchool", "text", "LProgramSchool$Row;", true)
  | 1 => ("ProgramSchool", "draft", "LProgramSchool$Program;", false)
  | 2 => ("ProgramSchool", "isDraftRead", "Z", false)
  | 3 => ("ProgramSchool", "isDraftHanded", "Z", false)
  | 4 => ("ProgramSchool", "reader", "LProgramSchool$Reader;", true)
  | 5 => ("ProgramSchool", "trialRun", "LProgramSchool$Run;", true)
  | 6 => ("ProgramSchool", "testRun", "LProgramSchool$Run;", true)
  | 7 => ("ProgramSchool", "machine", "LProgramSchool$Machine;", true)
  | 8 => ("ProgramSchool", "walker", "LProgramSchool$Walker;", true)
  | 9 => ("ProgramSchool", "exercises", "Ljava/util/ArrayList;", true)
  | 10 => ("ProgramSchool", "answers", "Ljava/util/ArrayList;", true)
  | 11 => ("ProgramSchool", "marksBefore", "LProgramSchool$Row;", true)
  | 12 => ("ProgramSchool", "passedAnew", "LProgramSchool$Row;", true)
  | _ => ("ProgramSchool", "today", "I", false)
def tyX10 : Nat → FieldType := fun k => match k with
  | 0 => .object "ProgramSchool$Row"
  | 1 => .object "ProgramSchool$Program"
  | 2 => .boolean
  | 3 => .boolean
  | 4 => .object "ProgramSchool$Reader"
  | 5 => .object "ProgramSchool$Run"
  | 6 => .object "ProgramSchool$Run"
  | 7 => .object "ProgramSchool$Machine"
  | 8 => .object "ProgramSchool$Walker"
  | 9 => .object "java/util/ArrayList"
  | 10 => .object "java/util/ArrayList"
  | 11 => .object "ProgramSchool$Row"
  | 12 => .object "ProgramSchool$Row"
  | _ => .int
abbrev wsX100 : List Cond := u_ws RX10 TX10 14
theorem nmX10 : ∀ a, a < 14 → ∀ b, b < 14 → a ≠ b → (TX10 a).2.1 ≠ (TX10 b).2.1 := by decide +kernel
theorem tyX10_ok : ∀ k, k < 14 → parseFieldDescriptor (TX10 k).2.2.1 = some (tyX10 k) := by decide +kernel
abbrev cX10_init : ByteArray := prog_1_method_1_code
def yX10_init : MethodName := ⟨RX10, "<init>", "()V"⟩
abbrev cX10_write : ByteArray := prog_1_method_2_code
def yX10_write : MethodName := ⟨RX10, "write", "(J)I"⟩
abbrev cX10_wipe : ByteArray := prog_1_method_3_code
def yX10_wipe : MethodName := ⟨RX10, "wipe", "()I"⟩
abbrev cX10_erase : ByteArray := prog_1_method_4_code
def yX10_erase : MethodName := ⟨RX10, "erase", "(I)I"⟩
abbrev cX10_length : ByteArray := prog_1_method_5_code
def yX10_length : MethodName := ⟨RX10, "length", "()I"⟩
abbrev cX10_signAt : ByteArray := prog_1_method_6_code
def yX10_signAt : MethodName := ⟨RX10, "signAt", "(I)C"⟩
abbrev cX10_fault : ByteArray := prog_1_method_7_code
def yX10_fault : MethodName := ⟨RX10, "fault", "()I"⟩
abbrev cX10_faultPlace : ByteArray := prog_1_method_8_code
def yX10_faultPlace : MethodName := ⟨RX10, "faultPlace", "()I"⟩
abbrev cX10_draftParts : ByteArray := prog_1_method_9_code
def yX10_draftParts : MethodName := ⟨RX10, "draftParts", "()I"⟩
abbrev cX10_trial : ByteArray := prog_1_method_10_code
def yX10_trial : MethodName := ⟨RX10, "trial", "(III)I"⟩
abbrev cX10_trialByTree : ByteArray := prog_1_method_11_code
def yX10_trialByTree : MethodName := ⟨RX10, "trialByTree", "(III)I"⟩
abbrev cX10_outputs : ByteArray := prog_1_method_12_code
def yX10_outputs : MethodName := ⟨RX10, "outputs", "()I"⟩
abbrev cX10_outputAt : ByteArray := prog_1_method_13_code
def yX10_outputAt : MethodName := ⟨RX10, "outputAt", "(I)I"⟩
abbrev cX10_fuelLeft : ByteArray := prog_1_method_14_code
def yX10_fuelLeft : MethodName := ⟨RX10, "fuelLeft", "()I"⟩
abbrev cX10_cellAt : ByteArray := prog_1_method_15_code
def yX10_cellAt : MethodName := ⟨RX10, "cellAt", "(I)I"⟩
abbrev cX10_addExercise : ByteArray := prog_1_method_16_code
def yX10_addExercise : MethodName := ⟨RX10, "addExercise", "(II)I"⟩
abbrev cX10_addTest : ByteArray := prog_1_method_17_code
def yX10_addTest : MethodName := ⟨RX10, "addTest", "(IIIIIII)I"⟩
abbrev cX10_withdraw : ByteArray := prog_1_method_18_code
def yX10_withdraw : MethodName := ⟨RX10, "withdraw", "(II)I"⟩
abbrev cX10_pass : ByteArray := prog_1_method_19_code
def yX10_pass : MethodName := ⟨RX10, "pass", "(I)I"⟩
abbrev cX10_today : ByteArray := prog_1_method_20_code
def yX10_today : MethodName := ⟨RX10, "today", "()I"⟩
abbrev cX10_hand : ByteArray := prog_1_method_21_code
def yX10_hand : MethodName := ⟨RX10, "hand", "(II)I"⟩
abbrev cX10_answers : ByteArray := prog_1_method_22_code
def yX10_answers : MethodName := ⟨RX10, "answers", "()I"⟩
abbrev cX10_passes : ByteArray := prog_1_method_23_code
def yX10_passes : MethodName := ⟨RX10, "passes", "(II)Z"⟩
abbrev cX10_endOf : ByteArray := prog_1_method_24_code
def yX10_endOf : MethodName := ⟨RX10, "endOf", "(II)I"⟩
abbrev cX10_points : ByteArray := prog_1_method_25_code
def yX10_points : MethodName := ⟨RX10, "points", "(I)I"⟩
abbrev cX10_mark : ByteArray := prog_1_method_26_code
def yX10_mark : MethodName := ⟨RX10, "mark", "(I)I"⟩
abbrev cX10_markAnew : ByteArray := prog_1_method_27_code
def yX10_markAnew : MethodName := ⟨RX10, "markAnew", "(I)I"⟩
abbrev cX10_best : ByteArray := prog_1_method_28_code
def yX10_best : MethodName := ⟨RX10, "best", "(II)I"⟩
abbrev cX10_passed : ByteArray := prog_1_method_29_code
def yX10_passed : MethodName := ⟨RX10, "passed", "(II)I"⟩
abbrev cX10_parts : ByteArray := prog_1_method_30_code
def yX10_parts : MethodName := ⟨RX10, "parts", "(I)I"⟩
abbrev cX10_common : ByteArray := prog_1_method_31_code
def yX10_common : MethodName := ⟨RX10, "common", "(II)I"⟩
abbrev cX10_likeness : ByteArray := prog_1_method_32_code
def yX10_likeness : MethodName := ⟨RX10, "likeness", "(II)I"⟩
abbrev cX10_accuse : ByteArray := prog_1_method_33_code
def yX10_accuse : MethodName := ⟨RX10, "accuse", "(II)I"⟩
abbrev cX10_clear : ByteArray := prog_1_method_34_code
def yX10_clear : MethodName := ⟨RX10, "clear", "(I)I"⟩
abbrev cX10_doubt : ByteArray := prog_1_method_35_code
def yX10_doubt : MethodName := ⟨RX10, "doubt", "(I)I"⟩
abbrev cX10_byteOf : ByteArray := prog_1_method_36_code
def yX10_byteOf : MethodName := ⟨RX10, "byteOf", "(JI)I"⟩
abbrev cX10_requireTrialFuel : ByteArray := prog_1_method_37_code
def yX10_requireTrialFuel : MethodName := ⟨RX10, "requireTrialFuel", "(I)V"⟩
abbrev cX10_requirePupil : ByteArray := prog_1_method_38_code
def yX10_requirePupil : MethodName := ⟨RX10, "requirePupil", "(I)V"⟩
abbrev cX10_requireAnswer : ByteArray := prog_1_method_39_code
def yX10_requireAnswer : MethodName := ⟨RX10, "requireAnswer", "(I)V"⟩
abbrev cX10_answerAt : ByteArray := prog_1_method_40_code
def yX10_answerAt : MethodName := ⟨RX10, "answerAt", "(I)LProgramSchool$Answer;"⟩
abbrev cX10_exerciseAt : ByteArray := prog_1_method_41_code
def yX10_exerciseAt : MethodName := ⟨RX10, "exerciseAt", "(I)LProgramSchool$Exercise;"⟩
abbrev cX10_testAt : ByteArray := prog_1_method_42_code
def yX10_testAt : MethodName := ⟨RX10, "testAt", "(LProgramSchool$Exercise;I)LProgramSchool$Test;"⟩
abbrev cX10_readDraft : ByteArray := prog_1_method_43_code
def yX10_readDraft : MethodName := ⟨RX10, "readDraft", "()V"⟩
abbrev cX10_requireNoFault : ByteArray := prog_1_method_44_code
def yX10_requireNoFault : MethodName := ⟨RX10, "requireNoFault", "()V"⟩
abbrev cX10_test : ByteArray := prog_1_method_45_code
def yX10_test : MethodName := ⟨RX10, "test", "(LProgramSchool$Answer;LProgramSchool$Test;)V"⟩
abbrev cX10_noteMarks : ByteArray := prog_1_method_46_code
def yX10_noteMarks : MethodName := ⟨RX10, "noteMarks", "()V"⟩
abbrev cX10_commonOf : ByteArray := prog_1_method_47_code
def yX10_commonOf : MethodName := ⟨RX10, "commonOf", "(II)I"⟩
abbrev cX10_likenessOf : ByteArray := prog_1_method_48_code
def yX10_likenessOf : MethodName := ⟨RX10, "likenessOf", "(II)I"⟩
abbrev cX10_canAccuse : ByteArray := prog_1_method_49_code
def yX10_canAccuse : MethodName := ⟨RX10, "canAccuse", "(II)Z"⟩
def RX11 : String := "ProgramSchoolModel"
def TX11 : u_T := fun k => match k with
  | _ => ("", "", "", false)
def tyX11 : Nat → FieldType := fun k => match k with
  | _ => .int
abbrev wsX110 : List Cond := u_ws RX11 TX11 0
theorem nmX11 : ∀ a, a < 0 → ∀ b, b < 0 → a ≠ b → (TX11 a).2.1 ≠ (TX11 b).2.1 := by decide +kernel
theorem tyX11_ok : ∀ k, k < 0 → parseFieldDescriptor (TX11 k).2.2.1 = some (tyX11 k) := by decide +kernel
def RJx145de : String := "java/io/Serializable"
def TJx145de : u_T := fun k => match k with
  | _ => ("", "", "", false)
def tyJx145de : Nat → FieldType := fun k => match k with
  | _ => .int
abbrev wsJx145de0 : List Cond := u_ws RJx145de TJx145de 0
theorem nmJx145de : ∀ a, a < 0 → ∀ b, b < 0 → a ≠ b → (TJx145de a).2.1 ≠ (TJx145de b).2.1 := by decide +kernel
theorem tyJx145de_ok : ∀ k, k < 0 → parseFieldDescriptor (TJx145de k).2.2.1 = some (tyJx145de k) := by decide +kernel
def RJx9f9b0 : String := "java/lang/CharSequence"
def TJx9f9b0 : u_T := fun k => match k with
  | _ => ("", "", "", false)
def tyJx9f9b0 : Nat → FieldType := fun k => match k with
  | _ => .int
abbrev wsJx9f9b00 : List Cond := u_ws RJx9f9b0 TJx9f9b0 0
theorem nmJx9f9b0 : ∀ a, a < 0 → ∀ b, b < 0 → a ≠ b → (TJx9f9b0 a).2.1 ≠ (TJx9f9b0 b).2.1 := by decide +kernel
theorem tyJx9f9b0_ok : ∀ k, k < 0 → parseFieldDescriptor (TJx9f9b0 k).2.2.1 = some (tyJx9f9b0 k) := by decide +kernel
def RJx8e188 : String := "java/lang/Cloneable"
def TJx8e188 : u_T := fun k => match k with
  | _ => ("", "", "", false)
def tyJx8e188 : Nat → FieldType := fun k => match k with
  | _ => .int
abbrev wsJx8e1880 : List Cond := u_ws RJx8e188 TJx8e188 0
theorem nmJx8e188 : ∀ a, a < 0 → ∀ b, b < 0 → a ≠ b → (TJx8e188 a).2.1 ≠ (TJx8e188 b).2.1 := by decide +kernel
theorem tyJx8e188_ok : ∀ k, k < 0 → parseFieldDescriptor (TJx8e188 k).2.2.1 = some (tyJx8e188 k) := by decide +kernel
def RJxb160c : String := "java/lang/Comparable"
def TJxb160c : u_T := fun k => match k with
  | _ => ("", "", "", false)
def tyJxb160c : Nat → FieldType := fun k => match k with
  | _ => .int
abbrev wsJxb160c0 : List Cond := u_ws RJxb160c TJxb160c 0
theorem nmJxb160c : ∀ a, a < 0 → ∀ b, b < 0 → a ≠ b → (TJxb160c a).2.1 ≠ (TJxb160c b).2.1 := by decide +kernel
theorem tyJxb160c_ok : ∀ k, k < 0 → parseFieldDescriptor (TJxb160c k).2.2.1 = some (tyJxb160c k) := by decide +kernel
def RJxab1ab : String := "java/lang/Iterable"
def TJxab1ab : u_T := fun k => match k with
  | _ => ("", "", "", false)
def tyJxab1ab : Nat → FieldType := fun k => match k with
  | _ => .int
abbrev wsJxab1ab0 : List Cond := u_ws RJxab1ab TJxab1ab 0
theorem nmJxab1ab : ∀ a, a < 0 → ∀ b, b < 0 → a ≠ b → (TJxab1ab a).2.1 ≠ (TJxab1ab b).2.1 := by decide +kernel
theorem tyJxab1ab_ok : ∀ k, k < 0 → parseFieldDescriptor (TJxab1ab k).2.2.1 = some (tyJxab1ab k) := by decide +kernel
def RJ9 : String := "java/lang/Math"
def TJ9 : u_T := fun k => match k with
  | _ => ("", "", "", false)
def tyJ9 : Nat → FieldType := fun k => match k with
  | _ => .int
abbrev wsJ90 : List Cond := u_ws RJ9 TJ9 0
theorem nmJ9 : ∀ a, a < 0 → ∀ b, b < 0 → a ≠ b → (TJ9 a).2.1 ≠ (TJ9 b).2.1 := by decide +kernel
theorem tyJ9_ok : ∀ k, k < 0 → parseFieldDescriptor (TJ9 k).2.2.1 = some (tyJ9 k) := by decide +kernel
abbrev cJ9_max_7cf53 : ByteArray := prog_23_method_65_code
def yJ9_max_7cf53 : MethodName := ⟨RJ9, "max", "(II)I"⟩
abbrev cJ9_min_7cf53 : ByteArray := prog_23_method_69_code
def yJ9_min_7cf53 : MethodName := ⟨RJ9, "min", "(II)I"⟩
abbrev cJ9_min_f86c9 : ByteArray := prog_23_method_70_code
def yJ9_min_f86c9 : MethodName := ⟨RJ9, "min", "(JJ)J"⟩
def RJ0 : String := "java/lang/String"
def TJ0 : u_T := fun k => match k with
  | _ => ("", "", "", false)
def tyJ0 : Nat → FieldType := fun k => match k with
  | _ => .int
abbrev wsJ00 : List Cond := u_ws RJ0 TJ0 0
theorem nmJ0 : ∀ a, a < 0 → ∀ b, b < 0 → a ≠ b → (TJ0 a).2.1 ≠ (TJ0 b).2.1 := by decide +kernel
theorem tyJ0_ok : ∀ k, k < 0 → parseFieldDescriptor (TJ0 k).2.2.1 = some (tyJ0 k) := by decide +kernel
abbrev cJ0_length_8abf5 : ByteArray := prog_25_method_54_code
def yJ0_length_8abf5 : MethodName := ⟨RJ0, "length", "()I"⟩
abbrev cJ0_charAt_5068e : ByteArray := prog_25_method_56_code
def yJ0_charAt_5068e : MethodName := ⟨RJ0, "charAt", "(I)C"⟩
abbrev cJ0_coder_7d493 : ByteArray := prog_25_method_152_code
def yJ0_coder_7d493 : MethodName := ⟨RJ0, "coder", "()B"⟩
abbrev cJ0_isLatin1_aae02 : ByteArray := prog_25_method_154_code
def yJ0_isLatin1_aae02 : MethodName := ⟨RJ0, "isLatin1", "()Z"⟩
abbrev cJ0_checkIndex_df160 : ByteArray := prog_25_method_155_code
def yJ0_checkIndex_df160 : MethodName := ⟨RJ0, "checkIndex", "(II)V"⟩
def RJ1 : String := "java/lang/StringLatin1"
def TJ1 : u_T := fun k => match k with
  | _ => ("", "", "", false)
def tyJ1 : Nat → FieldType := fun k => match k with
  | _ => .int
abbrev wsJ10 : List Cond := u_ws RJ1 TJ1 0
theorem nmJ1 : ∀ a, a < 0 → ∀ b, b < 0 → a ≠ b → (TJ1 a).2.1 ≠ (TJ1 b).2.1 := by decide +kernel
theorem tyJ1_ok : ∀ k, k < 0 → parseFieldDescriptor (TJ1 k).2.2.1 = some (tyJ1 k) := by decide +kernel
abbrev cJ1_charAt_3b067 : ByteArray := prog_26_method_2_code
def yJ1_charAt_3b067 : MethodName := ⟨RJ1, "charAt", "([BI)C"⟩
def RJ2 : String := "java/lang/StringUTF16"
def TJ2 : u_T := fun k => match k with
  | _ => ("", "", "", false)
def tyJ2 : Nat → FieldType := fun k => match k with
  | _ => .int
abbrev wsJ20 : List Cond := u_ws RJ2 TJ2 0
theorem nmJ2 : ∀ a, a < 0 → ∀ b, b < 0 → a ≠ b → (TJ2 a).2.1 ≠ (TJ2 b).2.1 := by decide +kernel
theorem tyJ2_ok : ∀ k, k < 0 → parseFieldDescriptor (TJ2 k).2.2.1 = some (tyJ2 k) := by decide +kernel
abbrev cJ2_getChar_3b067 : ByteArray := prog_27_method_5_code
def yJ2_getChar_3b067 : MethodName := ⟨RJ2, "getChar", "([BI)C"⟩
abbrev cJ2_length_9d52b : ByteArray := prog_27_method_6_code
def yJ2_length_9d52b : MethodName := ⟨RJ2, "length", "([B)I"⟩
abbrev cJ2_charAt_3b067 : ByteArray := prog_27_method_83_code
def yJ2_charAt_3b067 : MethodName := ⟨RJ2, "charAt", "([BI)C"⟩
abbrev cJ2_checkIndex_2214a : ByteArray := prog_27_method_91_code
def yJ2_checkIndex_2214a : MethodName := ⟨RJ2, "checkIndex", "(I[B)V"⟩
def RJ10 : String := "java/lang/System"
def TJ10 : u_T := fun k => match k with
  | _ => ("", "", "", false)
def tyJ10 : Nat → FieldType := fun k => match k with
  | _ => .int
abbrev wsJ100 : List Cond := u_ws RJ10 TJ10 0
theorem nmJ10 : ∀ a, a < 0 → ∀ b, b < 0 → a ≠ b → (TJ10 a).2.1 ≠ (TJ10 b).2.1 := by decide +kernel
theorem tyJ10_ok : ∀ k, k < 0 → parseFieldDescriptor (TJ10 k).2.2.1 = some (tyJ10 k) := by decide +kernel
def RJxfd54e : String := "java/lang/constant/Constable"
def TJxfd54e : u_T := fun k => match k with
  | _ => ("", "", "", false)
def tyJxfd54e : Nat → FieldType := fun k => match k with
  | _ => .int
abbrev wsJxfd54e0 : List Cond := u_ws RJxfd54e TJxfd54e 0
theorem nmJxfd54e : ∀ a, a < 0 → ∀ b, b < 0 → a ≠ b → (TJxfd54e a).2.1 ≠ (TJxfd54e b).2.1 := by decide +kernel
theorem tyJxfd54e_ok : ∀ k, k < 0 → parseFieldDescriptor (TJxfd54e k).2.2.1 = some (tyJxfd54e k) := by decide +kernel
def RJx3cf43 : String := "java/lang/constant/ConstantDesc"
def TJx3cf43 : u_T := fun k => match k with
  | _ => ("", "", "", false)
def tyJx3cf43 : Nat → FieldType := fun k => match k with
  | _ => .int
abbrev wsJx3cf430 : List Cond := u_ws RJx3cf43 TJx3cf43 0
theorem nmJx3cf43 : ∀ a, a < 0 → ∀ b, b < 0 → a ≠ b → (TJx3cf43 a).2.1 ≠ (TJx3cf43 b).2.1 := by decide +kernel
theorem tyJx3cf43_ok : ∀ k, k < 0 → parseFieldDescriptor (TJx3cf43 k).2.2.1 = some (tyJx3cf43 k) := by decide +kernel
def RJxa1e45 : String := "java/util/AbstractCollection"
def TJxa1e45 : u_T := fun k => match k with
  | _ => ("", "", "", false)
def tyJxa1e45 : Nat → FieldType := fun k => match k with
  | _ => .int
abbrev wsJxa1e450 : List Cond := u_ws RJxa1e45 TJxa1e45 0
theorem nmJxa1e45 : ∀ a, a < 0 → ∀ b, b < 0 → a ≠ b → (TJxa1e45 a).2.1 ≠ (TJxa1e45 b).2.1 := by decide +kernel
theorem tyJxa1e45_ok : ∀ k, k < 0 → parseFieldDescriptor (TJxa1e45 k).2.2.1 = some (tyJxa1e45 k) := by decide +kernel
abbrev cJxa1e45_init_da8c8 : ByteArray := prog_32_method_1_code
def yJxa1e45_init_da8c8 : MethodName := ⟨RJxa1e45, "<init>", "()V"⟩
def RJxc12de : String := "java/util/AbstractList"
def TJxc12de : u_T := fun k => match k with
  | _ => ("", "", "", false)
def tyJxc12de : Nat → FieldType := fun k => match k with
  | _ => .int
abbrev wsJxc12de0 : List Cond := u_ws RJxc12de TJxc12de 0
theorem nmJxc12de : ∀ a, a < 0 → ∀ b, b < 0 → a ≠ b → (TJxc12de a).2.1 ≠ (TJxc12de b).2.1 := by decide +kernel
theorem tyJxc12de_ok : ∀ k, k < 0 → parseFieldDescriptor (TJxc12de k).2.2.1 = some (tyJxc12de k) := by decide +kernel
abbrev cJxc12de_init_da8c8 : ByteArray := prog_33_method_1_code
def yJxc12de_init_da8c8 : MethodName := ⟨RJxc12de, "<init>", "()V"⟩
def RJx4a65c : String := "java/util/ArrayList"
def TJx4a65c : u_T := fun k => match k with
  | 0 => ("java/util/AbstractList", "modCount", "I", false)
  | 1 => ("java/util/ArrayList", "elementData", "[Ljava/lang/Object;", false)
  | _ => ("java/util/ArrayList", "size", "I", false)
def tyJx4a65c : Nat → FieldType := fun k => match k with
  | 0 => .int
  | 1 => .array (.object "java/lang/Object")
  | _ => .int
abbrev wsJx4a65c0 : List Cond := u_ws RJx4a65c TJx4a65c 3
theorem nmJx4a65c : ∀ a, a < 3 → ∀ b, b < 3 → a ≠ b → (TJx4a65c a).2.1 ≠ (TJx4a65c b).2.1 := by decide +kernel
theorem tyJx4a65c_ok : ∀ k, k < 3 → parseFieldDescriptor (TJx4a65c k).2.2.1 = some (tyJx4a65c k) := by decide +kernel
abbrev cJx4a65c_init_da8c8 : ByteArray := prog_34_method_2_code
def yJx4a65c_init_da8c8 : MethodName := ⟨RJx4a65c, "<init>", "()V"⟩
abbrev cJx4a65c_grow_92f84 : ByteArray := prog_34_method_6_code
def yJx4a65c_grow_92f84 : MethodName := ⟨RJx4a65c, "grow", "(I)[Ljava/lang/Object;"⟩
abbrev cJx4a65c_grow_d5877 : ByteArray := prog_34_method_7_code
def yJx4a65c_grow_d5877 : MethodName := ⟨RJx4a65c, "grow", "()[Ljava/lang/Object;"⟩
abbrev cJx4a65c_size_8abf5 : ByteArray := prog_34_method_8_code
def yJx4a65c_size_8abf5 : MethodName := ⟨RJx4a65c, "size", "()I"⟩
abbrev cJx4a65c_elementData_915e3 : ByteArray := prog_34_method_18_code
def yJx4a65c_elementData_915e3 : MethodName := ⟨RJx4a65c, "elementData", "(I)Ljava/lang/Object;"⟩
abbrev cJx4a65c_get_915e3 : ByteArray := prog_34_method_20_code
def yJx4a65c_get_915e3 : MethodName := ⟨RJx4a65c, "get", "(I)Ljava/lang/Object;"⟩
abbrev cJx4a65c_add_72be8 : ByteArray := prog_34_method_24_code
def yJx4a65c_add_72be8 : MethodName := ⟨RJx4a65c, "add", "(Ljava/lang/Object;[Ljava/lang/Object;I)V"⟩
abbrev cJx4a65c_add_9ea2d : ByteArray := prog_34_method_25_code
def yJx4a65c_add_9ea2d : MethodName := ⟨RJx4a65c, "add", "(Ljava/lang/Object;)Z"⟩
def RJ7 : String := "java/util/Arrays"
def TJ7 : u_T := fun k => match k with
  | _ => ("", "", "", false)
def tyJ7 : Nat → FieldType := fun k => match k with
  | _ => .int
abbrev wsJ70 : List Cond := u_ws RJ7 TJ7 0
theorem nmJ7 : ∀ a, a < 0 → ∀ b, b < 0 → a ≠ b → (TJ7 a).2.1 ≠ (TJ7 b).2.1 := by decide +kernel
theorem tyJ7_ok : ∀ k, k < 0 → parseFieldDescriptor (TJ7 k).2.2.1 = some (tyJ7 k) := by decide +kernel
abbrev cJ7_copyOf_1904c : ByteArray := prog_35_method_119_code
def yJ7_copyOf_1904c : MethodName := ⟨RJ7, "copyOf", "([Ljava/lang/Object;I)[Ljava/lang/Object;"⟩
abbrev cJ7_copyOf_6403c : ByteArray := prog_35_method_120_code
def yJ7_copyOf_6403c : MethodName := ⟨RJ7, "copyOf", "([Ljava/lang/Object;ILjava/lang/Class;)[Ljava/lang/Object;"⟩
def RJx5ef63 : String := "java/util/Collection"
def TJx5ef63 : u_T := fun k => match k with
  | _ => ("", "", "", false)
def tyJx5ef63 : Nat → FieldType := fun k => match k with
  | _ => .int
abbrev wsJx5ef630 : List Cond := u_ws RJx5ef63 TJx5ef63 0
theorem nmJx5ef63 : ∀ a, a < 0 → ∀ b, b < 0 → a ≠ b → (TJx5ef63 a).2.1 ≠ (TJx5ef63 b).2.1 := by decide +kernel
theorem tyJx5ef63_ok : ∀ k, k < 0 → parseFieldDescriptor (TJx5ef63 k).2.2.1 = some (tyJx5ef63 k) := by decide +kernel
def RJxbd725 : String := "java/util/List"
def TJxbd725 : u_T := fun k => match k with
  | _ => ("", "", "", false)
def tyJxbd725 : Nat → FieldType := fun k => match k with
  | _ => .int
abbrev wsJxbd7250 : List Cond := u_ws RJxbd725 TJxbd725 0
theorem nmJxbd725 : ∀ a, a < 0 → ∀ b, b < 0 → a ≠ b → (TJxbd725 a).2.1 ≠ (TJxbd725 b).2.1 := by decide +kernel
theorem tyJxbd725_ok : ∀ k, k < 0 → parseFieldDescriptor (TJxbd725 k).2.2.1 = some (tyJxbd725 k) := by decide +kernel
def RJ15 : String := "java/util/Objects"
def TJ15 : u_T := fun k => match k with
  | _ => ("", "", "", false)
def tyJ15 : Nat → FieldType := fun k => match k with
  | _ => .int
abbrev wsJ150 : List Cond := u_ws RJ15 TJ15 0
theorem nmJ15 : ∀ a, a < 0 → ∀ b, b < 0 → a ≠ b → (TJ15 a).2.1 ≠ (TJ15 b).2.1 := by decide +kernel
theorem tyJ15_ok : ∀ k, k < 0 → parseFieldDescriptor (TJ15 k).2.2.1 = some (tyJ15 k) := by decide +kernel
abbrev cJ15_checkIndex_7cf53 : ByteArray := prog_38_method_17_code
def yJ15_checkIndex_7cf53 : MethodName := ⟨RJ15, "checkIndex", "(II)I"⟩
def RJxf0a74 : String := "java/util/RandomAccess"
def TJxf0a74 : u_T := fun k => match k with
  | _ => ("", "", "", false)
def tyJxf0a74 : Nat → FieldType := fun k => match k with
  | _ => .int
abbrev wsJxf0a740 : List Cond := u_ws RJxf0a74 TJxf0a74 0
theorem nmJxf0a74 : ∀ a, a < 0 → ∀ b, b < 0 → a ≠ b → (TJxf0a74 a).2.1 ≠ (TJxf0a74 b).2.1 := by decide +kernel
theorem tyJxf0a74_ok : ∀ k, k < 0 → parseFieldDescriptor (TJxf0a74 k).2.2.1 = some (tyJxf0a74 k) := by decide +kernel
def RJxa66e6 : String := "java/util/SequencedCollection"
def TJxa66e6 : u_T := fun k => match k with
  | _ => ("", "", "", false)
def tyJxa66e6 : Nat → FieldType := fun k => match k with
  | _ => .int
abbrev wsJxa66e60 : List Cond := u_ws RJxa66e6 TJxa66e6 0
theorem nmJxa66e6 : ∀ a, a < 0 → ∀ b, b < 0 → a ≠ b → (TJxa66e6 a).2.1 ≠ (TJxa66e6 b).2.1 := by decide +kernel
theorem tyJxa66e6_ok : ∀ k, k < 0 → parseFieldDescriptor (TJxa66e6 k).2.2.1 = some (tyJxa66e6 k) := by decide +kernel
def RJ8 : String := "jdk/internal/util/ArraysSupport"
def TJ8 : u_T := fun k => match k with
  | _ => ("", "", "", false)
def tyJ8 : Nat → FieldType := fun k => match k with
  | _ => .int
abbrev wsJ80 : List Cond := u_ws RJ8 TJ8 0
theorem nmJ8 : ∀ a, a < 0 → ∀ b, b < 0 → a ≠ b → (TJ8 a).2.1 ≠ (TJ8 b).2.1 := by decide +kernel
theorem tyJ8_ok : ∀ k, k < 0 → parseFieldDescriptor (TJ8 k).2.2.1 = some (tyJ8 k) := by decide +kernel
abbrev cJ8_newLength_cabcc : ByteArray := prog_41_method_27_code
def yJ8_newLength_cabcc : MethodName := ⟨RJ8, "newLength", "(III)I"⟩
abbrev cJ8_hugeLength_7cf53 : ByteArray := prog_41_method_28_code
def yJ8_hugeLength_7cf53 : MethodName := ⟨RJ8, "hugeLength", "(II)I"⟩
def RJ3 : String := "jdk/internal/util/Preconditions"
def TJ3 : u_T := fun k => match k with
  | _ => ("", "", "", false)
def tyJ3 : Nat → FieldType := fun k => match k with
  | _ => .int
abbrev wsJ30 : List Cond := u_ws RJ3 TJ3 0
theorem nmJ3 : ∀ a, a < 0 → ∀ b, b < 0 → a ≠ b → (TJ3 a).2.1 ≠ (TJ3 b).2.1 := by decide +kernel
theorem tyJ3_ok : ∀ k, k < 0 → parseFieldDescriptor (TJ3 k).2.2.1 = some (tyJ3 k) := by decide +kernel
abbrev cJ3_checkIndex_8e157 : ByteArray := prog_42_method_11_code
def yJ3_checkIndex_8e157 : MethodName := ⟨RJ3, "checkIndex", "(IILjava/util/function/BiFunction;)I"⟩
def RL : String := "ProgramSchoolLaw"
abbrev cL_at : ByteArray := method_2_code
def yL_at : MethodName := ⟨RL, "at", "([II)I"⟩
abbrev cL_low : ByteArray := method_3_code
def yL_low : MethodName := ⟨RL, "low", "(II)I"⟩
abbrev cL_write : ByteArray := method_4_code
def yL_write : MethodName := ⟨RL, "write", "(LProgramSchool;J)I"⟩
abbrev cL_erase : ByteArray := method_5_code
def yL_erase : MethodName := ⟨RL, "erase", "(LProgramSchool;I)I"⟩
abbrev cL_signAt : ByteArray := method_6_code
def yL_signAt : MethodName := ⟨RL, "signAt", "(LProgramSchool;I)I"⟩
abbrev cL_draftParts : ByteArray := method_7_code
def yL_draftParts : MethodName := ⟨RL, "draftParts", "(LProgramSchool;)I"⟩
abbrev cL_trial : ByteArray := method_8_code
def yL_trial : MethodName := ⟨RL, "trial", "(LProgramSchool;III)I"⟩
abbrev cL_trialByTree : ByteArray := method_9_code
def yL_trialByTree : MethodName := ⟨RL, "trialByTree", "(LProgramSchool;III)I"⟩
abbrev cL_outputAt : ByteArray := method_10_code
def yL_outputAt : MethodName := ⟨RL, "outputAt", "(LProgramSchool;I)I"⟩
abbrev cL_cellAt : ByteArray := method_11_code
def yL_cellAt : MethodName := ⟨RL, "cellAt", "(LProgramSchool;I)I"⟩
abbrev cL_addExercise : ByteArray := method_12_code
def yL_addExercise : MethodName := ⟨RL, "addExercise", "(LProgramSchool;II)I"⟩
abbrev cL_addTest : ByteArray := method_13_code
def yL_addTest : MethodName := ⟨RL, "addTest", "(LProgramSchool;IIIIIII)I"⟩
abbrev cL_withdraw : ByteArray := method_14_code
def yL_withdraw : MethodName := ⟨RL, "withdraw", "(LProgramSchool;II)I"⟩
abbrev cL_pass : ByteArray := method_15_code
def yL_pass : MethodName := ⟨RL, "pass", "(LProgramSchool;I)I"⟩
abbrev cL_hand : ByteArray := method_16_code
def yL_hand : MethodName := ⟨RL, "hand", "(LProgramSchool;II)I"⟩
abbrev cL_passes : ByteArray := method_17_code
def yL_passes : MethodName := ⟨RL, "passes", "(LProgramSchool;II)I"⟩
abbrev cL_endOf : ByteArray := method_18_code
def yL_endOf : MethodName := ⟨RL, "endOf", "(LProgramSchool;II)I"⟩
abbrev cL_points : ByteArray := method_19_code
def yL_points : MethodName := ⟨RL, "points", "(LProgramSchool;I)I"⟩
abbrev cL_mark : ByteArray := method_20_code
def yL_mark : MethodName := ⟨RL, "mark", "(LProgramSchool;I)I"⟩
abbrev cL_markAnew : ByteArray := method_21_code
def yL_markAnew : MethodName := ⟨RL, "markAnew", "(LProgramSchool;I)I"⟩
abbrev cL_best : ByteArray := method_22_code
def yL_best : MethodName := ⟨RL, "best", "(LProgramSchool;II)I"⟩
abbrev cL_passed : ByteArray := method_23_code
def yL_passed : MethodName := ⟨RL, "passed", "(LProgramSchool;II)I"⟩
abbrev cL_parts : ByteArray := method_24_code
def yL_parts : MethodName := ⟨RL, "parts", "(LProgramSchool;I)I"⟩
abbrev cL_common : ByteArray := method_25_code
def yL_common : MethodName := ⟨RL, "common", "(LProgramSchool;II)I"⟩
abbrev cL_likeness : ByteArray := method_26_code
def yL_likeness : MethodName := ⟨RL, "likeness", "(LProgramSchool;II)I"⟩
abbrev cL_accuse : ByteArray := method_27_code
def yL_accuse : MethodName := ⟨RL, "accuse", "(LProgramSchool;II)I"⟩
abbrev cL_clear : ByteArray := method_28_code
def yL_clear : MethodName := ⟨RL, "clear", "(LProgramSchool;I)I"⟩
abbrev cL_doubt : ByteArray := method_29_code
def yL_doubt : MethodName := ⟨RL, "doubt", "(LProgramSchool;I)I"⟩
abbrev cL_sign : ByteArray := method_30_code
def yL_sign : MethodName := ⟨RL, "sign", "(LProgramSchool;I)Z"⟩
abbrev cL_operand : ByteArray := method_31_code
def yL_operand : MethodName := ⟨RL, "operand", "(LProgramSchool;I)Z"⟩
abbrev cL_marks : ByteArray := method_32_code
def yL_marks : MethodName := ⟨RL, "marks", "(LProgramSchool;I)Z"⟩
abbrev cL_value : ByteArray := method_33_code
def yL_value : MethodName := ⟨RL, "value", "(LProgramSchool;I)Z"⟩
abbrev cL_statement : ByteArray := method_34_code
def yL_statement : MethodName := ⟨RL, "statement", "(LProgramSchool;II)I"⟩
abbrev cL_begins : ByteArray := method_35_code
def yL_begins : MethodName := ⟨RL, "begins", "(LProgramSchool;[II)Z"⟩
abbrev cL_goesOn : ByteArray := method_36_code
def yL_goesOn : MethodName := ⟨RL, "goesOn", "(LProgramSchool;[III)Z"⟩
abbrev cL_tries : ByteArray := method_37_code
def yL_tries : MethodName := ⟨RL, "tries", "(LProgramSchool;III)Z"⟩
abbrev cL_spoils : ByteArray := method_38_code
def yL_spoils : MethodName := ⟨RL, "spoils", "(LProgramSchool;[III)Z"⟩
abbrev cL_markOf : ByteArray := method_39_code
def yL_markOf : MethodName := ⟨RL, "markOf", "(LProgramSchool;[I[I[IIZ)I"⟩
abbrev cL_isMarked : ByteArray := method_40_code
def yL_isMarked : MethodName := ⟨RL, "isMarked", "(LProgramSchool;[I[I[I[II)Z"⟩
abbrev cL_hands : ByteArray := method_41_code
def yL_hands : MethodName := ⟨RL, "hands", "(LProgramSchool;[I[I[I[I[II)Z"⟩
abbrev cL_accuses : ByteArray := method_42_code
def yL_accuses : MethodName := ⟨RL, "accuses", "(LProgramSchool;[I[I[I[II)Z"⟩
abbrev cL_schools : ByteArray := method_43_code
def yL_schools : MethodName := ⟨RL, "schools", "(LProgramSchool;[I[I[I[I[I[III)Z"⟩
abbrev cL_acts : ByteArray := method_44_code
def yL_acts : MethodName := ⟨RL, "acts", "(LProgramSchool;[I[I[I[I[I[III)Z"⟩
abbrev cL_law : ByteArray := code
def yL_law : MethodName := ⟨RL, "law", "([I)Z"⟩
abbrev vwCl : List vw_C := [(RJx4a65c, TJx4a65c, 3), (RX0, TX0, 8), (RX1, TX1, 4), (RX2, TX2, 4), (RX3, TX3, 11), (RX4, TX4, 11), (RX5, TX5, 2), (RX6, TX6, 9), (RX7, TX7, 7), (RX8, TX8, 5), (RX9, TX9, 7), (RX10, TX10, 14), (RX7, TX7, 7)]
