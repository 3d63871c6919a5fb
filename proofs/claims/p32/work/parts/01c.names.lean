/-! ===== BEGIN printed: names, fields, word lists, decode rows ===== -/
def RX0 : String := "AssignmentDesk$Beginnings"
def TX0 : u_T := fun k => match k with
  | 0 => ("AssignmentDesk$Beginnings", "scores", "[I", true)
  | 1 => ("AssignmentDesk$Beginnings", "paths", "[J", true)
  | 2 => ("AssignmentDesk$Beginnings", "pasts", "[I", true)
  | 3 => ("AssignmentDesk$Beginnings", "frees", "[I", true)
  | _ => ("AssignmentDesk$Beginnings", "count", "I", false)
def tyX0 : Nat → FieldType := fun k => match k with
  | 0 => .array .int
  | 1 => .array .long
  | 2 => .array .int
  | 3 => .array .int
  | _ => .int
abbrev wsX00 : List Cond := u_ws RX0 TX0 5
theorem nmX0 : ∀ a, a < 5 → ∀ b, b < 5 → a ≠ b → (TX0 a).2.1 ≠ (TX0 b).2.1 := by decide +kernel
theorem tyX0_ok : ∀ k, k < 5 → parseFieldDescriptor (TX0 k).2.2.1 = some (tyX0 k) := by decide +kernel
abbrev cX0_init : ByteArray := prog_2_method_1_code
def yX0_init : MethodName := ⟨RX0, "<init>", "()V"⟩
def RX1 : String := "AssignmentDesk$Levels"
def TX1 : u_T := fun k => match k with
  | 0 => ("AssignmentDesk$Levels", "cells", "[I", true)
  | 1 => ("AssignmentDesk$Levels", "activeRows", "[I", true)
  | 2 => ("AssignmentDesk$Levels", "activeColumns", "[I", true)
  | _ => ("AssignmentDesk$Levels", "count", "I", false)
def tyX1 : Nat → FieldType := fun k => match k with
  | 0 => .array .int
  | 1 => .array .int
  | 2 => .array .int
  | _ => .int
abbrev wsX10 : List Cond := u_ws RX1 TX1 4
theorem nmX1 : ∀ a, a < 4 → ∀ b, b < 4 → a ≠ b → (TX1 a).2.1 ≠ (TX1 b).2.1 := by decide +kernel
theorem tyX1_ok : ∀ k, k < 4 → parseFieldDescriptor (TX1 k).2.2.1 = some (tyX1 k) := by decide +kernel
abbrev cX1_init : ByteArray := prog_3_method_1_code
def yX1_init : MethodName := ⟨RX1, "<init>", "()V"⟩
def RX2 : String := "AssignmentDesk$Ranking"
def TX2 : u_T := fun k => match k with
  | 0 => ("AssignmentDesk$Ranking", "found", "LAssignmentDesk$Beginnings;", false)
  | _ => ("AssignmentDesk$Ranking", "longer", "LAssignmentDesk$Beginnings;", false)
def tyX2 : Nat → FieldType := fun k => match k with
  | 0 => .object "AssignmentDesk$Beginnings"
  | _ => .object "AssignmentDesk$Beginnings"
abbrev wsX20 : List Cond := u_ws RX2 TX2 2
theorem nmX2 : ∀ a, a < 2 → ∀ b, b < 2 → a ≠ b → (TX2 a).2.1 ≠ (TX2 b).2.1 := by decide +kernel
theorem tyX2_ok : ∀ k, k < 2 → parseFieldDescriptor (TX2 k).2.2.1 = some (tyX2 k) := by decide +kernel
abbrev cX2_init : ByteArray := prog_4_method_1_code
def yX2_init : MethodName := ⟨RX2, "<init>", "()V"⟩
def RX3 : String := "AssignmentDesk$Solver"
def TX3 : u_T := fun k => match k with
  | 0 => ("AssignmentDesk$Solver", "scores", "[I", true)
  | 1 => ("AssignmentDesk$Solver", "usable", "[I", true)
  | 2 => ("AssignmentDesk$Solver", "active", "I", false)
  | 3 => ("AssignmentDesk$Solver", "least", "[[I", true)
  | 4 => ("AssignmentDesk$Solver", "supposed", "[I", true)
  | 5 => ("AssignmentDesk$Solver", "ways", "[I", true)
  | 6 => ("AssignmentDesk$Solver", "kept", "[I", true)
  | _ => ("AssignmentDesk$Solver", "fullScore", "I", false)
def tyX3 : Nat → FieldType := fun k => match k with
  | 0 => .array .int
  | 1 => .array .int
  | 2 => .int
  | 3 => .array (.array .int)
  | 4 => .array .int
  | 5 => .array .int
  | 6 => .array .int
  | _ => .int
abbrev wsX30 : List Cond := u_ws RX3 TX3 8
theorem nmX3 : ∀ a, a < 8 → ∀ b, b < 8 → a ≠ b → (TX3 a).2.1 ≠ (TX3 b).2.1 := by decide +kernel
theorem tyX3_ok : ∀ k, k < 8 → parseFieldDescriptor (TX3 k).2.2.1 = some (tyX3 k) := by decide +kernel
abbrev cX3_init : ByteArray := prog_5_method_1_code
def yX3_init : MethodName := ⟨RX3, "<init>", "()V"⟩
abbrev cX3_sizeOf : ByteArray := prog_5_method_2_code
def yX3_sizeOf : MethodName := ⟨RX3, "sizeOf", "(I)I"⟩
abbrev cX3_costOf : ByteArray := prog_5_method_3_code
def yX3_costOf : MethodName := ⟨RX3, "costOf", "(I)I"⟩
abbrev cX3_solve : ByteArray := prog_5_method_4_code
def yX3_solve : MethodName := ⟨RX3, "solve", "(LAssignmentDesk$Table;)V"⟩
abbrev cX3_read : ByteArray := prog_5_method_5_code
def yX3_read : MethodName := ⟨RX3, "read", "(LAssignmentDesk$Table;)V"⟩
abbrev cX3_fillRow : ByteArray := prog_5_method_6_code
def yX3_fillRow : MethodName := ⟨RX3, "fillRow", "(II[I[I)V"⟩
abbrev cX3_canBeLeft : ByteArray := prog_5_method_7_code
def yX3_canBeLeft : MethodName := ⟨RX3, "canBeLeft", "(II)Z"⟩
abbrev cX3_leastFrom : ByteArray := prog_5_method_8_code
def yX3_leastFrom : MethodName := ⟨RX3, "leastFrom", "(II[II)I"⟩
abbrev cX3_keepFirst : ByteArray := prog_5_method_9_code
def yX3_keepFirst : MethodName := ⟨RX3, "keepFirst", "()V"⟩
abbrev cX3_firstOptimal : ByteArray := prog_5_method_10_code
def yX3_firstOptimal : MethodName := ⟨RX3, "firstOptimal", "(II)I"⟩
abbrev cX3_isOptimal : ByteArray := prog_5_method_11_code
def yX3_isOptimal : MethodName := ⟨RX3, "isOptimal", "(III)Z"⟩
def RX4 : String := "AssignmentDesk$Table"
def TX4 : u_T := fun k => match k with
  | 0 => ("AssignmentDesk$Table", "cells", "[I", true)
  | 1 => ("AssignmentDesk$Table", "rows", "I", false)
  | 2 => ("AssignmentDesk$Table", "columns", "I", false)
  | 3 => ("AssignmentDesk$Table", "activeRows", "I", false)
  | _ => ("AssignmentDesk$Table", "activeColumns", "I", false)
def tyX4 : Nat → FieldType := fun k => match k with
  | 0 => .array .int
  | 1 => .int
  | 2 => .int
  | 3 => .int
  | _ => .int
abbrev wsX40 : List Cond := u_ws RX4 TX4 5
theorem nmX4 : ∀ a, a < 5 → ∀ b, b < 5 → a ≠ b → (TX4 a).2.1 ≠ (TX4 b).2.1 := by decide +kernel
theorem tyX4_ok : ∀ k, k < 5 → parseFieldDescriptor (TX4 k).2.2.1 = some (tyX4 k) := by decide +kernel
abbrev cX4_init : ByteArray := prog_6_method_1_code
def yX4_init : MethodName := ⟨RX4, "<init>", "()V"⟩
abbrev cX4_appendRow : ByteArray := prog_6_method_2_code
def yX4_appendRow : MethodName := ⟨RX4, "appendRow", "()I"⟩
abbrev cX4_appendColumn : ByteArray := prog_6_method_3_code
def yX4_appendColumn : MethodName := ⟨RX4, "appendColumn", "()I"⟩
abbrev cX4_cell : ByteArray := prog_6_method_4_code
def yX4_cell : MethodName := ⟨RX4, "cell", "(II)I"⟩
abbrev cX4_isUsable : ByteArray := prog_6_method_5_code
def yX4_isUsable : MethodName := ⟨RX4, "isUsable", "(II)Z"⟩
abbrev cX4_usableColumns : ByteArray := prog_6_method_6_code
def yX4_usableColumns : MethodName := ⟨RX4, "usableColumns", "(I)I"⟩
def RX5 : String := "AssignmentDesk"
def TX5 : u_T := fun k => match k with
  | 0 => ("AssignmentDesk", "table", "LAssignmentDesk$Table;", true)
  | 1 => ("AssignmentDesk", "levels", "LAssignmentDesk$Levels;", true)
  | 2 => ("AssignmentDesk", "solver", "LAssignmentDesk$Solver;", true)
  | 3 => ("AssignmentDesk", "ranking", "LAssignmentDesk$Ranking;", true)
  | _ => ("AssignmentDesk", "isSolved", "Z", false)
def tyX5 : Nat → FieldType := fun k => match k with
  | 0 => .object "AssignmentDesk$Table"
  | 1 => .object "AssignmentDesk$Levels"
  | 2 => .object "AssignmentDesk$Solver"
  | 3 => .object "AssignmentDesk$Ranking"
  | _ => .boolean
abbrev wsX50 : List Cond := u_ws RX5 TX5 5
theorem nmX5 : ∀ a, a < 5 → ∀ b, b < 5 → a ≠ b → (TX5 a).2.1 ≠ (TX5 b).2.1 := by decide +kernel
theorem tyX5_ok : ∀ k, k < 5 → parseFieldDescriptor (TX5 k).2.2.1 = some (tyX5 k) := by decide +kernel
abbrev cX5_init : ByteArray := prog_1_method_1_code
def yX5_init : MethodName := ⟨RX5, "<init>", "()V"⟩
abbrev cX5_addRow : ByteArray := prog_1_method_2_code
def yX5_addRow : MethodName := ⟨RX5, "addRow", "()I"⟩
abbrev cX5_addColumn : ByteArray := prog_1_method_3_code
def yX5_addColumn : MethodName := ⟨RX5, "addColumn", "()I"⟩
abbrev cX5_setRow : ByteArray := prog_1_method_4_code
def yX5_setRow : MethodName := ⟨RX5, "setRow", "(IZ)Z"⟩
abbrev cX5_setColumn : ByteArray := prog_1_method_5_code
def yX5_setColumn : MethodName := ⟨RX5, "setColumn", "(IZ)Z"⟩
abbrev cX5_setCost : ByteArray := prog_1_method_6_code
def yX5_setCost : MethodName := ⟨RX5, "setCost", "(III)Z"⟩
abbrev cX5_forbid : ByteArray := prog_1_method_7_code
def yX5_forbid : MethodName := ⟨RX5, "forbid", "(II)Z"⟩
abbrev cX5_size : ByteArray := prog_1_method_14_code
def yX5_size : MethodName := ⟨RX5, "size", "()I"⟩
abbrev cX5_total : ByteArray := prog_1_method_15_code
def yX5_total : MethodName := ⟨RX5, "total", "()I"⟩
abbrev cX5_columnOf : ByteArray := prog_1_method_17_code
def yX5_columnOf : MethodName := ⟨RX5, "columnOf", "(I)I"⟩
abbrev cX5_requireRow : ByteArray := prog_1_method_31_code
def yX5_requireRow : MethodName := ⟨RX5, "requireRow", "(I)V"⟩
abbrev cX5_requireColumn : ByteArray := prog_1_method_32_code
def yX5_requireColumn : MethodName := ⟨RX5, "requireColumn", "(I)V"⟩
abbrev cX5_requirePair : ByteArray := prog_1_method_33_code
def yX5_requirePair : MethodName := ⟨RX5, "requirePair", "(II)V"⟩
abbrev cX5_replaceCell : ByteArray := prog_1_method_36_code
def yX5_replaceCell : MethodName := ⟨RX5, "replaceCell", "(III)Z"⟩
abbrev cX5_solved : ByteArray := prog_1_method_37_code
def yX5_solved : MethodName := ⟨RX5, "solved", "()LAssignmentDesk$Solver;"⟩
abbrev cX5_isCost : ByteArray := prog_1_method_38_code
def yX5_isCost : MethodName := ⟨RX5, "isCost", "(J)Z"⟩
abbrev cX5_hasBit : ByteArray := prog_1_method_39_code
def yX5_hasBit : MethodName := ⟨RX5, "hasBit", "(II)Z"⟩
abbrev cX5_withBit : ByteArray := prog_1_method_40_code
def yX5_withBit : MethodName := ⟨RX5, "withBit", "(IIZ)I"⟩
def RX6 : String := "AssignmentDeskModel"
def TX6 : u_T := fun k => match k with
  | _ => ("", "", "", false)
def tyX6 : Nat → FieldType := fun k => match k with
  | _ => .int
abbrev wsX60 : List Cond := u_ws RX6 TX6 0
theorem nmX6 : ∀ a, a < 0 → ∀ b, b < 0 → a ≠ b → (TX6 a).2.1 ≠ (TX6 b).2.1 := by decide +kernel
theorem tyX6_ok : ∀ k, k < 0 → parseFieldDescriptor (TX6 k).2.2.1 = some (tyX6 k) := by decide +kernel
def RJx145de : String := "java/io/Serializable"
def TJx145de : u_T := fun k => match k with
  | _ => ("", "", "", false)
def tyJx145de : Nat → FieldType := fun k => match k with
  | _ => .int
abbrev wsJx145de0 : List Cond := u_ws RJx145de TJx145de 0
theorem nmJx145de : ∀ a, a < 0 → ∀ b, b < 0 → a ≠ b → (TJx145de a).2.1 ≠ (TJx145de b).2.1 := by decide +kernel
theorem tyJx145de_ok : ∀ k, k < 0 → parseFieldDescriptor (TJx145de k).2.2.1 = some (tyJx145de k) := by decide +kernel
def RJ6 : String := "java/lang/Integer"
def TJ6 : u_T := fun k => match k with
  | _ => ("", "", "", false)
def tyJ6 : Nat → FieldType := fun k => match k with
  | _ => .int
abbrev wsJ60 : List Cond := u_ws RJ6 TJ6 0
theorem nmJ6 : ∀ a, a < 0 → ∀ b, b < 0 → a ≠ b → (TJ6 a).2.1 ≠ (TJ6 b).2.1 := by decide +kernel
theorem tyJ6_ok : ∀ k, k < 0 → parseFieldDescriptor (TJ6 k).2.2.1 = some (tyJ6 k) := by decide +kernel
abbrev cJ6_bitCount_0f7a4 : ByteArray := prog_13_method_49_code
def yJ6_bitCount_0f7a4 : MethodName := ⟨RJ6, "bitCount", "(I)I"⟩
def RJ9 : String := "java/lang/Math"
def TJ9 : u_T := fun k => match k with
  | _ => ("", "", "", false)
def tyJ9 : Nat → FieldType := fun k => match k with
  | _ => .int
abbrev wsJ90 : List Cond := u_ws RJ9 TJ9 0
theorem nmJ9 : ∀ a, a < 0 → ∀ b, b < 0 → a ≠ b → (TJ9 a).2.1 ≠ (TJ9 b).2.1 := by decide +kernel
theorem tyJ9_ok : ∀ k, k < 0 → parseFieldDescriptor (TJ9 k).2.2.1 = some (tyJ9 k) := by decide +kernel
abbrev cJ9_max_7cf53 : ByteArray := prog_14_method_65_code
def yJ9_max_7cf53 : MethodName := ⟨RJ9, "max", "(II)I"⟩
abbrev cJ9_min_7cf53 : ByteArray := prog_14_method_69_code
def yJ9_min_7cf53 : MethodName := ⟨RJ9, "min", "(II)I"⟩
def RJ0 : String := "java/lang/String"
def TJ0 : u_T := fun k => match k with
  | _ => ("", "", "", false)
def tyJ0 : Nat → FieldType := fun k => match k with
  | _ => .int
abbrev wsJ00 : List Cond := u_ws RJ0 TJ0 0
theorem nmJ0 : ∀ a, a < 0 → ∀ b, b < 0 → a ≠ b → (TJ0 a).2.1 ≠ (TJ0 b).2.1 := by decide +kernel
theorem tyJ0_ok : ∀ k, k < 0 → parseFieldDescriptor (TJ0 k).2.2.1 = some (tyJ0 k) := by decide +kernel
def RJ7 : String := "java/util/Arrays"
def TJ7 : u_T := fun k => match k with
  | _ => ("", "", "", false)
def tyJ7 : Nat → FieldType := fun k => match k with
  | _ => .int
abbrev wsJ70 : List Cond := u_ws RJ7 TJ7 0
theorem nmJ7 : ∀ a, a < 0 → ∀ b, b < 0 → a ≠ b → (TJ7 a).2.1 ≠ (TJ7 b).2.1 := by decide +kernel
theorem tyJ7_ok : ∀ k, k < 0 → parseFieldDescriptor (TJ7 k).2.2.1 = some (tyJ7 k) := by decide +kernel
abbrev cJ7_fill_53178 : ByteArray := prog_18_method_103_code
def yJ7_fill_53178 : MethodName := ⟨RJ7, "fill", "([II)V"⟩
def RL : String := "AssignmentDeskLaw"
abbrev cL_below : ByteArray := method_2_code
def yL_below : MethodName := ⟨RL, "below", "(II)I"⟩
abbrev cL_cell : ByteArray := method_3_code
def yL_cell : MethodName := ⟨RL, "cell", "([II)I"⟩
abbrev cL_build : ByteArray := method_4_code
def yL_build : MethodName := ⟨RL, "build", "(LAssignmentDesk;[II[I)Z"⟩
abbrev cL_column : ByteArray := method_5_code
def yL_column : MethodName := ⟨RL, "column", "(II)I"⟩
abbrev cL_sizeOf : ByteArray := method_6_code
def yL_sizeOf : MethodName := ⟨RL, "sizeOf", "(I[I)I"⟩
abbrev cL_costOf : ByteArray := method_7_code
def yL_costOf : MethodName := ⟨RL, "costOf", "(I[I)I"⟩
abbrev cL_greatestSize : ByteArray := method_8_code
def yL_greatestSize : MethodName := ⟨RL, "greatestSize", "([I)I"⟩
abbrev cL_best : ByteArray := method_9_code
def yL_best : MethodName := ⟨RL, "best", "([I)I"⟩
abbrev cL_law : ByteArray := code
def yL_law : MethodName := ⟨RL, "law", "([I)Z"⟩
abbrev vwCl : List vw_C := [(RX0, TX0, 5), (RX1, TX1, 4), (RX2, TX2, 2), (RX3, TX3, 8), (RX4, TX4, 5), (RX5, TX5, 5)]
