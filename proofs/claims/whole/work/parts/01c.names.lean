/-! ===== BEGIN printed: names, fields, word lists, decode rows ===== -/
def RX0 : String := "AssignmentDesk$Beginnings"
def TX0 : u_T := fun k => match k with
  | 0 => ("AssignmentDesk$Beginnings", "scores", "[I", true)
  | 1 => ("AssignmentDesk$Beginnings", "paths", "[J", true)
  | 2 => ("AssignmentDesk$Beginnings", "pasts", "[I", true)
  | 3 => ("AssignmentDesk$Beginnings", "frees", "[I", true)
  | _ => ("AssignmentDesk$Beginnings", "count", "I", false)
def tyX0 : Nat → FieldType := fun k => match k with
  | 0 => .array .int
  | 1 => .array .long
  | 2 => .array .int
  | 3 => .array .int
  | _ => .int
abbrev wsX00 : List Cond := u_ws RX0 TX0 5
theorem nmX0 : ∀ a, a < 5 → ∀ b, b < 5 → a ≠ b → (TX0 a).2.1 ≠ (TX0 b).2.1 := by decide +kernel
theorem tyX0_ok : ∀ k, k < 5 → parseFieldDescriptor (TX0 k).2.2.1 = some (tyX0 k) := by decide +kernel
abbrev cX0_init : ByteArray := prog_2_method_1_code
def yX0_init : MethodName := ⟨RX0, "<init>", "()V"⟩
abbrev cX0_offer : ByteArray := prog_2_method_2_code
def yX0_offer : MethodName := ⟨RX0, "offer", "(IJIII)V"⟩
abbrev cX0_isBefore : ByteArray := prog_2_method_3_code
def yX0_isBefore : MethodName := ⟨RX0, "isBefore", "(IJI)Z"⟩
abbrev cX0_moveBack : ByteArray := prog_2_method_4_code
def yX0_moveBack : MethodName := ⟨RX0, "moveBack", "(I)V"⟩
def RX1 : String := "AssignmentDesk$Levels"
def TX1 : u_T := fun k => match k with
  | 0 => ("AssignmentDesk$Levels", "cells", "[I", true)
  | 1 => ("AssignmentDesk$Levels", "activeRows", "[I", true)
  | 2 => ("AssignmentDesk$Levels", "activeColumns", "[I", true)
  | _ => ("AssignmentDesk$Levels", "count", "I", false)
def tyX1 : Nat → FieldType := fun k => match k with
  | 0 => .array .int
  | 1 => .array .int
  | 2 => .array .int
  | _ => .int
abbrev wsX10 : List Cond := u_ws RX1 TX1 4
theorem nmX1 : ∀ a, a < 4 → ∀ b, b < 4 → a ≠ b → (TX1 a).2.1 ≠ (TX1 b).2.1 := by decide +kernel
theorem tyX1_ok : ∀ k, k < 4 → parseFieldDescriptor (TX1 k).2.2.1 = some (tyX1 k) := by decide +kernel
abbrev cX1_init : ByteArray := prog_3_method_1_code
def yX1_init : MethodName := ⟨RX1, "<init>", "()V"⟩
abbrev cX1_store : ByteArray := prog_3_method_2_code
def yX1_store : MethodName := ⟨RX1, "store", "(LAssignmentDesk$Table;)V"⟩
abbrev cX1_restore : ByteArray := prog_3_method_3_code
def yX1_restore : MethodName := ⟨RX1, "restore", "(LAssignmentDesk$Table;)V"⟩
def RX2 : String := "AssignmentDesk$Ranking"
def TX2 : u_T := fun k => match k with
  | 0 => ("AssignmentDesk$Ranking", "found", "LAssignmentDesk$Beginnings;", false)
  | _ => ("AssignmentDesk$Ranking", "longer", "LAssignmentDesk$Beginnings;", false)
def tyX2 : Nat → FieldType := fun k => match k with
  | 0 => .object "AssignmentDesk$Beginnings"
  | _ => .object "AssignmentDesk$Beginnings"
abbrev wsX20 : List Cond := u_ws RX2 TX2 2
theorem nmX2 : ∀ a, a < 2 → ∀ b, b < 2 → a ≠ b → (TX2 a).2.1 ≠ (TX2 b).2.1 := by decide +kernel
theorem tyX2_ok : ∀ k, k < 2 → parseFieldDescriptor (TX2 k).2.2.1 = some (tyX2 k) := by decide +kernel
abbrev cX2_init : ByteArray := prog_4_method_1_code
def yX2_init : MethodName := ⟨RX2, "<init>", "()V"⟩
abbrev cX2_columnIn : ByteArray := prog_4_method_2_code
def yX2_columnIn : MethodName := ⟨RX2, "columnIn", "(JI)I"⟩
abbrev cX2_findFirst : ByteArray := prog_4_method_3_code
def yX2_findFirst : MethodName := ⟨RX2, "findFirst", "(LAssignmentDesk$Solver;I)V"⟩
abbrev cX2_extend : ByteArray := prog_4_method_4_code
def yX2_extend : MethodName := ⟨RX2, "extend", "(LAssignmentDesk$Solver;III)V"⟩
abbrev cX2_offerFull : ByteArray := prog_4_method_5_code
def yX2_offerFull : MethodName := ⟨RX2, "offerFull", "(LAssignmentDesk$Solver;IJIII)V"⟩
def RX3 : String := "AssignmentDesk$Solver"
def TX3 : u_T := fun k => match k with
  | 0 => ("AssignmentDesk$Solver", "scores", "[I", true)
  | 1 => ("AssignmentDesk$Solver", "usable", "[I", true)
  | 2 => ("AssignmentDesk$Solver", "active", "I", false)
  | 3 => ("AssignmentDesk$Solver", "least", "[[I", true)
  | 4 => ("AssignmentDesk$Solver", "supposed", "[I", true)
  | 5 => ("AssignmentDesk$Solver", "ways", "[I", true)
  | 6 => ("AssignmentDesk$Solver", "kept", "[I", true)
  | _ => ("AssignmentDesk$Solver", "fullScore", "I", false)
def tyX3 : Nat → FieldType := fun k => match k with
  | 0 => .array .int
  | 1 => .array .int
  | 2 => .int
  | 3 => .array (.array .int)
  | 4 => .array .int
  | 5 => .array .int
  | 6 => .array .int
  | _ => .int
abbrev wsX30 : List Cond := u_ws RX3 TX3 8
theorem nmX3 : ∀ a, a < 8 → ∀ b, b < 8 → a ≠ b → (TX3 a).2.1 ≠ (TX3 b).2.1 := by decide +kernel
theorem tyX3_ok : ∀ k, k < 8 → parseFieldDescriptor (TX3 k).2.2.1 = some (tyX3 k) := by decide +kernel
abbrev cX3_init : ByteArray := prog_5_method_1_code
def yX3_init : MethodName := ⟨RX3, "<init>", "()V"⟩
abbrev cX3_sizeOf : ByteArray := prog_5_method_2_code
def yX3_sizeOf : MethodName := ⟨RX3, "sizeOf", "(I)I"⟩
abbrev cX3_costOf : ByteArray := prog_5_method_3_code
def yX3_costOf : MethodName := ⟨RX3, "costOf", "(I)I"⟩
abbrev cX3_solve : ByteArray := prog_5_method_4_code
def yX3_solve : MethodName := ⟨RX3, "solve", "(LAssignmentDesk$Table;)V"⟩
abbrev cX3_read : ByteArray := prog_5_method_5_code
def yX3_read : MethodName := ⟨RX3, "read", "(LAssignmentDesk$Table;)V"⟩
abbrev cX3_fillRow : ByteArray := prog_5_method_6_code
def yX3_fillRow : MethodName := ⟨RX3, "fillRow", "(II[I[I)V"⟩
abbrev cX3_canBeLeft : ByteArray := prog_5_method_7_code
def yX3_canBeLeft : MethodName := ⟨RX3, "canBeLeft", "(II)Z"⟩
abbrev cX3_leastFrom : ByteArray := prog_5_method_8_code
def yX3_leastFrom : MethodName := ⟨RX3, "leastFrom", "(II[II)I"⟩
abbrev cX3_keepFirst : ByteArray := prog_5_method_9_code
def yX3_keepFirst : MethodName := ⟨RX3, "keepFirst", "()V"⟩
abbrev cX3_firstOptimal : ByteArray := prog_5_method_10_code
def yX3_firstOptimal : MethodName := ⟨RX3, "firstOptimal", "(II)I"⟩
abbrev cX3_isOptimal : ByteArray := prog_5_method_11_code
def yX3_isOptimal : MethodName := ⟨RX3, "isOptimal", "(III)Z"⟩
abbrev cX3_countOptimal : ByteArray := prog_5_method_12_code
def yX3_countOptimal : MethodName := ⟨RX3, "countOptimal", "()I"⟩
abbrev cX3_spreadWays : ByteArray := prog_5_method_13_code
def yX3_spreadWays : MethodName := ⟨RX3, "spreadWays", "(I)V"⟩
abbrev cX3_extraCostWith : ByteArray := prog_5_method_14_code
def yX3_extraCostWith : MethodName := ⟨RX3, "extraCostWith", "(II)I"⟩
abbrev cX3_extraCostWithout : ByteArray := prog_5_method_15_code
def yX3_extraCostWithout : MethodName := ⟨RX3, "extraCostWithout", "(II)I"⟩
abbrev cX3_extraCostOfSupposed : ByteArray := prog_5_method_16_code
def yX3_extraCostOfSupposed : MethodName := ⟨RX3, "extraCostOfSupposed", "(I)I"⟩
abbrev cX3_addTo : ByteArray := prog_5_method_17_code
def yX3_addTo : MethodName := ⟨RX3, "addTo", "(JI)J"⟩
def RX4 : String := "AssignmentDesk$Table"
def TX4 : u_T := fun k => match k with
  | 0 => ("AssignmentDesk$Table", "cells", "[I", true)
  | 1 => ("AssignmentDesk$Table", "rows", "I", false)
  | 2 => ("AssignmentDesk$Table", "columns", "I", false)
  | 3 => ("AssignmentDesk$Table", "activeRows", "I", false)
  | _ => ("AssignmentDesk$Table", "activeColumns", "I", false)
def tyX4 : Nat → FieldType := fun k => match k with
  | 0 => .array .int
  | 1 => .int
  | 2 => .int
  | 3 => .int
  | _ => .int
abbrev wsX40 : List Cond := u_ws RX4 TX4 5
theorem nmX4 : ∀ a, a < 5 → ∀ b, b < 5 → a ≠ b → (TX4 a).2.1 ≠ (TX4 b).2.1 := by decide +kernel
theorem tyX4_ok : ∀ k, k < 5 → parseFieldDescriptor (TX4 k).2.2.1 = some (tyX4 k) := by decide +kernel
abbrev cX4_init : ByteArray := prog_6_method_1_code
def yX4_init : MethodName := ⟨RX4, "<init>", "()V"⟩
abbrev cX4_appendRow : ByteArray := prog_6_method_2_code
def yX4_appendRow : MethodName := ⟨RX4, "appendRow", "()I"⟩
abbrev cX4_appendColumn : ByteArray := prog_6_method_3_code
def yX4_appendColumn : MethodName := ⟨RX4, "appendColumn", "()I"⟩
abbrev cX4_cell : ByteArray := prog_6_method_4_code
def yX4_cell : MethodName := ⟨RX4, "cell", "(II)I"⟩
abbrev cX4_isUsable : ByteArray := prog_6_method_5_code
def yX4_isUsable : MethodName := ⟨RX4, "isUsable", "(II)Z"⟩
abbrev cX4_usableColumns : ByteArray := prog_6_method_6_code
def yX4_usableColumns : MethodName := ⟨RX4, "usableColumns", "(I)I"⟩
abbrev cX4_canShiftRow : ByteArray := prog_6_method_7_code
def yX4_canShiftRow : MethodName := ⟨RX4, "canShiftRow", "(II)Z"⟩
abbrev cX4_shiftRow : ByteArray := prog_6_method_8_code
def yX4_shiftRow : MethodName := ⟨RX4, "shiftRow", "(II)I"⟩
abbrev cX4_canStretchColumn : ByteArray := prog_6_method_9_code
def yX4_canStretchColumn : MethodName := ⟨RX4, "canStretchColumn", "(ID)Z"⟩
abbrev cX4_stretchColumn : ByteArray := prog_6_method_10_code
def yX4_stretchColumn : MethodName := ⟨RX4, "stretchColumn", "(ID)I"⟩
abbrev cX4_nearest : ByteArray := prog_6_method_11_code
def yX4_nearest : MethodName := ⟨RX4, "nearest", "(D)I"⟩
abbrev cX4_addTo : ByteArray := prog_6_method_12_code
def yX4_addTo : MethodName := ⟨RX4, "addTo", "(J)J"⟩
def RX5 : String := "AssignmentDesk"
def TX5 : u_T := fun k => match k with
  | 0 => ("AssignmentDesk", "table", "LAssignmentDesk$Table;", true)
  | 1 => ("AssignmentDesk", "levels", "LAssignmentDesk$Levels;", true)
  | 2 => ("AssignmentDesk", "solver", "LAssignmentDesk$Solver;", true)
  | 3 => ("AssignmentDesk", "ranking", "LAssignmentDesk$Ranking;", true)
  | _ => ("AssignmentDesk", "isSolved", "Z", false)
def tyX5 : Nat → FieldType := fun k => match k with
  | 0 => .object "AssignmentDesk$Table"
  | 1 => .object "AssignmentDesk$Levels"
  | 2 => .object "AssignmentDesk$Solver"
  | 3 => .object "AssignmentDesk$Ranking"
  | _ => .boolean
abbrev wsX50 : List Cond := u_ws RX5 TX5 5
theorem nmX5 : ∀ a, a < 5 → ∀ b, b < 5 → a ≠ b → (TX5 a).2.1 ≠ (TX5 b).2.1 := by decide +kernel
theorem tyX5_ok : ∀ k, k < 5 → parseFieldDescriptor (TX5 k).2.2.1 = some (tyX5 k) := by decide +kernel
abbrev cX5_init : ByteArray := prog_1_method_1_code
def yX5_init : MethodName := ⟨RX5, "<init>", "()V"⟩
abbrev cX5_addRow : ByteArray := prog_1_method_2_code
def yX5_addRow : MethodName := ⟨RX5, "addRow", "()I"⟩
abbrev cX5_addColumn : ByteArray := prog_1_method_3_code
def yX5_addColumn : MethodName := ⟨RX5, "addColumn", "()I"⟩
abbrev cX5_setRow : ByteArray := prog_1_method_4_code
def yX5_setRow : MethodName := ⟨RX5, "setRow", "(IZ)Z"⟩
abbrev cX5_setColumn : ByteArray := prog_1_method_5_code
def yX5_setColumn : MethodName := ⟨RX5, "setColumn", "(IZ)Z"⟩
abbrev cX5_setCost : ByteArray := prog_1_method_6_code
def yX5_setCost : MethodName := ⟨RX5, "setCost", "(III)Z"⟩
abbrev cX5_forbid : ByteArray := prog_1_method_7_code
def yX5_forbid : MethodName := ⟨RX5, "forbid", "(II)Z"⟩
abbrev cX5_addToRow : ByteArray := prog_1_method_8_code
def yX5_addToRow : MethodName := ⟨RX5, "addToRow", "(II)I"⟩
abbrev cX5_scaleColumn : ByteArray := prog_1_method_9_code
def yX5_scaleColumn : MethodName := ⟨RX5, "scaleColumn", "(ID)I"⟩
abbrev cX5_rowCount : ByteArray := prog_1_method_10_code
def yX5_rowCount : MethodName := ⟨RX5, "rowCount", "()I"⟩
abbrev cX5_columnCount : ByteArray := prog_1_method_11_code
def yX5_columnCount : MethodName := ⟨RX5, "columnCount", "()I"⟩
abbrev cX5_isAllowed : ByteArray := prog_1_method_12_code
def yX5_isAllowed : MethodName := ⟨RX5, "isAllowed", "(II)Z"⟩
abbrev cX5_cost : ByteArray := prog_1_method_13_code
def yX5_cost : MethodName := ⟨RX5, "cost", "(II)I"⟩
abbrev cX5_size : ByteArray := prog_1_method_14_code
def yX5_size : MethodName := ⟨RX5, "size", "()I"⟩
abbrev cX5_total : ByteArray := prog_1_method_15_code
def yX5_total : MethodName := ⟨RX5, "total", "()I"⟩
abbrev cX5_meanCost : ByteArray := prog_1_method_16_code
def yX5_meanCost : MethodName := ⟨RX5, "meanCost", "()D"⟩
abbrev cX5_columnOf : ByteArray := prog_1_method_17_code
def yX5_columnOf : MethodName := ⟨RX5, "columnOf", "(I)I"⟩
abbrev cX5_rowOf : ByteArray := prog_1_method_18_code
def yX5_rowOf : MethodName := ⟨RX5, "rowOf", "(I)I"⟩
abbrev cX5_optimalCount : ByteArray := prog_1_method_19_code
def yX5_optimalCount : MethodName := ⟨RX5, "optimalCount", "()I"⟩
abbrev cX5_isPossible : ByteArray := prog_1_method_20_code
def yX5_isPossible : MethodName := ⟨RX5, "isPossible", "(II)Z"⟩
abbrev cX5_isCertain : ByteArray := prog_1_method_21_code
def yX5_isCertain : MethodName := ⟨RX5, "isCertain", "(II)Z"⟩
abbrev cX5_regret : ByteArray := prog_1_method_22_code
def yX5_regret : MethodName := ⟨RX5, "regret", "(II)I"⟩
abbrev cX5_loss : ByteArray := prog_1_method_23_code
def yX5_loss : MethodName := ⟨RX5, "loss", "(II)I"⟩
abbrev cX5_greatestCost : ByteArray := prog_1_method_24_code
def yX5_greatestCost : MethodName := ⟨RX5, "greatestCost", "(II)I"⟩
abbrev cX5_rank : ByteArray := prog_1_method_25_code
def yX5_rank : MethodName := ⟨RX5, "rank", "(I)I"⟩
abbrev cX5_rankedCost : ByteArray := prog_1_method_26_code
def yX5_rankedCost : MethodName := ⟨RX5, "rankedCost", "(I)I"⟩
abbrev cX5_rankedColumn : ByteArray := prog_1_method_27_code
def yX5_rankedColumn : MethodName := ⟨RX5, "rankedColumn", "(II)I"⟩
abbrev cX5_push : ByteArray := prog_1_method_28_code
def yX5_push : MethodName := ⟨RX5, "push", "()I"⟩
abbrev cX5_pop : ByteArray := prog_1_method_29_code
def yX5_pop : MethodName := ⟨RX5, "pop", "()I"⟩
abbrev cX5_digest : ByteArray := prog_1_method_30_code
def yX5_digest : MethodName := ⟨RX5, "digest", "()J"⟩
abbrev cX5_requireRow : ByteArray := prog_1_method_31_code
def yX5_requireRow : MethodName := ⟨RX5, "requireRow", "(I)V"⟩
abbrev cX5_requireColumn : ByteArray := prog_1_method_32_code
def yX5_requireColumn : MethodName := ⟨RX5, "requireColumn", "(I)V"⟩
abbrev cX5_requirePair : ByteArray := prog_1_method_33_code
def yX5_requirePair : MethodName := ⟨RX5, "requirePair", "(II)V"⟩
abbrev cX5_requireUsable : ByteArray := prog_1_method_34_code
def yX5_requireUsable : MethodName := ⟨RX5, "requireUsable", "(II)V"⟩
abbrev cX5_requireRanked : ByteArray := prog_1_method_35_code
def yX5_requireRanked : MethodName := ⟨RX5, "requireRanked", "(I)V"⟩
abbrev cX5_replaceCell : ByteArray := prog_1_method_36_code
def yX5_replaceCell : MethodName := ⟨RX5, "replaceCell", "(III)Z"⟩
abbrev cX5_solved : ByteArray := prog_1_method_37_code
def yX5_solved : MethodName := ⟨RX5, "solved", "()LAssignmentDesk$Solver;"⟩
abbrev cX5_isCost : ByteArray := prog_1_method_38_code
def yX5_isCost : MethodName := ⟨RX5, "isCost", "(J)Z"⟩
abbrev cX5_hasBit : ByteArray := prog_1_method_39_code
def yX5_hasBit : MethodName := ⟨RX5, "hasBit", "(II)Z"⟩
abbrev cX5_withBit : ByteArray := prog_1_method_40_code
def yX5_withBit : MethodName := ⟨RX5, "withBit", "(IIZ)I"⟩
def RX6 : String := "AssignmentDeskModel"
def TX6 : u_T := fun k => match k with
  | 0 => ("AssignmentDeskModel", "thrown", "I", false)
  | 1 => ("AssignmentDeskModel", "rows", "I", false)
  | 2 => ("AssignmentDeskModel", "columns", "I", false)
  | 3 => ("AssignmentDeskModel", "isRowActive", "[Z", true)
  | 4 => ("AssignmentDeskModel", "isColumnActive", "[Z", true)
  | 5 => ("AssignmentDeskModel", "isAllowed", "[Z", true)
  | 6 => ("AssignmentDeskModel", "costs", "[I", true)
  | 7 => ("AssignmentDeskModel", "levels", "I", false)
  | 8 => ("AssignmentDeskModel", "levelRows", "[I", true)
  | 9 => ("AssignmentDeskModel", "levelColumns", "[I", true)
  | 10 => ("AssignmentDeskModel", "levelRowActive", "[Z", true)
  | 11 => ("AssignmentDeskModel", "levelColumnActive", "[Z", true)
  | 12 => ("AssignmentDeskModel", "levelAllowed", "[Z", true)
  | 13 => ("AssignmentDeskModel", "levelCosts", "[I", true)
  | 14 => ("AssignmentDeskModel", "sizes", "[I", true)
  | 15 => ("AssignmentDeskModel", "least", "[I", true)
  | 16 => ("AssignmentDeskModel", "ways", "[I", true)
  | 17 => ("AssignmentDeskModel", "choices", "[I", true)
  | 18 => ("AssignmentDeskModel", "chosen", "[I", true)
  | 19 => ("AssignmentDeskModel", "listedMany", "I", false)
  | 20 => ("AssignmentDeskModel", "listedCosts", "[I", true)
  | 21 => ("AssignmentDeskModel", "listedColumns", "[I", true)
  | 22 => ("AssignmentDeskModel", "isFull", "Z", false)
  | 23 => ("AssignmentDeskModel", "cost", "I", false)
  | 24 => ("AssignmentDeskModel", "parts", "I", false)
  | 25 => ("AssignmentDeskModel", "partCosts", "[I", true)
  | 26 => ("AssignmentDeskModel", "partChosen", "[I", true)
  | 27 => ("AssignmentDeskModel", "partFixed", "[I", true)
  | 28 => ("AssignmentDeskModel", "partAllowed", "[I", true)
  | _ => ("AssignmentDeskModel", "taken", "[I", true)
def tyX6 : Nat → FieldType := fun k => match k with
  | 0 => .int
  | 1 => .int
  | 2 => .int
  | 3 => .array .boolean
  | 4 => .array .boolean
  | 5 => .array .boolean
  | 6 => .array .int
  | 7 => .int
  | 8 => .array .int
  | 9 => .array .int
  | 10 => .array .boolean
  | 11 => .array .boolean
  | 12 => .array .boolean
  | 13 => .array .int
  | 14 => .array .int
  | 15 => .array .int
  | 16 => .array .int
  | 17 => .array .int
  | 18 => .array .int
  | 19 => .int
  | 20 => .array .int
  | 21 => .array .int
  | 22 => .boolean
  | 23 => .int
  | 24 => .int
  | 25 => .array .int
  | 26 => .array .int
  | 27 => .array .int
  | 28 => .array .int
  | _ => .array .int
abbrev wsX60 : List Cond := u_ws RX6 TX6 30
theorem nmX6 : ∀ a, a < 30 → ∀ b, b < 30 → a ≠ b → (TX6 a).2.1 ≠ (TX6 b).2.1 := by decide +kernel
theorem tyX6_ok : ∀ k, k < 30 → parseFieldDescriptor (TX6 k).2.2.1 = some (tyX6 k) := by decide +kernel
abbrev cX6_init : ByteArray := prog_8_method_1_code
def yX6_init : MethodName := ⟨RX6, "<init>", "()V"⟩
abbrev cX6_thrown : ByteArray := prog_8_method_2_code
def yX6_thrown : MethodName := ⟨RX6, "thrown", "()I"⟩
abbrev cX6_fail : ByteArray := prog_8_method_3_code
def yX6_fail : MethodName := ⟨RX6, "fail", "(I)I"⟩
abbrev cX6_failed : ByteArray := prog_8_method_4_code
def yX6_failed : MethodName := ⟨RX6, "failed", "(I)Z"⟩
abbrev cX6_isRow : ByteArray := prog_8_method_5_code
def yX6_isRow : MethodName := ⟨RX6, "isRow", "(I)Z"⟩
abbrev cX6_isColumn : ByteArray := prog_8_method_6_code
def yX6_isColumn : MethodName := ⟨RX6, "isColumn", "(I)Z"⟩
abbrev cX6_isPair : ByteArray := prog_8_method_7_code
def yX6_isPair : MethodName := ⟨RX6, "isPair", "(II)Z"⟩
abbrev cX6_isCost : ByteArray := prog_8_method_8_code
def yX6_isCost : MethodName := ⟨RX6, "isCost", "(J)Z"⟩
abbrev cX6_isUsable : ByteArray := prog_8_method_9_code
def yX6_isUsable : MethodName := ⟨RX6, "isUsable", "(II)Z"⟩
abbrev cX6_addRow : ByteArray := prog_8_method_10_code
def yX6_addRow : MethodName := ⟨RX6, "addRow", "()I"⟩
abbrev cX6_addColumn : ByteArray := prog_8_method_11_code
def yX6_addColumn : MethodName := ⟨RX6, "addColumn", "()I"⟩
abbrev cX6_setRow : ByteArray := prog_8_method_12_code
def yX6_setRow : MethodName := ⟨RX6, "setRow", "(IZ)Z"⟩
abbrev cX6_setColumn : ByteArray := prog_8_method_13_code
def yX6_setColumn : MethodName := ⟨RX6, "setColumn", "(IZ)Z"⟩
abbrev cX6_setCost : ByteArray := prog_8_method_14_code
def yX6_setCost : MethodName := ⟨RX6, "setCost", "(III)Z"⟩
abbrev cX6_forbid : ByteArray := prog_8_method_15_code
def yX6_forbid : MethodName := ⟨RX6, "forbid", "(II)Z"⟩
abbrev cX6_addToRow : ByteArray := prog_8_method_16_code
def yX6_addToRow : MethodName := ⟨RX6, "addToRow", "(II)I"⟩
abbrev cX6_scaleColumn : ByteArray := prog_8_method_17_code
def yX6_scaleColumn : MethodName := ⟨RX6, "scaleColumn", "(ID)I"⟩
abbrev cX6_rowCount : ByteArray := prog_8_method_18_code
def yX6_rowCount : MethodName := ⟨RX6, "rowCount", "()I"⟩
abbrev cX6_columnCount : ByteArray := prog_8_method_19_code
def yX6_columnCount : MethodName := ⟨RX6, "columnCount", "()I"⟩
abbrev cX6_isAllowed : ByteArray := prog_8_method_20_code
def yX6_isAllowed : MethodName := ⟨RX6, "isAllowed", "(II)Z"⟩
abbrev cX6_cost : ByteArray := prog_8_method_21_code
def yX6_cost : MethodName := ⟨RX6, "cost", "(II)I"⟩
abbrev cX6_setChoices : ByteArray := prog_8_method_22_code
def yX6_setChoices : MethodName := ⟨RX6, "setChoices", "()V"⟩
abbrev cX6_fill : ByteArray := prog_8_method_23_code
def yX6_fill : MethodName := ⟨RX6, "fill", "()V"⟩
abbrev cX6_fill_ : ByteArray := prog_8_method_24_code
def yX6_fill_ : MethodName := ⟨RX6, "fill", "(II)V"⟩
abbrev cX6_costOf : ByteArray := prog_8_method_25_code
def yX6_costOf : MethodName := ⟨RX6, "costOf", "(II)I"⟩
abbrev cX6_columnOfBit : ByteArray := prog_8_method_26_code
def yX6_columnOfBit : MethodName := ⟨RX6, "columnOfBit", "(I)I"⟩
abbrev cX6_choose : ByteArray := prog_8_method_27_code
def yX6_choose : MethodName := ⟨RX6, "choose", "()V"⟩
abbrev cX6_isBest : ByteArray := prog_8_method_28_code
def yX6_isBest : MethodName := ⟨RX6, "isBest", "(IIII)Z"⟩
abbrev cX6_solve : ByteArray := prog_8_method_29_code
def yX6_solve : MethodName := ⟨RX6, "solve", "()V"⟩
abbrev cX6_size : ByteArray := prog_8_method_30_code
def yX6_size : MethodName := ⟨RX6, "size", "()I"⟩
abbrev cX6_total : ByteArray := prog_8_method_31_code
def yX6_total : MethodName := ⟨RX6, "total", "()I"⟩
abbrev cX6_meanCost : ByteArray := prog_8_method_32_code
def yX6_meanCost : MethodName := ⟨RX6, "meanCost", "()D"⟩
abbrev cX6_columnOf : ByteArray := prog_8_method_33_code
def yX6_columnOf : MethodName := ⟨RX6, "columnOf", "(I)I"⟩
abbrev cX6_rowOf : ByteArray := prog_8_method_34_code
def yX6_rowOf : MethodName := ⟨RX6, "rowOf", "(I)I"⟩
abbrev cX6_optimalCount : ByteArray := prog_8_method_35_code
def yX6_optimalCount : MethodName := ⟨RX6, "optimalCount", "()I"⟩
abbrev cX6_solveWith : ByteArray := prog_8_method_36_code
def yX6_solveWith : MethodName := ⟨RX6, "solveWith", "(II)V"⟩
abbrev cX6_isPossible : ByteArray := prog_8_method_37_code
def yX6_isPossible : MethodName := ⟨RX6, "isPossible", "(II)Z"⟩
abbrev cX6_isCertain : ByteArray := prog_8_method_38_code
def yX6_isCertain : MethodName := ⟨RX6, "isCertain", "(II)Z"⟩
abbrev cX6_regret : ByteArray := prog_8_method_39_code
def yX6_regret : MethodName := ⟨RX6, "regret", "(II)I"⟩
abbrev cX6_loss : ByteArray := prog_8_method_40_code
def yX6_loss : MethodName := ⟨RX6, "loss", "(II)I"⟩
abbrev cX6_greatestCost : ByteArray := prog_8_method_41_code
def yX6_greatestCost : MethodName := ⟨RX6, "greatestCost", "(II)I"⟩
abbrev cX6_addPart : ByteArray := prog_8_method_42_code
def yX6_addPart : MethodName := ⟨RX6, "addPart", "([IIIII)V"⟩
abbrev cX6_isAhead : ByteArray := prog_8_method_43_code
def yX6_isAhead : MethodName := ⟨RX6, "isAhead", "(II)Z"⟩
abbrev cX6_remove : ByteArray := prog_8_method_44_code
def yX6_remove : MethodName := ⟨RX6, "remove", "(I)V"⟩
abbrev cX6_rank : ByteArray := prog_8_method_45_code
def yX6_rank : MethodName := ⟨RX6, "rank", "(I)I"⟩
abbrev cX6_rankedCost : ByteArray := prog_8_method_46_code
def yX6_rankedCost : MethodName := ⟨RX6, "rankedCost", "(I)I"⟩
abbrev cX6_rankedColumn : ByteArray := prog_8_method_47_code
def yX6_rankedColumn : MethodName := ⟨RX6, "rankedColumn", "(II)I"⟩
abbrev cX6_push : ByteArray := prog_8_method_48_code
def yX6_push : MethodName := ⟨RX6, "push", "()I"⟩
abbrev cX6_pop : ByteArray := prog_8_method_49_code
def yX6_pop : MethodName := ⟨RX6, "pop", "()I"⟩
abbrev cX6_digest : ByteArray := prog_8_method_50_code
def yX6_digest : MethodName := ⟨RX6, "digest", "()J"⟩
def RJx145de : String := "java/io/Serializable"
def TJx145de : u_T := fun k => match k with
  | _ => ("", "", "", false)
def tyJx145de : Nat → FieldType := fun k => match k with
  | _ => .int
abbrev wsJx145de0 : List Cond := u_ws RJx145de TJx145de 0
theorem nmJx145de : ∀ a, a < 0 → ∀ b, b < 0 → a ≠ b → (TJx145de a).2.1 ≠ (TJx145de b).2.1 := by decide +kernel
theorem tyJx145de_ok : ∀ k, k < 0 → parseFieldDescriptor (TJx145de k).2.2.1 = some (tyJx145de k) := by decide +kernel
def RJx00060 : String := "java/lang/ArrayIndexOutOfBoundsException"
def TJx00060 : u_T := fun k => match k with
  | 0 => ("java/lang/Throwable", "backtrace", "Ljava/lang/Object;", false)
  | 1 => ("java/lang/Throwable", "detailMessage", "Ljava/lang/String;", false)
  | 2 => ("java/lang/Throwable", "cause", "Ljava/lang/Throwable;", false)
  | 3 => ("java/lang/Throwable", "stackTrace", "[Ljava/lang/StackTraceElement;", false)
  | 4 => ("java/lang/Throwable", "depth", "I", false)
  | _ => ("java/lang/Throwable", "suppressedExceptions", "Ljava/util/List;", false)
def tyJx00060 : Nat → FieldType := fun k => match k with
  | 0 => .object "java/lang/Object"
  | 1 => .object "java/lang/String"
  | 2 => .object "java/lang/Throwable"
  | 3 => .array (.object "java/lang/StackTraceElement")
  | 4 => .int
  | _ => .object "java/util/List"
abbrev wsJx000600 : List Cond := u_ws RJx00060 TJx00060 6
theorem nmJx00060 : ∀ a, a < 6 → ∀ b, b < 6 → a ≠ b → (TJx00060 a).2.1 ≠ (TJx00060 b).2.1 := by decide +kernel
theorem tyJx00060_ok : ∀ k, k < 6 → parseFieldDescriptor (TJx00060 k).2.2.1 = some (tyJx00060 k) := by decide +kernel
abbrev cJx00060_init_a7421 : ByteArray := prog_11_method_2_code
def yJx00060_init_a7421 : MethodName := ⟨RJx00060, "<init>", "(Ljava/lang/String;)V"⟩
def RJxb160c : String := "java/lang/Comparable"
def TJxb160c : u_T := fun k => match k with
  | _ => ("", "", "", false)
def tyJxb160c : Nat → FieldType := fun k => match k with
  | _ => .int
abbrev wsJxb160c0 : List Cond := u_ws RJxb160c TJxb160c 0
theorem nmJxb160c : ∀ a, a < 0 → ∀ b, b < 0 → a ≠ b → (TJxb160c a).2.1 ≠ (TJxb160c b).2.1 := by decide +kernel
theorem tyJxb160c_ok : ∀ k, k < 0 → parseFieldDescriptor (TJxb160c k).2.2.1 = some (tyJxb160c k) := by decide +kernel
def RJxe99ae : String := "java/lang/Double"
def TJxe99ae : u_T := fun k => match k with
  | _ => ("", "", "", false)
def tyJxe99ae : Nat → FieldType := fun k => match k with
  | _ => .int
abbrev wsJxe99ae0 : List Cond := u_ws RJxe99ae TJxe99ae 0
theorem nmJxe99ae : ∀ a, a < 0 → ∀ b, b < 0 → a ≠ b → (TJxe99ae a).2.1 ≠ (TJxe99ae b).2.1 := by decide +kernel
theorem tyJxe99ae_ok : ∀ k, k < 0 → parseFieldDescriptor (TJxe99ae k).2.2.1 = some (tyJxe99ae k) := by decide +kernel
def RJ6 : String := "java/lang/Integer"
def TJ6 : u_T := fun k => match k with
  | _ => ("", "", "", false)
def tyJ6 : Nat → FieldType := fun k => match k with
  | _ => .int
abbrev wsJ60 : List Cond := u_ws RJ6 TJ6 0
theorem nmJ6 : ∀ a, a < 0 → ∀ b, b < 0 → a ≠ b → (TJ6 a).2.1 ≠ (TJ6 b).2.1 := by decide +kernel
theorem tyJ6_ok : ∀ k, k < 0 → parseFieldDescriptor (TJ6 k).2.2.1 = some (tyJ6 k) := by decide +kernel
abbrev cJ6_bitCount_0f7a4 : ByteArray := prog_18_method_49_code
def yJ6_bitCount_0f7a4 : MethodName := ⟨RJ6, "bitCount", "(I)I"⟩
def RJ9 : String := "java/lang/Math"
def TJ9 : u_T := fun k => match k with
  | _ => ("", "", "", false)
def tyJ9 : Nat → FieldType := fun k => match k with
  | _ => .int
abbrev wsJ90 : List Cond := u_ws RJ9 TJ9 0
theorem nmJ9 : ∀ a, a < 0 → ∀ b, b < 0 → a ≠ b → (TJ9 a).2.1 ≠ (TJ9 b).2.1 := by decide +kernel
theorem tyJ9_ok : ∀ k, k < 0 → parseFieldDescriptor (TJ9 k).2.2.1 = some (tyJ9 k) := by decide +kernel
abbrev cJ9_rint_294c1 : ByteArray := prog_19_method_18_code
def yJ9_rint_294c1 : MethodName := ⟨RJ9, "rint", "(D)D"⟩
abbrev cJ9_abs_294c1 : ByteArray := prog_19_method_64_code
def yJ9_abs_294c1 : MethodName := ⟨RJ9, "abs", "(D)D"⟩
abbrev cJ9_min_7cf53 : ByteArray := prog_19_method_69_code
def yJ9_min_7cf53 : MethodName := ⟨RJ9, "min", "(II)I"⟩
abbrev cJ9_copySign_eb370 : ByteArray := prog_19_method_89_code
def yJ9_copySign_eb370 : MethodName := ⟨RJ9, "copySign", "(DD)D"⟩
def RJxd2413 : String := "java/lang/Number"
def TJxd2413 : u_T := fun k => match k with
  | _ => ("", "", "", false)
def tyJxd2413 : Nat → FieldType := fun k => match k with
  | _ => .int
abbrev wsJxd24130 : List Cond := u_ws RJxd2413 TJxd2413 0
theorem nmJxd2413 : ∀ a, a < 0 → ∀ b, b < 0 → a ≠ b → (TJxd2413 a).2.1 ≠ (TJxd2413 b).2.1 := by decide +kernel
theorem tyJxd2413_ok : ∀ k, k < 0 → parseFieldDescriptor (TJxd2413 k).2.2.1 = some (tyJxd2413 k) := by decide +kernel
def RJxfc994 : String := "java/lang/StrictMath"
def TJxfc994 : u_T := fun k => match k with
  | _ => ("", "", "", false)
def tyJxfc994 : Nat → FieldType := fun k => match k with
  | _ => .int
abbrev wsJxfc9940 : List Cond := u_ws RJxfc994 TJxfc994 0
theorem nmJxfc994 : ∀ a, a < 0 → ∀ b, b < 0 → a ≠ b → (TJxfc994 a).2.1 ≠ (TJxfc994 b).2.1 := by decide +kernel
theorem tyJxfc994_ok : ∀ k, k < 0 → parseFieldDescriptor (TJxfc994 k).2.2.1 = some (tyJxfc994 k) := by decide +kernel
abbrev cJxfc994_rint_294c1 : ByteArray := prog_22_method_19_code
def yJxfc994_rint_294c1 : MethodName := ⟨RJxfc994, "rint", "(D)D"⟩
def RJ0 : String := "java/lang/String"
def TJ0 : u_T := fun k => match k with
  | 0 => ("java/lang/String", "value", "[B", true)
  | _ => ("java/lang/String", "coder", "B", true)
def tyJ0 : Nat → FieldType := fun k => match k with
  | 0 => .array .byte
  | _ => .byte
abbrev wsJ00 : List Cond := u_ws RJ0 TJ0 2
theorem nmJ0 : ∀ a, a < 2 → ∀ b, b < 2 → a ≠ b → (TJ0 a).2.1 ≠ (TJ0 b).2.1 := by decide +kernel
theorem tyJ0_ok : ∀ k, k < 2 → parseFieldDescriptor (TJ0 k).2.2.1 = some (tyJ0 k) := by decide +kernel
def RJ10 : String := "java/lang/System"
def TJ10 : u_T := fun k => match k with
  | _ => ("", "", "", false)
def tyJ10 : Nat → FieldType := fun k => match k with
  | _ => .int
abbrev wsJ100 : List Cond := u_ws RJ10 TJ10 0
theorem nmJ10 : ∀ a, a < 0 → ∀ b, b < 0 → a ≠ b → (TJ10 a).2.1 ≠ (TJ10 b).2.1 := by decide +kernel
theorem tyJ10_ok : ∀ k, k < 0 → parseFieldDescriptor (TJ10 k).2.2.1 = some (tyJ10 k) := by decide +kernel
def RJxfd54e : String := "java/lang/constant/Constable"
def TJxfd54e : u_T := fun k => match k with
  | _ => ("", "", "", false)
def tyJxfd54e : Nat → FieldType := fun k => match k with
  | _ => .int
abbrev wsJxfd54e0 : List Cond := u_ws RJxfd54e TJxfd54e 0
theorem nmJxfd54e : ∀ a, a < 0 → ∀ b, b < 0 → a ≠ b → (TJxfd54e a).2.1 ≠ (TJxfd54e b).2.1 := by decide +kernel
theorem tyJxfd54e_ok : ∀ k, k < 0 → parseFieldDescriptor (TJxfd54e k).2.2.1 = some (tyJxfd54e k) := by decide +kernel
def RJx3cf43 : String := "java/lang/constant/ConstantDesc"
def TJx3cf43 : u_T := fun k => match k with
  | _ => ("", "", "", false)
def tyJx3cf43 : Nat → FieldType := fun k => match k with
  | _ => .int
abbrev wsJx3cf430 : List Cond := u_ws RJx3cf43 TJx3cf43 0
theorem nmJx3cf43 : ∀ a, a < 0 → ∀ b, b < 0 → a ≠ b → (TJx3cf43 a).2.1 ≠ (TJx3cf43 b).2.1 := by decide +kernel
theorem tyJx3cf43_ok : ∀ k, k < 0 → parseFieldDescriptor (TJx3cf43 k).2.2.1 = some (tyJx3cf43 k) := by decide +kernel
def RJ7 : String := "java/util/Arrays"
def TJ7 : u_T := fun k => match k with
  | _ => ("", "", "", false)
def tyJ7 : Nat → FieldType := fun k => match k with
  | _ => .int
abbrev wsJ70 : List Cond := u_ws RJ7 TJ7 0
theorem nmJ7 : ∀ a, a < 0 → ∀ b, b < 0 → a ≠ b → (TJ7 a).2.1 ≠ (TJ7 b).2.1 := by decide +kernel
theorem tyJ7_ok : ∀ k, k < 0 → parseFieldDescriptor (TJ7 k).2.2.1 = some (tyJ7 k) := by decide +kernel
abbrev cJ7_fill_53178 : ByteArray := prog_28_method_103_code
def yJ7_fill_53178 : MethodName := ⟨RJ7, "fill", "([II)V"⟩
def RL : String := "AssignmentDeskLaw"
abbrev cL_addRow : ByteArray := method_3_code
def yL_addRow : MethodName := ⟨RL, "addRow", "(LAssignmentDesk;[J)I"⟩
abbrev cL_addColumn : ByteArray := method_4_code
def yL_addColumn : MethodName := ⟨RL, "addColumn", "(LAssignmentDesk;[J)I"⟩
abbrev cL_setRow : ByteArray := method_5_code
def yL_setRow : MethodName := ⟨RL, "setRow", "(LAssignmentDesk;IZ[J)I"⟩
abbrev cL_setColumn : ByteArray := method_6_code
def yL_setColumn : MethodName := ⟨RL, "setColumn", "(LAssignmentDesk;IZ[J)I"⟩
abbrev cL_setCost : ByteArray := method_7_code
def yL_setCost : MethodName := ⟨RL, "setCost", "(LAssignmentDesk;III[J)I"⟩
abbrev cL_forbid : ByteArray := method_8_code
def yL_forbid : MethodName := ⟨RL, "forbid", "(LAssignmentDesk;II[J)I"⟩
abbrev cL_addToRow : ByteArray := method_9_code
def yL_addToRow : MethodName := ⟨RL, "addToRow", "(LAssignmentDesk;II[J)I"⟩
abbrev cL_scaleColumn : ByteArray := method_10_code
def yL_scaleColumn : MethodName := ⟨RL, "scaleColumn", "(LAssignmentDesk;ID[J)I"⟩
abbrev cL_isAllowed : ByteArray := method_11_code
def yL_isAllowed : MethodName := ⟨RL, "isAllowed", "(LAssignmentDesk;II[J)I"⟩
abbrev cL_cost : ByteArray := method_12_code
def yL_cost : MethodName := ⟨RL, "cost", "(LAssignmentDesk;II[J)I"⟩
abbrev cL_columnOf : ByteArray := method_13_code
def yL_columnOf : MethodName := ⟨RL, "columnOf", "(LAssignmentDesk;I[J)I"⟩
abbrev cL_rowOf : ByteArray := method_14_code
def yL_rowOf : MethodName := ⟨RL, "rowOf", "(LAssignmentDesk;I[J)I"⟩
abbrev cL_isPossible : ByteArray := method_15_code
def yL_isPossible : MethodName := ⟨RL, "isPossible", "(LAssignmentDesk;II[J)I"⟩
abbrev cL_isCertain : ByteArray := method_16_code
def yL_isCertain : MethodName := ⟨RL, "isCertain", "(LAssignmentDesk;II[J)I"⟩
abbrev cL_regret : ByteArray := method_17_code
def yL_regret : MethodName := ⟨RL, "regret", "(LAssignmentDesk;II[J)I"⟩
abbrev cL_loss : ByteArray := method_18_code
def yL_loss : MethodName := ⟨RL, "loss", "(LAssignmentDesk;II[J)I"⟩
abbrev cL_greatestCost : ByteArray := method_19_code
def yL_greatestCost : MethodName := ⟨RL, "greatestCost", "(LAssignmentDesk;II[J)I"⟩
abbrev cL_rank : ByteArray := method_20_code
def yL_rank : MethodName := ⟨RL, "rank", "(LAssignmentDesk;I[J)I"⟩
abbrev cL_rankedCost : ByteArray := method_21_code
def yL_rankedCost : MethodName := ⟨RL, "rankedCost", "(LAssignmentDesk;I[J)I"⟩
abbrev cL_rankedColumn : ByteArray := method_22_code
def yL_rankedColumn : MethodName := ⟨RL, "rankedColumn", "(LAssignmentDesk;II[J)I"⟩
abbrev cL_push : ByteArray := method_23_code
def yL_push : MethodName := ⟨RL, "push", "(LAssignmentDesk;[J)I"⟩
abbrev cL_pop : ByteArray := method_24_code
def yL_pop : MethodName := ⟨RL, "pop", "(LAssignmentDesk;[J)I"⟩
abbrev cL_law : ByteArray := code
def yL_law : MethodName := ⟨RL, "law", "([I)Z"⟩
abbrev vwCl : List vw_C := [(RJ0, TJ0, 2), (RJx00060, TJx00060, 6), (RX0, TX0, 5), (RX1, TX1, 4), (RX2, TX2, 2), (RX3, TX3, 8), (RX4, TX4, 5), (RX5, TX5, 5), (RX6, TX6, 30)]
