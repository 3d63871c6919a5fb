theorem ik_RL : Cond.initialized RL ∈ lw_all := in_all (i := 38) (by decide +kernel) rfl
theorem ik_RX5 : Cond.initialized RX5 ∈ lw_all := in_all (i := 39) (by decide +kernel) rfl
theorem ik_RX4 : Cond.initialized RX4 ∈ lw_all := in_all (i := 40) (by decide +kernel) rfl
theorem ik_RJ7 : Cond.initialized RJ7 ∈ lw_all := in_all (i := 41) (by decide +kernel) rfl
theorem ik_RX1 : Cond.initialized RX1 ∈ lw_all := in_all (i := 42) (by decide +kernel) rfl
theorem ik_RX3 : Cond.initialized RX3 ∈ lw_all := in_all (i := 43) (by decide +kernel) rfl
theorem ik_RX2 : Cond.initialized RX2 ∈ lw_all := in_all (i := 44) (by decide +kernel) rfl
theorem ik_RX0 : Cond.initialized RX0 ∈ lw_all := in_all (i := 45) (by decide +kernel) rfl
theorem ik_RX6 : Cond.initialized RX6 ∈ lw_all := in_all (i := 46) (by decide +kernel) rfl
theorem ik_Qjava_lang_Throwable : Cond.initialized "java/lang/Throwable" ∈ lw_all := in_all (i := 47) (by decide +kernel) rfl
theorem ik_Qjava_lang_Exception : Cond.initialized "java/lang/Exception" ∈ lw_all := in_all (i := 48) (by decide +kernel) rfl
theorem ik_Qjava_lang_RuntimeException : Cond.initialized "java/lang/RuntimeException" ∈ lw_all := in_all (i := 49) (by decide +kernel) rfl
theorem ik_Qjava_lang_IllegalStateException : Cond.initialized "java/lang/IllegalStateException" ∈ lw_all := in_all (i := 50) (by decide +kernel) rfl
theorem ik_Qjava_lang_IndexOutOfBoundsException : Cond.initialized "java/lang/IndexOutOfBoundsException" ∈ lw_all := in_all (i := 51) (by decide +kernel) rfl
theorem ik_RJx00060 : Cond.initialized RJx00060 ∈ lw_all := in_all (i := 52) (by decide +kernel) rfl
theorem ik_RJ0 : Cond.initialized RJ0 ∈ lw_all := in_all (i := 53) (by decide +kernel) rfl
theorem ik_Qjava_lang_IllegalArgumentException : Cond.initialized "java/lang/IllegalArgumentException" ∈ lw_all := in_all (i := 54) (by decide +kernel) rfl
theorem ik_Qjava_lang_ArithmeticException : Cond.initialized "java/lang/ArithmeticException" ∈ lw_all := in_all (i := 55) (by decide +kernel) rfl
theorem ik_RJ9 : Cond.initialized RJ9 ∈ lw_all := in_all (i := 56) (by decide +kernel) rfl
theorem ik_RJxfc994 : Cond.initialized RJxfc994 ∈ lw_all := in_all (i := 57) (by decide +kernel) rfl
theorem ik_RJxd2413 : Cond.initialized RJxd2413 ∈ lw_all := in_all (i := 58) (by decide +kernel) rfl
theorem ik_RJxe99ae : Cond.initialized RJxe99ae ∈ lw_all := in_all (i := 59) (by decide +kernel) rfl
theorem ik_Qjava_util_NoSuchElementException : Cond.initialized "java/util/NoSuchElementException" ∈ lw_all := in_all (i := 60) (by decide +kernel) rfl
theorem ik_RJ6 : Cond.initialized RJ6 ∈ lw_all := in_all (i := 61) (by decide +kernel) rfl
theorem ik_RJ10 : Cond.initialized RJ10 ∈ lw_all := in_all (i := 62) (by decide +kernel) rfl
theorem ck_RL_8 : Cond.classLink RL 8 RX5 ∈ lw_all := in_all (i := 63) (by decide +kernel) rfl
theorem nw_RX5 : Cond.instantiable RX5 5 ∈ lw_all := in_all (i := 64) (by decide +kernel) rfl
theorem lk_RL_92 : Cond.methodLink RL 92 yX5_init ∈ lw_all := in_all (i := 65) (by decide +kernel) rfl
theorem lk_RX5_3 : Cond.methodLink RX5 3 objectInit ∈ lw_all := in_all (i := 68) (by decide +kernel) rfl
theorem ck_RX5_9 : Cond.classLink RX5 9 RX4 ∈ lw_all := in_all (i := 71) (by decide +kernel) rfl
theorem nw_RX4 : Cond.instantiable RX4 5 ∈ lw_all := in_all (i := 72) (by decide +kernel) rfl
theorem lk_RX5_11 : Cond.methodLink RX5 11 yX4_init ∈ lw_all := in_all (i := 73) (by decide +kernel) rfl
theorem lk_RX4_3 : Cond.methodLink RX4 3 objectInit ∈ lw_all := in_all (i := 76) (by decide +kernel) rfl
theorem lk_RX4_15 : Cond.methodLink RX4 15 yJ7_fill_53178 ∈ lw_all := in_all (i := 77) (by decide +kernel) rfl
theorem fk_RX4_9 : Cond.fieldLink RX4 9 "AssignmentDesk$Table" "cells" "[I" ∈ lw_all := in_all (i := 80) (by decide +kernel) rfl
theorem fk_RX1_21 : Cond.fieldLinkNest RX1 21 "AssignmentDesk$Table" "cells" "[I" RX5 ∈ lw_nst := in_nst (i := 81) (by decide +kernel) rfl
theorem fk_RX5_237 : Cond.fieldLinkNest RX5 237 "AssignmentDesk$Table" "cells" "[I" RX5 ∈ lw_nst := in_nst (i := 82) (by decide +kernel) rfl
theorem fk_RX5_37 : Cond.fieldLinkNest RX5 37 "AssignmentDesk$Table" "rows" "I" RX5 ∈ lw_nst := in_nst (i := 83) (by decide +kernel) rfl
theorem fk_RX4_25 : Cond.fieldLink RX4 25 "AssignmentDesk$Table" "rows" "I" ∈ lw_all := in_all (i := 84) (by decide +kernel) rfl
theorem fk_RX5_56 : Cond.fieldLinkNest RX5 56 "AssignmentDesk$Table" "columns" "I" RX5 ∈ lw_nst := in_nst (i := 85) (by decide +kernel) rfl
theorem fk_RX4_35 : Cond.fieldLink RX4 35 "AssignmentDesk$Table" "columns" "I" ∈ lw_all := in_all (i := 86) (by decide +kernel) rfl
theorem fk_RX4_21 : Cond.fieldLink RX4 21 "AssignmentDesk$Table" "activeRows" "I" ∈ lw_all := in_all (i := 87) (by decide +kernel) rfl
theorem fk_RX1_34 : Cond.fieldLinkNest RX1 34 "AssignmentDesk$Table" "activeRows" "I" RX5 ∈ lw_nst := in_nst (i := 88) (by decide +kernel) rfl
theorem fk_RX5_68 : Cond.fieldLinkNest RX5 68 "AssignmentDesk$Table" "activeRows" "I" RX5 ∈ lw_nst := in_nst (i := 89) (by decide +kernel) rfl
theorem fk_RX1_36 : Cond.fieldLinkNest RX1 36 "AssignmentDesk$Table" "activeColumns" "I" RX5 ∈ lw_nst := in_nst (i := 90) (by decide +kernel) rfl
theorem fk_RX4_32 : Cond.fieldLink RX4 32 "AssignmentDesk$Table" "activeColumns" "I" ∈ lw_all := in_all (i := 91) (by decide +kernel) rfl
theorem fk_RX3_56 : Cond.fieldLinkNest RX3 56 "AssignmentDesk$Table" "activeColumns" "I" RX5 ∈ lw_nst := in_nst (i := 92) (by decide +kernel) rfl
theorem fk_RX5_82 : Cond.fieldLinkNest RX5 82 "AssignmentDesk$Table" "activeColumns" "I" RX5 ∈ lw_nst := in_nst (i := 93) (by decide +kernel) rfl
theorem ck_RX5_16 : Cond.classLink RX5 16 RX1 ∈ lw_all := in_all (i := 106) (by decide +kernel) rfl
theorem nw_RX1 : Cond.instantiable RX1 4 ∈ lw_all := in_all (i := 107) (by decide +kernel) rfl
theorem lk_RX5_18 : Cond.methodLinkNest RX5 18 yX1_init RX5 ∈ lw_nst := in_nst (i := 108) (by decide +kernel) rfl
theorem lk_RX1_3 : Cond.methodLink RX1 3 objectInit ∈ lw_all := in_all (i := 111) (by decide +kernel) rfl
theorem fk_RX1_9 : Cond.fieldLink RX1 9 "AssignmentDesk$Levels" "cells" "[I" ∈ lw_all := in_all (i := 112) (by decide +kernel) rfl
theorem fk_RX1_15 : Cond.fieldLink RX1 15 "AssignmentDesk$Levels" "activeRows" "[I" ∈ lw_all := in_all (i := 113) (by decide +kernel) rfl
theorem fk_RX1_18 : Cond.fieldLink RX1 18 "AssignmentDesk$Levels" "activeColumns" "[I" ∈ lw_all := in_all (i := 114) (by decide +kernel) rfl
theorem fk_RX1_24 : Cond.fieldLink RX1 24 "AssignmentDesk$Levels" "count" "I" ∈ lw_all := in_all (i := 115) (by decide +kernel) rfl
theorem fk_RX5_203 : Cond.fieldLinkNest RX5 203 "AssignmentDesk$Levels" "count" "I" RX5 ∈ lw_nst := in_nst (i := 116) (by decide +kernel) rfl
theorem ck_RX5_23 : Cond.classLink RX5 23 RX3 ∈ lw_all := in_all (i := 126) (by decide +kernel) rfl
theorem nw_RX3 : Cond.instantiable RX3 8 ∈ lw_all := in_all (i := 127) (by decide +kernel) rfl
theorem lk_RX5_25 : Cond.methodLinkNest RX5 25 yX3_init RX5 ∈ lw_nst := in_nst (i := 128) (by decide +kernel) rfl
theorem lk_RX3_5 : Cond.methodLink RX3 5 objectInit ∈ lw_all := in_all (i := 131) (by decide +kernel) rfl
theorem ck_RX3_18 : Cond.classLink RX3 18 "[[I" ∈ lw_all := in_all (i := 132) (by decide +kernel) rfl
theorem fk_RX3_11 : Cond.fieldLink RX3 11 "AssignmentDesk$Solver" "scores" "[I" ∈ lw_all := in_all (i := 134) (by decide +kernel) rfl
theorem fk_RX2_65 : Cond.fieldLinkNest RX2 65 "AssignmentDesk$Solver" "scores" "[I" RX5 ∈ lw_nst := in_nst (i := 135) (by decide +kernel) rfl
theorem fk_RX3_15 : Cond.fieldLink RX3 15 "AssignmentDesk$Solver" "usable" "[I" ∈ lw_all := in_all (i := 136) (by decide +kernel) rfl
theorem fk_RX2_58 : Cond.fieldLinkNest RX2 58 "AssignmentDesk$Solver" "usable" "[I" RX5 ∈ lw_nst := in_nst (i := 137) (by decide +kernel) rfl
theorem fk_RX2_30 : Cond.fieldLinkNest RX2 30 "AssignmentDesk$Solver" "active" "I" RX5 ∈ lw_nst := in_nst (i := 138) (by decide +kernel) rfl
theorem fk_RX3_46 : Cond.fieldLink RX3 46 "AssignmentDesk$Solver" "active" "I" ∈ lw_all := in_all (i := 139) (by decide +kernel) rfl
theorem fk_RX3_20 : Cond.fieldLink RX3 20 "AssignmentDesk$Solver" "least" "[[I" ∈ lw_all := in_all (i := 140) (by decide +kernel) rfl
theorem fk_RX2_72 : Cond.fieldLinkNest RX2 72 "AssignmentDesk$Solver" "least" "[[I" RX5 ∈ lw_nst := in_nst (i := 141) (by decide +kernel) rfl
theorem fk_RX3_23 : Cond.fieldLink RX3 23 "AssignmentDesk$Solver" "supposed" "[I" ∈ lw_all := in_all (i := 142) (by decide +kernel) rfl
theorem fk_RX3_26 : Cond.fieldLink RX3 26 "AssignmentDesk$Solver" "ways" "[I" ∈ lw_all := in_all (i := 143) (by decide +kernel) rfl
theorem fk_RX3_29 : Cond.fieldLink RX3 29 "AssignmentDesk$Solver" "kept" "[I" ∈ lw_all := in_all (i := 144) (by decide +kernel) rfl
theorem fk_RX5_150 : Cond.fieldLinkNest RX5 150 "AssignmentDesk$Solver" "kept" "[I" RX5 ∈ lw_nst := in_nst (i := 145) (by decide +kernel) rfl
theorem fk_RX2_25 : Cond.fieldLinkNest RX2 25 "AssignmentDesk$Solver" "fullScore" "I" RX5 ∈ lw_nst := in_nst (i := 146) (by decide +kernel) rfl
theorem fk_RX3_50 : Cond.fieldLink RX3 50 "AssignmentDesk$Solver" "fullScore" "I" ∈ lw_all := in_all (i := 147) (by decide +kernel) rfl
theorem fk_RX5_140 : Cond.fieldLinkNest RX5 140 "AssignmentDesk$Solver" "fullScore" "I" RX5 ∈ lw_nst := in_nst (i := 148) (by decide +kernel) rfl
theorem ck_RX5_30 : Cond.classLink RX5 30 RX2 ∈ lw_all := in_all (i := 166) (by decide +kernel) rfl
theorem nw_RX2 : Cond.instantiable RX2 2 ∈ lw_all := in_all (i := 167) (by decide +kernel) rfl
theorem lk_RX5_32 : Cond.methodLinkNest RX5 32 yX2_init RX5 ∈ lw_nst := in_nst (i := 168) (by decide +kernel) rfl
theorem lk_RX2_3 : Cond.methodLink RX2 3 objectInit ∈ lw_all := in_all (i := 171) (by decide +kernel) rfl
theorem ck_RX2_9 : Cond.classLink RX2 9 RX0 ∈ lw_all := in_all (i := 172) (by decide +kernel) rfl
theorem nw_RX0 : Cond.instantiable RX0 5 ∈ lw_all := in_all (i := 173) (by decide +kernel) rfl
theorem lk_RX2_11 : Cond.methodLinkNest RX2 11 yX0_init RX5 ∈ lw_nst := in_nst (i := 174) (by decide +kernel) rfl
theorem lk_RX0_3 : Cond.methodLink RX0 3 objectInit ∈ lw_all := in_all (i := 177) (by decide +kernel) rfl
theorem fk_RX0_9 : Cond.fieldLink RX0 9 "AssignmentDesk$Beginnings" "scores" "[I" ∈ lw_all := in_all (i := 178) (by decide +kernel) rfl
theorem fk_RX5_192 : Cond.fieldLinkNest RX5 192 "AssignmentDesk$Beginnings" "scores" "[I" RX5 ∈ lw_nst := in_nst (i := 179) (by decide +kernel) rfl
theorem fk_RX0_15 : Cond.fieldLink RX0 15 "AssignmentDesk$Beginnings" "paths" "[J" ∈ lw_all := in_all (i := 180) (by decide +kernel) rfl
theorem fk_RX2_41 : Cond.fieldLinkNest RX2 41 "AssignmentDesk$Beginnings" "paths" "[J" RX5 ∈ lw_nst := in_nst (i := 181) (by decide +kernel) rfl
theorem fk_RX5_195 : Cond.fieldLinkNest RX5 195 "AssignmentDesk$Beginnings" "paths" "[J" RX5 ∈ lw_nst := in_nst (i := 182) (by decide +kernel) rfl
theorem fk_RX0_19 : Cond.fieldLink RX0 19 "AssignmentDesk$Beginnings" "pasts" "[I" ∈ lw_all := in_all (i := 183) (by decide +kernel) rfl
theorem fk_RX2_45 : Cond.fieldLinkNest RX2 45 "AssignmentDesk$Beginnings" "pasts" "[I" RX5 ∈ lw_nst := in_nst (i := 184) (by decide +kernel) rfl
theorem fk_RX0_22 : Cond.fieldLink RX0 22 "AssignmentDesk$Beginnings" "frees" "[I" ∈ lw_all := in_all (i := 185) (by decide +kernel) rfl
theorem fk_RX2_49 : Cond.fieldLinkNest RX2 49 "AssignmentDesk$Beginnings" "frees" "[I" RX5 ∈ lw_nst := in_nst (i := 186) (by decide +kernel) rfl
theorem fk_RX0_25 : Cond.fieldLink RX0 25 "AssignmentDesk$Beginnings" "count" "I" ∈ lw_all := in_all (i := 187) (by decide +kernel) rfl
theorem fk_RX2_21 : Cond.fieldLinkNest RX2 21 "AssignmentDesk$Beginnings" "count" "I" RX5 ∈ lw_nst := in_nst (i := 188) (by decide +kernel) rfl
theorem fk_RX5_184 : Cond.fieldLinkNest RX5 184 "AssignmentDesk$Beginnings" "count" "I" RX5 ∈ lw_nst := in_nst (i := 189) (by decide +kernel) rfl
theorem fk_RX2_12 : Cond.fieldLink RX2 12 "AssignmentDesk$Ranking" "found" "LAssignmentDesk$Beginnings;" ∈ lw_all := in_all (i := 202) (by decide +kernel) rfl
theorem fk_RX5_180 : Cond.fieldLinkNest RX5 180 "AssignmentDesk$Ranking" "found" "LAssignmentDesk$Beginnings;" RX5 ∈ lw_nst := in_nst (i := 203) (by decide +kernel) rfl
theorem fk_RX2_18 : Cond.fieldLink RX2 18 "AssignmentDesk$Ranking" "longer" "LAssignmentDesk$Beginnings;" ∈ lw_all := in_all (i := 204) (by decide +kernel) rfl
theorem fk_RX5_12 : Cond.fieldLink RX5 12 "AssignmentDesk" "table" "LAssignmentDesk$Table;" ∈ lw_all := in_all (i := 210) (by decide +kernel) rfl
theorem fk_RX5_19 : Cond.fieldLink RX5 19 "AssignmentDesk" "levels" "LAssignmentDesk$Levels;" ∈ lw_all := in_all (i := 211) (by decide +kernel) rfl
theorem fk_RX5_26 : Cond.fieldLink RX5 26 "AssignmentDesk" "solver" "LAssignmentDesk$Solver;" ∈ lw_all := in_all (i := 212) (by decide +kernel) rfl
theorem fk_RX5_33 : Cond.fieldLink RX5 33 "AssignmentDesk" "ranking" "LAssignmentDesk$Ranking;" ∈ lw_all := in_all (i := 213) (by decide +kernel) rfl
theorem fk_RX5_48 : Cond.fieldLink RX5 48 "AssignmentDesk" "isSolved" "Z" ∈ lw_all := in_all (i := 214) (by decide +kernel) rfl
theorem lk_RL_132 : Cond.methodLink RL 132 yX5_rowCount ∈ lw_all := in_all (i := 226) (by decide +kernel) rfl
theorem lk_RL_136 : Cond.methodLink RL 136 yX5_columnCount ∈ lw_all := in_all (i := 230) (by decide +kernel) rfl
theorem lk_RL_146 : Cond.methodLink RL 146 yX5_size ∈ lw_all := in_all (i := 234) (by decide +kernel) rfl
theorem lk_RX5_136 : Cond.methodLink RX5 136 yX5_solved ∈ lw_all := in_all (i := 238) (by decide +kernel) rfl
theorem lk_RX5_240 : Cond.methodLink RX5 240 yX3_solve ∈ lw_all := in_all (i := 242) (by decide +kernel) rfl
theorem lk_RX3_38 : Cond.methodLink RX3 38 yX3_read ∈ lw_all := in_all (i := 246) (by decide +kernel) rfl
theorem lk_RX3_61 : Cond.methodLink RX3 61 yX4_usableColumns ∈ lw_all := in_all (i := 250) (by decide +kernel) rfl
theorem lk_RX4_46 : Cond.methodLink RX4 46 yX4_isUsable ∈ lw_all := in_all (i := 254) (by decide +kernel) rfl
theorem lk_RX4_38 : Cond.methodLinkNest RX4 38 yX5_hasBit RX5 ∈ lw_nst := in_nst (i := 258) (by decide +kernel) rfl
theorem lk_RX4_42 : Cond.methodLink RX4 42 yX4_cell ∈ lw_all := in_all (i := 261) (by decide +kernel) rfl
theorem lk_RX4_28 : Cond.methodLinkNest RX4 28 yX5_withBit RX5 ∈ lw_nst := in_nst (i := 265) (by decide +kernel) rfl
theorem lk_RX3_64 : Cond.methodLink RX3 64 yX4_cell ∈ lw_all := in_all (i := 268) (by decide +kernel) rfl
theorem nk_RX3_33 : Cond.constant RX3 33 (1000000) ∈ lw_all := in_all (i := 269) (by decide +kernel) rfl
theorem lk_RX3_42 : Cond.methodLink RX3 42 yX3_fillRow ∈ lw_all := in_all (i := 270) (by decide +kernel) rfl
theorem lk_RX3_68 : Cond.methodLink RX3 68 yX3_canBeLeft ∈ lw_all := in_all (i := 274) (by decide +kernel) rfl
theorem lk_RX3_76 : Cond.methodLink RX3 76 yJ6_bitCount_0f7a4 ∈ lw_all := in_all (i := 278) (by decide +kernel) rfl
theorem nk_RJ6_265 : Cond.constant RJ6 265 (1431655765) ∈ lw_all := in_all (i := 281) (by decide +kernel) rfl
theorem nk_RJ6_266 : Cond.constant RJ6 266 (858993459) ∈ lw_all := in_all (i := 282) (by decide +kernel) rfl
theorem nk_RJ6_267 : Cond.constant RJ6 267 (252645135) ∈ lw_all := in_all (i := 283) (by decide +kernel) rfl
theorem lk_RX3_72 : Cond.methodLink RX3 72 yX3_leastFrom ∈ lw_all := in_all (i := 284) (by decide +kernel) rfl
theorem lk_RX3_81 : Cond.methodLinkNest RX3 81 yX5_hasBit RX5 ∈ lw_nst := in_nst (i := 288) (by decide +kernel) rfl
theorem lk_RX3_84 : Cond.methodLinkNest RX3 84 yX5_withBit RX5 ∈ lw_nst := in_nst (i := 289) (by decide +kernel) rfl
theorem lk_RX3_88 : Cond.methodLink RX3 88 Lib.Math.min.name ∈ lw_all := in_all (i := 290) (by decide +kernel) rfl
theorem lk_RX3_53 : Cond.methodLink RX3 53 yX3_keepFirst ∈ lw_all := in_all (i := 293) (by decide +kernel) rfl
theorem lk_RX3_93 : Cond.methodLink RX3 93 yX3_firstOptimal ∈ lw_all := in_all (i := 297) (by decide +kernel) rfl
theorem lk_RX3_96 : Cond.methodLink RX3 96 yX3_isOptimal ∈ lw_all := in_all (i := 301) (by decide +kernel) rfl
theorem lk_RX5_143 : Cond.methodLink RX5 143 yX3_sizeOf ∈ lw_all := in_all (i := 305) (by decide +kernel) rfl
theorem nk_RX3_32 : Cond.constant RX3 32 (500000) ∈ lw_all := in_all (i := 308) (by decide +kernel) rfl
theorem lk_RL_150 : Cond.methodLink RL 150 yX5_total ∈ lw_all := in_all (i := 309) (by decide +kernel) rfl
theorem lk_RX5_147 : Cond.methodLink RX5 147 yX3_costOf ∈ lw_all := in_all (i := 313) (by decide +kernel) rfl
theorem lk_RX3_34 : Cond.methodLink RX3 34 yX3_sizeOf ∈ lw_all := in_all (i := 316) (by decide +kernel) rfl
theorem lk_RL_154 : Cond.methodLink RL 154 yX5_meanCost ∈ lw_all := in_all (i := 317) (by decide +kernel) rfl
theorem lk_RL_166 : Cond.methodLink RL 166 yX5_optimalCount ∈ lw_all := in_all (i := 321) (by decide +kernel) rfl
theorem lk_RX5_154 : Cond.methodLink RX5 154 yX3_countOptimal ∈ lw_all := in_all (i := 325) (by decide +kernel) rfl
theorem lk_RX3_100 : Cond.methodLink RX3 100 yJ7_fill_53178 ∈ lw_all := in_all (i := 329) (by decide +kernel) rfl
theorem lk_RX3_106 : Cond.methodLink RX3 106 yX3_spreadWays ∈ lw_all := in_all (i := 330) (by decide +kernel) rfl
theorem lk_RL_200 : Cond.methodLink RL 200 yX5_digest ∈ lw_all := in_all (i := 334) (by decide +kernel) rfl
theorem nk_RX5_215 : Cond.constantLong RX5 215 (41) ∈ lw_all := in_all (i := 338) (by decide +kernel) rfl
theorem nk_RX5_217 : Cond.constantLong RX5 217 (31) ∈ lw_all := in_all (i := 339) (by decide +kernel) rfl
theorem lk_RX5_219 : Cond.methodLink RX5 219 yX4_addTo ∈ lw_all := in_all (i := 340) (by decide +kernel) rfl
theorem nk_RX4_59 : Cond.constantLong RX4 59 (31) ∈ lw_all := in_all (i := 344) (by decide +kernel) rfl
theorem lk_RX5_223 : Cond.methodLink RX5 223 yX3_addTo ∈ lw_all := in_all (i := 345) (by decide +kernel) rfl
theorem nk_RX3_114 : Cond.constantLong RX3 114 (31) ∈ lw_all := in_all (i := 349) (by decide +kernel) rfl
theorem lk_RX3_116 : Cond.methodLink RX3 116 yX3_costOf ∈ lw_all := in_all (i := 350) (by decide +kernel) rfl
theorem lk_RL_96 : Cond.methodLink RL 96 yL_addRow ∈ lw_all := in_all (i := 351) (by decide +kernel) rfl
theorem ck_RL_13 : Cond.classLink RL 13 "java/lang/IllegalStateException" ∈ lw_all := in_all (i := 354) (by decide +kernel) rfl
theorem lk_RL_7 : Cond.methodLink RL 7 yX5_addRow ∈ lw_all := in_all (i := 355) (by decide +kernel) rfl
theorem ck_RX5_41 : Cond.classLink RX5 41 "java/lang/IllegalStateException" ∈ lw_all := in_all (i := 359) (by decide +kernel) rfl
theorem nw_Qjava_lang_IllegalStateException : Cond.instantiable "java/lang/IllegalStateException" 6 ∈ lw_all := in_all (i := 360) (by decide +kernel) rfl
theorem fk_Qjava_lang_Throwable_198 : Cond.fieldLink "java/lang/Throwable" 198 "java/lang/Throwable" "backtrace" "Ljava/lang/Object;" ∈ lw_all := in_all (i := 380) (by decide +kernel) rfl
theorem lk_Qjava_lang_Throwable_1 : Cond.methodLink "java/lang/Throwable" 1 objectInit ∈ lw_all := in_all (i := 384) (by decide +kernel) rfl
theorem fk_Qjava_lang_Throwable_13 : Cond.fieldLink "java/lang/Throwable" 13 "java/lang/Throwable" "UNASSIGNED_STACK" "[Ljava/lang/StackTraceElement;" ∈ lw_all := in_all (i := 385) (by decide +kernel) rfl
theorem fk_Qjava_lang_Throwable_20 : Cond.fieldLink "java/lang/Throwable" 20 "java/lang/Throwable" "SUPPRESSED_SENTINEL" "Ljava/util/List;" ∈ lw_all := in_all (i := 387) (by decide +kernel) rfl
theorem lk_Qjava_lang_Throwable_27 : Cond.methodLink "java/lang/Throwable" 27 ⟨"java/lang/Throwable", "fillInStackTrace", "()Ljava/lang/Throwable;"⟩ ∈ lw_all := in_all (i := 389) (by decide +kernel) rfl
theorem lk_Qjava_lang_Throwable_202 : Cond.methodLink "java/lang/Throwable" 202 ⟨"java/lang/Throwable", "fillInStackTrace", "(I)Ljava/lang/Throwable;"⟩ ∈ lw_all := in_all (i := 398) (by decide +kernel) rfl
theorem nw_Qjava_lang_Throwable : Cond.instantiable "java/lang/Throwable" 6 ∈ lw_all := in_all (i := 401) (by decide +kernel) rfl
theorem sk_RX5_43 : Cond.stringRef RX5 43 "there are 10 rows" ∈ lw_str := in_str (i := 403) (by decide +kernel) rfl
theorem lk_RX5_45 : Cond.methodLink RX5 45 ⟨"java/lang/IllegalStateException", "<init>", "(Ljava/lang/String;)V"⟩ ∈ lw_all := in_all (i := 404) (by decide +kernel) rfl
theorem lk_Qjava_lang_IllegalStateException_7 : Cond.methodLink "java/lang/IllegalStateException" 7 ⟨"java/lang/RuntimeException", "<init>", "(Ljava/lang/String;)V"⟩ ∈ lw_all := in_all (i := 407) (by decide +kernel) rfl
theorem lk_Qjava_lang_RuntimeException_7 : Cond.methodLink "java/lang/RuntimeException" 7 ⟨"java/lang/Exception", "<init>", "(Ljava/lang/String;)V"⟩ ∈ lw_all := in_all (i := 410) (by decide +kernel) rfl
theorem lk_Qjava_lang_Exception_7 : Cond.methodLink "java/lang/Exception" 7 ⟨"java/lang/Throwable", "<init>", "(Ljava/lang/String;)V"⟩ ∈ lw_all := in_all (i := 413) (by decide +kernel) rfl
theorem fk_Qjava_lang_Throwable_31 : Cond.fieldLink "java/lang/Throwable" 31 "java/lang/Throwable" "detailMessage" "Ljava/lang/String;" ∈ lw_all := in_all (i := 417) (by decide +kernel) rfl
theorem fk_Qjava_lang_Throwable_7 : Cond.fieldLink "java/lang/Throwable" 7 "java/lang/Throwable" "cause" "Ljava/lang/Throwable;" ∈ lw_all := in_all (i := 418) (by decide +kernel) rfl
theorem fk_Qjava_lang_Throwable_17 : Cond.fieldLink "java/lang/Throwable" 17 "java/lang/Throwable" "stackTrace" "[Ljava/lang/StackTraceElement;" ∈ lw_all := in_all (i := 419) (by decide +kernel) rfl
theorem fk_Qjava_lang_Throwable_24 : Cond.fieldLink "java/lang/Throwable" 24 "java/lang/Throwable" "suppressedExceptions" "Ljava/util/List;" ∈ lw_all := in_all (i := 420) (by decide +kernel) rfl
theorem lk_RX5_52 : Cond.methodLink RX5 52 yX4_appendRow ∈ lw_all := in_all (i := 430) (by decide +kernel) rfl
theorem lk_RL_105 : Cond.methodLink RL 105 yL_addColumn ∈ lw_all := in_all (i := 434) (by decide +kernel) rfl
theorem lk_RL_15 : Cond.methodLink RL 15 yX5_addColumn ∈ lw_all := in_all (i := 437) (by decide +kernel) rfl
theorem sk_RX5_59 : Cond.stringRef RX5 59 "there are 10 columns" ∈ lw_str := in_str (i := 441) (by decide +kernel) rfl
theorem lk_RX5_61 : Cond.methodLink RX5 61 yX4_appendColumn ∈ lw_all := in_all (i := 442) (by decide +kernel) rfl
theorem lk_RL_108 : Cond.methodLink RL 108 yL_setRow ∈ lw_all := in_all (i := 446) (by decide +kernel) rfl
theorem ck_RL_22 : Cond.classLink RL 22 "java/lang/IndexOutOfBoundsException" ∈ lw_all := in_all (i := 449) (by decide +kernel) rfl
theorem nw_RJx00060 : Cond.instantiable RJx00060 6 ∈ lw_all := in_all (i := 450) (by decide +kernel) rfl
theorem lk_RJx00060_7 : Cond.methodLink RJx00060 7 ⟨"java/lang/IndexOutOfBoundsException", "<init>", "(Ljava/lang/String;)V"⟩ ∈ lw_all := in_all (i := 453) (by decide +kernel) rfl
theorem lk_Qjava_lang_IndexOutOfBoundsException_7 : Cond.methodLink "java/lang/IndexOutOfBoundsException" 7 ⟨"java/lang/RuntimeException", "<init>", "(Ljava/lang/String;)V"⟩ ∈ lw_all := in_all (i := 456) (by decide +kernel) rfl
theorem nw_RJ0 : Cond.instantiable RJ0 4 ∈ lw_all := in_all (i := 468) (by decide +kernel) rfl
theorem lk_RL_18 : Cond.methodLink RL 18 yX5_setRow ∈ lw_all := in_all (i := 473) (by decide +kernel) rfl
theorem lk_RX5_64 : Cond.methodLink RX5 64 yX5_requireRow ∈ lw_all := in_all (i := 477) (by decide +kernel) rfl
theorem ck_RX5_226 : Cond.classLink RX5 226 "java/lang/IndexOutOfBoundsException" ∈ lw_all := in_all (i := 481) (by decide +kernel) rfl
theorem nw_Qjava_lang_IndexOutOfBoundsException : Cond.instantiable "java/lang/IndexOutOfBoundsException" 6 ∈ lw_all := in_all (i := 482) (by decide +kernel) rfl
theorem sk_RX5_228 : Cond.stringRef RX5 228 "there is no such row" ∈ lw_str := in_str (i := 490) (by decide +kernel) rfl
theorem lk_RX5_230 : Cond.methodLink RX5 230 ⟨"java/lang/IndexOutOfBoundsException", "<init>", "(Ljava/lang/String;)V"⟩ ∈ lw_all := in_all (i := 491) (by decide +kernel) rfl
theorem lk_RX5_71 : Cond.methodLink RX5 71 yX5_hasBit ∈ lw_all := in_all (i := 494) (by decide +kernel) rfl
theorem lk_RX5_75 : Cond.methodLink RX5 75 yX5_withBit ∈ lw_all := in_all (i := 495) (by decide +kernel) rfl
theorem lk_RL_112 : Cond.methodLink RL 112 yL_setColumn ∈ lw_all := in_all (i := 496) (by decide +kernel) rfl
theorem lk_RL_24 : Cond.methodLink RL 24 yX5_setColumn ∈ lw_all := in_all (i := 499) (by decide +kernel) rfl
theorem lk_RX5_79 : Cond.methodLink RX5 79 yX5_requireColumn ∈ lw_all := in_all (i := 503) (by decide +kernel) rfl
theorem sk_RX5_231 : Cond.stringRef RX5 231 "there is no such column" ∈ lw_str := in_str (i := 507) (by decide +kernel) rfl
theorem lk_RL_115 : Cond.methodLink RL 115 yL_setCost ∈ lw_all := in_all (i := 508) (by decide +kernel) rfl
theorem ck_RL_31 : Cond.classLink RL 31 "java/lang/IllegalArgumentException" ∈ lw_all := in_all (i := 511) (by decide +kernel) rfl
theorem lk_RL_27 : Cond.methodLink RL 27 yX5_setCost ∈ lw_all := in_all (i := 512) (by decide +kernel) rfl
theorem lk_RX5_85 : Cond.methodLink RX5 85 yX5_requirePair ∈ lw_all := in_all (i := 516) (by decide +kernel) rfl
theorem lk_RX5_89 : Cond.methodLink RX5 89 yX5_isCost ∈ lw_all := in_all (i := 520) (by decide +kernel) rfl
theorem nk_RX5_243 : Cond.constantLong RX5 243 (-10000) ∈ lw_all := in_all (i := 523) (by decide +kernel) rfl
theorem nk_RX5_245 : Cond.constantLong RX5 245 (10000) ∈ lw_all := in_all (i := 524) (by decide +kernel) rfl
theorem ck_RX5_93 : Cond.classLink RX5 93 "java/lang/IllegalArgumentException" ∈ lw_all := in_all (i := 525) (by decide +kernel) rfl
theorem nw_Qjava_lang_IllegalArgumentException : Cond.instantiable "java/lang/IllegalArgumentException" 6 ∈ lw_all := in_all (i := 526) (by decide +kernel) rfl
theorem sk_RX5_95 : Cond.stringRef RX5 95 "the cost is not from -10000 to 10000" ∈ lw_str := in_str (i := 534) (by decide +kernel) rfl
theorem lk_RX5_97 : Cond.methodLink RX5 97 ⟨"java/lang/IllegalArgumentException", "<init>", "(Ljava/lang/String;)V"⟩ ∈ lw_all := in_all (i := 535) (by decide +kernel) rfl
theorem lk_Qjava_lang_IllegalArgumentException_7 : Cond.methodLink "java/lang/IllegalArgumentException" 7 ⟨"java/lang/RuntimeException", "<init>", "(Ljava/lang/String;)V"⟩ ∈ lw_all := in_all (i := 538) (by decide +kernel) rfl
theorem lk_RX5_98 : Cond.methodLink RX5 98 yX5_replaceCell ∈ lw_all := in_all (i := 541) (by decide +kernel) rfl
theorem lk_RX5_128 : Cond.methodLink RX5 128 yX4_cell ∈ lw_all := in_all (i := 545) (by decide +kernel) rfl
theorem lk_RL_119 : Cond.methodLink RL 119 yL_forbid ∈ lw_all := in_all (i := 546) (by decide +kernel) rfl
theorem lk_RL_33 : Cond.methodLink RL 33 yX5_forbid ∈ lw_all := in_all (i := 549) (by decide +kernel) rfl
theorem lk_RL_123 : Cond.methodLink RL 123 yL_addToRow ∈ lw_all := in_all (i := 553) (by decide +kernel) rfl
theorem ck_RL_41 : Cond.classLink RL 41 "java/lang/ArithmeticException" ∈ lw_all := in_all (i := 556) (by decide +kernel) rfl
theorem nw_Qjava_lang_ArithmeticException : Cond.instantiable "java/lang/ArithmeticException" 6 ∈ lw_all := in_all (i := 557) (by decide +kernel) rfl
theorem lk_Qjava_lang_ArithmeticException_7 : Cond.methodLink "java/lang/ArithmeticException" 7 ⟨"java/lang/RuntimeException", "<init>", "(Ljava/lang/String;)V"⟩ ∈ lw_all := in_all (i := 560) (by decide +kernel) rfl
theorem lk_RL_37 : Cond.methodLink RL 37 yX5_addToRow ∈ lw_all := in_all (i := 570) (by decide +kernel) rfl
theorem lk_RX5_102 : Cond.methodLink RX5 102 yX4_canShiftRow ∈ lw_all := in_all (i := 574) (by decide +kernel) rfl
theorem lk_RX4_49 : Cond.methodLinkNest RX4 49 yX5_isCost RX5 ∈ lw_nst := in_nst (i := 578) (by decide +kernel) rfl
theorem ck_RX5_105 : Cond.classLink RX5 105 "java/lang/ArithmeticException" ∈ lw_all := in_all (i := 579) (by decide +kernel) rfl
theorem sk_RX5_107 : Cond.stringRef RX5 107 "a cost would not be from -10000 to 10000" ∈ lw_str := in_str (i := 580) (by decide +kernel) rfl
theorem lk_RX5_109 : Cond.methodLink RX5 109 ⟨"java/lang/ArithmeticException", "<init>", "(Ljava/lang/String;)V"⟩ ∈ lw_all := in_all (i := 581) (by decide +kernel) rfl
theorem lk_RX5_110 : Cond.methodLink RX5 110 yX4_shiftRow ∈ lw_all := in_all (i := 582) (by decide +kernel) rfl
theorem lk_RL_128 : Cond.methodLink RL 128 yL_scaleColumn ∈ lw_all := in_all (i := 586) (by decide +kernel) rfl
theorem lk_RL_43 : Cond.methodLink RL 43 yX5_scaleColumn ∈ lw_all := in_all (i := 589) (by decide +kernel) rfl
theorem nk_RX5_114 : Cond.constantDouble RX5 114 (13860109328209412096) ∈ lw_all := in_all (i := 593) (by decide +kernel) rfl
theorem nk_RX5_116 : Cond.constantDouble RX5 116 (4636737291354636288) ∈ lw_all := in_all (i := 594) (by decide +kernel) rfl
theorem sk_RX5_118 : Cond.stringRef RX5 118 "the factor is not from -100 to 100" ∈ lw_str := in_str (i := 595) (by decide +kernel) rfl
theorem lk_RX5_120 : Cond.methodLink RX5 120 yX4_canStretchColumn ∈ lw_all := in_all (i := 596) (by decide +kernel) rfl
theorem lk_RX4_53 : Cond.methodLink RX4 53 yX4_nearest ∈ lw_all := in_all (i := 600) (by decide +kernel) rfl
theorem nk_RX4_57 : Cond.constantDouble RX4 57 (4602678819172646912) ∈ lw_all := in_all (i := 603) (by decide +kernel) rfl
theorem lk_RX5_124 : Cond.methodLink RX5 124 yX4_stretchColumn ∈ lw_all := in_all (i := 604) (by decide +kernel) rfl
theorem lk_RL_140 : Cond.methodLink RL 140 yL_isAllowed ∈ lw_all := in_all (i := 608) (by decide +kernel) rfl
theorem lk_RL_47 : Cond.methodLink RL 47 yX5_isAllowed ∈ lw_all := in_all (i := 611) (by decide +kernel) rfl
theorem lk_RL_143 : Cond.methodLink RL 143 yL_cost ∈ lw_all := in_all (i := 615) (by decide +kernel) rfl
theorem ck_RL_53 : Cond.classLink RL 53 "java/util/NoSuchElementException" ∈ lw_all := in_all (i := 618) (by decide +kernel) rfl
theorem lk_RL_50 : Cond.methodLink RL 50 yX5_cost ∈ lw_all := in_all (i := 619) (by decide +kernel) rfl
theorem ck_RX5_131 : Cond.classLink RX5 131 "java/util/NoSuchElementException" ∈ lw_all := in_all (i := 623) (by decide +kernel) rfl
theorem nw_Qjava_util_NoSuchElementException : Cond.instantiable "java/util/NoSuchElementException" 6 ∈ lw_all := in_all (i := 624) (by decide +kernel) rfl
theorem sk_RX5_133 : Cond.stringRef RX5 133 "the pair is forbidden" ∈ lw_str := in_str (i := 632) (by decide +kernel) rfl
theorem lk_RX5_135 : Cond.methodLink RX5 135 ⟨"java/util/NoSuchElementException", "<init>", "(Ljava/lang/String;)V"⟩ ∈ lw_all := in_all (i := 633) (by decide +kernel) rfl
theorem lk_Qjava_util_NoSuchElementException_13 : Cond.methodLink "java/util/NoSuchElementException" 13 ⟨"java/lang/RuntimeException", "<init>", "(Ljava/lang/String;)V"⟩ ∈ lw_all := in_all (i := 636) (by decide +kernel) rfl
theorem lk_RL_159 : Cond.methodLink RL 159 yL_columnOf ∈ lw_all := in_all (i := 639) (by decide +kernel) rfl
theorem lk_RL_55 : Cond.methodLink RL 55 yX5_columnOf ∈ lw_all := in_all (i := 642) (by decide +kernel) rfl
theorem lk_RL_163 : Cond.methodLink RL 163 yL_rowOf ∈ lw_all := in_all (i := 646) (by decide +kernel) rfl
theorem lk_RL_59 : Cond.methodLink RL 59 yX5_rowOf ∈ lw_all := in_all (i := 649) (by decide +kernel) rfl
theorem lk_RL_170 : Cond.methodLink RL 170 yL_isPossible ∈ lw_all := in_all (i := 653) (by decide +kernel) rfl
theorem lk_RL_62 : Cond.methodLink RL 62 yX5_isPossible ∈ lw_all := in_all (i := 656) (by decide +kernel) rfl
theorem lk_RX5_157 : Cond.methodLink RX5 157 yX4_isUsable ∈ lw_all := in_all (i := 660) (by decide +kernel) rfl
theorem lk_RX5_160 : Cond.methodLink RX5 160 yX3_extraCostWith ∈ lw_all := in_all (i := 661) (by decide +kernel) rfl
theorem nk_RX3_110 : Cond.constant RX3 110 (100000000) ∈ lw_all := in_all (i := 665) (by decide +kernel) rfl
theorem lk_RX3_111 : Cond.methodLink RX3 111 yX3_extraCostOfSupposed ∈ lw_all := in_all (i := 666) (by decide +kernel) rfl
theorem lk_RL_173 : Cond.methodLink RL 173 yL_isCertain ∈ lw_all := in_all (i := 670) (by decide +kernel) rfl
theorem lk_RL_65 : Cond.methodLink RL 65 yX5_isCertain ∈ lw_all := in_all (i := 673) (by decide +kernel) rfl
theorem lk_RX5_163 : Cond.methodLink RX5 163 yX3_extraCostWithout ∈ lw_all := in_all (i := 677) (by decide +kernel) rfl
theorem lk_RL_176 : Cond.methodLink RL 176 yL_regret ∈ lw_all := in_all (i := 681) (by decide +kernel) rfl
theorem lk_RL_68 : Cond.methodLink RL 68 yX5_regret ∈ lw_all := in_all (i := 684) (by decide +kernel) rfl
theorem lk_RX5_166 : Cond.methodLink RX5 166 yX5_requireUsable ∈ lw_all := in_all (i := 688) (by decide +kernel) rfl
theorem sk_RX5_233 : Cond.stringRef RX5 233 "the pair is not usable" ∈ lw_str := in_str (i := 692) (by decide +kernel) rfl
theorem lk_RL_179 : Cond.methodLink RL 179 yL_loss ∈ lw_all := in_all (i := 693) (by decide +kernel) rfl
theorem lk_RL_71 : Cond.methodLink RL 71 yX5_loss ∈ lw_all := in_all (i := 696) (by decide +kernel) rfl
theorem lk_RL_182 : Cond.methodLink RL 182 yL_greatestCost ∈ lw_all := in_all (i := 700) (by decide +kernel) rfl
theorem lk_RL_74 : Cond.methodLink RL 74 yX5_greatestCost ∈ lw_all := in_all (i := 703) (by decide +kernel) rfl
theorem lk_RX5_169 : Cond.methodLink RX5 169 Lib.Math.min.name ∈ lw_all := in_all (i := 707) (by decide +kernel) rfl
theorem lk_RL_185 : Cond.methodLink RL 185 yL_rank ∈ lw_all := in_all (i := 708) (by decide +kernel) rfl
theorem lk_RL_77 : Cond.methodLink RL 77 yX5_rank ∈ lw_all := in_all (i := 711) (by decide +kernel) rfl
theorem sk_RX5_174 : Cond.stringRef RX5 174 "the limit is not from 1 to 30" ∈ lw_str := in_str (i := 715) (by decide +kernel) rfl
theorem lk_RX5_176 : Cond.methodLink RX5 176 yX2_findFirst ∈ lw_all := in_all (i := 716) (by decide +kernel) rfl
theorem lk_RX2_33 : Cond.methodLink RX2 33 yX0_offer ∈ lw_all := in_all (i := 720) (by decide +kernel) rfl
theorem lk_RX0_29 : Cond.methodLink RX0 29 yX0_isBefore ∈ lw_all := in_all (i := 724) (by decide +kernel) rfl
theorem lk_RX0_33 : Cond.methodLink RX0 33 yX0_moveBack ∈ lw_all := in_all (i := 728) (by decide +kernel) rfl
theorem lk_RX2_37 : Cond.methodLink RX2 37 yX2_extend ∈ lw_all := in_all (i := 732) (by decide +kernel) rfl
theorem nk_RX2_52 : Cond.constantLong RX2 52 (15) ∈ lw_all := in_all (i := 736) (by decide +kernel) rfl
theorem lk_RX2_54 : Cond.methodLink RX2 54 yX2_offerFull ∈ lw_all := in_all (i := 737) (by decide +kernel) rfl
theorem lk_RX2_76 : Cond.methodLink RX2 76 yX3_sizeOf ∈ lw_all := in_all (i := 741) (by decide +kernel) rfl
theorem lk_RX2_61 : Cond.methodLinkNest RX2 61 yX5_hasBit RX5 ∈ lw_nst := in_nst (i := 742) (by decide +kernel) rfl
theorem lk_RX2_68 : Cond.methodLinkNest RX2 68 yX5_withBit RX5 ∈ lw_nst := in_nst (i := 743) (by decide +kernel) rfl
theorem lk_RL_188 : Cond.methodLink RL 188 yL_rankedCost ∈ lw_all := in_all (i := 744) (by decide +kernel) rfl
theorem lk_RL_80 : Cond.methodLink RL 80 yX5_rankedCost ∈ lw_all := in_all (i := 747) (by decide +kernel) rfl
theorem lk_RX5_189 : Cond.methodLink RX5 189 yX5_requireRanked ∈ lw_all := in_all (i := 751) (by decide +kernel) rfl
theorem sk_RX5_235 : Cond.stringRef RX5 235 "there is no such index in the list" ∈ lw_str := in_str (i := 755) (by decide +kernel) rfl
theorem lk_RL_191 : Cond.methodLink RL 191 yL_rankedColumn ∈ lw_all := in_all (i := 756) (by decide +kernel) rfl
theorem lk_RL_83 : Cond.methodLink RL 83 yX5_rankedColumn ∈ lw_all := in_all (i := 759) (by decide +kernel) rfl
theorem lk_RX5_199 : Cond.methodLink RX5 199 yX2_columnIn ∈ lw_all := in_all (i := 763) (by decide +kernel) rfl
theorem lk_RL_194 : Cond.methodLink RL 194 yL_push ∈ lw_all := in_all (i := 766) (by decide +kernel) rfl
theorem lk_RL_86 : Cond.methodLink RL 86 yX5_push ∈ lw_all := in_all (i := 769) (by decide +kernel) rfl
theorem sk_RX5_204 : Cond.stringRef RX5 204 "there are 8 levels" ∈ lw_str := in_str (i := 773) (by decide +kernel) rfl
theorem lk_RX5_206 : Cond.methodLink RX5 206 yX1_store ∈ lw_all := in_all (i := 774) (by decide +kernel) rfl
theorem lk_RX1_28 : Cond.methodLink RX1 28 arraycopyName ∈ lw_all := in_all (i := 778) (by decide +kernel) rfl
theorem lk_RL_197 : Cond.methodLink RL 197 yL_pop ∈ lw_all := in_all (i := 781) (by decide +kernel) rfl
theorem lk_RL_89 : Cond.methodLink RL 89 yX5_pop ∈ lw_all := in_all (i := 784) (by decide +kernel) rfl
theorem sk_RX5_210 : Cond.stringRef RX5 210 "there is no level" ∈ lw_str := in_str (i := 788) (by decide +kernel) rfl
theorem lk_RX5_212 : Cond.methodLink RX5 212 yX1_restore ∈ lw_all := in_all (i := 789) (by decide +kernel) rfl
theorem ck_RL_93 : Cond.classLink RL 93 RX6 ∈ lw_all := in_all (i := 793) (by decide +kernel) rfl
theorem nw_RX6 : Cond.instantiable RX6 30 ∈ lw_all := in_all (i := 794) (by decide +kernel) rfl
theorem lk_RL_95 : Cond.methodLink RL 95 yX6_init ∈ lw_all := in_all (i := 795) (by decide +kernel) rfl
theorem lk_RX6_3 : Cond.methodLink RX6 3 objectInit ∈ lw_all := in_all (i := 798) (by decide +kernel) rfl
theorem fk_RX6_77 : Cond.fieldLink RX6 77 "AssignmentDeskModel" "thrown" "I" ∈ lw_all := in_all (i := 799) (by decide +kernel) rfl
theorem fk_RX6_81 : Cond.fieldLink RX6 81 "AssignmentDeskModel" "rows" "I" ∈ lw_all := in_all (i := 800) (by decide +kernel) rfl
theorem fk_RX6_84 : Cond.fieldLink RX6 84 "AssignmentDeskModel" "columns" "I" ∈ lw_all := in_all (i := 801) (by decide +kernel) rfl
theorem fk_RX6_9 : Cond.fieldLink RX6 9 "AssignmentDeskModel" "isRowActive" "[Z" ∈ lw_all := in_all (i := 802) (by decide +kernel) rfl
theorem fk_RX6_13 : Cond.fieldLink RX6 13 "AssignmentDeskModel" "isColumnActive" "[Z" ∈ lw_all := in_all (i := 803) (by decide +kernel) rfl
theorem fk_RX6_16 : Cond.fieldLink RX6 16 "AssignmentDeskModel" "isAllowed" "[Z" ∈ lw_all := in_all (i := 804) (by decide +kernel) rfl
theorem fk_RX6_19 : Cond.fieldLink RX6 19 "AssignmentDeskModel" "costs" "[I" ∈ lw_all := in_all (i := 805) (by decide +kernel) rfl
theorem fk_RX6_182 : Cond.fieldLink RX6 182 "AssignmentDeskModel" "levels" "I" ∈ lw_all := in_all (i := 806) (by decide +kernel) rfl
theorem fk_RX6_23 : Cond.fieldLink RX6 23 "AssignmentDeskModel" "levelRows" "[I" ∈ lw_all := in_all (i := 807) (by decide +kernel) rfl
theorem fk_RX6_26 : Cond.fieldLink RX6 26 "AssignmentDeskModel" "levelColumns" "[I" ∈ lw_all := in_all (i := 808) (by decide +kernel) rfl
theorem fk_RX6_29 : Cond.fieldLink RX6 29 "AssignmentDeskModel" "levelRowActive" "[Z" ∈ lw_all := in_all (i := 809) (by decide +kernel) rfl
theorem fk_RX6_32 : Cond.fieldLink RX6 32 "AssignmentDeskModel" "levelColumnActive" "[Z" ∈ lw_all := in_all (i := 810) (by decide +kernel) rfl
theorem fk_RX6_35 : Cond.fieldLink RX6 35 "AssignmentDeskModel" "levelAllowed" "[Z" ∈ lw_all := in_all (i := 811) (by decide +kernel) rfl
theorem fk_RX6_38 : Cond.fieldLink RX6 38 "AssignmentDeskModel" "levelCosts" "[I" ∈ lw_all := in_all (i := 812) (by decide +kernel) rfl
theorem fk_RX6_41 : Cond.fieldLink RX6 41 "AssignmentDeskModel" "sizes" "[I" ∈ lw_all := in_all (i := 813) (by decide +kernel) rfl
theorem fk_RX6_44 : Cond.fieldLink RX6 44 "AssignmentDeskModel" "least" "[I" ∈ lw_all := in_all (i := 814) (by decide +kernel) rfl
theorem fk_RX6_47 : Cond.fieldLink RX6 47 "AssignmentDeskModel" "ways" "[I" ∈ lw_all := in_all (i := 815) (by decide +kernel) rfl
theorem fk_RX6_50 : Cond.fieldLink RX6 50 "AssignmentDeskModel" "choices" "[I" ∈ lw_all := in_all (i := 816) (by decide +kernel) rfl
theorem fk_RX6_53 : Cond.fieldLink RX6 53 "AssignmentDeskModel" "chosen" "[I" ∈ lw_all := in_all (i := 817) (by decide +kernel) rfl
theorem fk_RX6_172 : Cond.fieldLink RX6 172 "AssignmentDeskModel" "listedMany" "I" ∈ lw_all := in_all (i := 818) (by decide +kernel) rfl
theorem fk_RX6_56 : Cond.fieldLink RX6 56 "AssignmentDeskModel" "listedCosts" "[I" ∈ lw_all := in_all (i := 819) (by decide +kernel) rfl
theorem fk_RX6_59 : Cond.fieldLink RX6 59 "AssignmentDeskModel" "listedColumns" "[I" ∈ lw_all := in_all (i := 820) (by decide +kernel) rfl
theorem fk_RX6_152 : Cond.fieldLink RX6 152 "AssignmentDeskModel" "isFull" "Z" ∈ lw_all := in_all (i := 821) (by decide +kernel) rfl
theorem fk_RX6_156 : Cond.fieldLink RX6 156 "AssignmentDeskModel" "cost" "I" ∈ lw_all := in_all (i := 822) (by decide +kernel) rfl
theorem fk_RX6_165 : Cond.fieldLink RX6 165 "AssignmentDeskModel" "parts" "I" ∈ lw_all := in_all (i := 823) (by decide +kernel) rfl
theorem fk_RX6_62 : Cond.fieldLink RX6 62 "AssignmentDeskModel" "partCosts" "[I" ∈ lw_all := in_all (i := 824) (by decide +kernel) rfl
theorem fk_RX6_65 : Cond.fieldLink RX6 65 "AssignmentDeskModel" "partChosen" "[I" ∈ lw_all := in_all (i := 825) (by decide +kernel) rfl
theorem fk_RX6_68 : Cond.fieldLink RX6 68 "AssignmentDeskModel" "partFixed" "[I" ∈ lw_all := in_all (i := 826) (by decide +kernel) rfl
theorem fk_RX6_71 : Cond.fieldLink RX6 71 "AssignmentDeskModel" "partAllowed" "[I" ∈ lw_all := in_all (i := 827) (by decide +kernel) rfl
theorem fk_RX6_74 : Cond.fieldLink RX6 74 "AssignmentDeskModel" "taken" "[I" ∈ lw_all := in_all (i := 828) (by decide +kernel) rfl
theorem lk_RL_102 : Cond.methodLink RL 102 yX6_thrown ∈ lw_all := in_all (i := 891) (by decide +kernel) rfl
theorem lk_RL_101 : Cond.methodLink RL 101 yX6_addRow ∈ lw_all := in_all (i := 895) (by decide +kernel) rfl
theorem lk_RX6_98 : Cond.methodLink RX6 98 yX6_fail ∈ lw_all := in_all (i := 899) (by decide +kernel) rfl
theorem lk_RL_107 : Cond.methodLink RL 107 yX6_addColumn ∈ lw_all := in_all (i := 903) (by decide +kernel) rfl
theorem lk_RL_111 : Cond.methodLink RL 111 yX6_setRow ∈ lw_all := in_all (i := 907) (by decide +kernel) rfl
theorem lk_RX6_87 : Cond.methodLink RX6 87 yX6_isRow ∈ lw_all := in_all (i := 911) (by decide +kernel) rfl
theorem lk_RX6_102 : Cond.methodLink RX6 102 yX6_failed ∈ lw_all := in_all (i := 915) (by decide +kernel) rfl
theorem lk_RL_114 : Cond.methodLink RL 114 yX6_setColumn ∈ lw_all := in_all (i := 919) (by decide +kernel) rfl
theorem lk_RX6_91 : Cond.methodLink RX6 91 yX6_isColumn ∈ lw_all := in_all (i := 923) (by decide +kernel) rfl
theorem lk_RL_118 : Cond.methodLink RL 118 yX6_setCost ∈ lw_all := in_all (i := 927) (by decide +kernel) rfl
theorem lk_RX6_105 : Cond.methodLink RX6 105 yX6_isPair ∈ lw_all := in_all (i := 931) (by decide +kernel) rfl
theorem lk_RX6_109 : Cond.methodLink RX6 109 yX6_isCost ∈ lw_all := in_all (i := 935) (by decide +kernel) rfl
theorem nk_RX6_94 : Cond.constantLong RX6 94 (-10000) ∈ lw_all := in_all (i := 938) (by decide +kernel) rfl
theorem nk_RX6_96 : Cond.constantLong RX6 96 (10000) ∈ lw_all := in_all (i := 939) (by decide +kernel) rfl
theorem lk_RL_122 : Cond.methodLink RL 122 yX6_forbid ∈ lw_all := in_all (i := 940) (by decide +kernel) rfl
theorem lk_RL_125 : Cond.methodLink RL 125 yX6_addToRow ∈ lw_all := in_all (i := 944) (by decide +kernel) rfl
theorem lk_RL_131 : Cond.methodLink RL 131 yX6_scaleColumn ∈ lw_all := in_all (i := 948) (by decide +kernel) rfl
theorem nk_RX6_113 : Cond.constantDouble RX6 113 (13860109328209412096) ∈ lw_all := in_all (i := 952) (by decide +kernel) rfl
theorem nk_RX6_115 : Cond.constantDouble RX6 115 (4636737291354636288) ∈ lw_all := in_all (i := 953) (by decide +kernel) rfl
theorem lk_RX6_117 : Cond.methodLink RX6 117 yJ9_rint_294c1 ∈ lw_all := in_all (i := 954) (by decide +kernel) rfl
theorem lk_RJ9_59 : Cond.methodLink RJ9 59 yJxfc994_rint_294c1 ∈ lw_all := in_all (i := 957) (by decide +kernel) rfl
theorem nk_RJxfc994_93 : Cond.constantDouble RJxfc994 93 (4841369599423283200) ∈ lw_all := in_all (i := 960) (by decide +kernel) rfl
theorem lk_RJxfc994_95 : Cond.methodLink RJxfc994 95 yJ9_copySign_eb370 ∈ lw_all := in_all (i := 961) (by decide +kernel) rfl
theorem lk_RJ9_79 : Cond.methodLink RJ9 79 ⟨"java/lang/Double", "doubleToRawLongBits", "(D)J"⟩ ∈ lw_all := in_all (i := 964) (by decide +kernel) rfl
theorem nk_RJ9_128 : Cond.constantLong RJ9 128 (-9223372036854775808) ∈ lw_all := in_all (i := 967) (by decide +kernel) rfl
theorem nk_RJ9_135 : Cond.constantLong RJ9 135 (9223372036854775807) ∈ lw_all := in_all (i := 968) (by decide +kernel) rfl
theorem lk_RJ9_166 : Cond.methodLink RJ9 166 ⟨"java/lang/Double", "longBitsToDouble", "(J)D"⟩ ∈ lw_all := in_all (i := 969) (by decide +kernel) rfl
theorem lk_RJxfc994_98 : Cond.methodLink RJxfc994 98 yJ9_abs_294c1 ∈ lw_all := in_all (i := 972) (by decide +kernel) rfl
theorem lk_RL_135 : Cond.methodLink RL 135 yX6_rowCount ∈ lw_all := in_all (i := 975) (by decide +kernel) rfl
theorem lk_RL_139 : Cond.methodLink RL 139 yX6_columnCount ∈ lw_all := in_all (i := 979) (by decide +kernel) rfl
theorem lk_RL_142 : Cond.methodLink RL 142 yX6_isAllowed ∈ lw_all := in_all (i := 983) (by decide +kernel) rfl
theorem lk_RL_145 : Cond.methodLink RL 145 yX6_cost ∈ lw_all := in_all (i := 987) (by decide +kernel) rfl
theorem lk_RL_149 : Cond.methodLink RL 149 yX6_size ∈ lw_all := in_all (i := 991) (by decide +kernel) rfl
theorem lk_RX6_146 : Cond.methodLink RX6 146 yX6_solve ∈ lw_all := in_all (i := 995) (by decide +kernel) rfl
theorem lk_RX6_141 : Cond.methodLink RX6 141 yX6_setChoices ∈ lw_all := in_all (i := 999) (by decide +kernel) rfl
theorem lk_RX6_123 : Cond.methodLink RX6 123 yX6_isUsable ∈ lw_all := in_all (i := 1003) (by decide +kernel) rfl
theorem lk_RX6_144 : Cond.methodLink RX6 144 yX6_fill ∈ lw_all := in_all (i := 1007) (by decide +kernel) rfl
theorem lk_RX6_126 : Cond.methodLink RX6 126 yX6_fill_ ∈ lw_all := in_all (i := 1011) (by decide +kernel) rfl
theorem lk_RX6_130 : Cond.methodLink RX6 130 yX6_costOf ∈ lw_all := in_all (i := 1015) (by decide +kernel) rfl
theorem lk_RX6_134 : Cond.methodLink RX6 134 yX6_columnOfBit ∈ lw_all := in_all (i := 1019) (by decide +kernel) rfl
theorem lk_RL_153 : Cond.methodLink RL 153 yX6_total ∈ lw_all := in_all (i := 1022) (by decide +kernel) rfl
theorem lk_RL_158 : Cond.methodLink RL 158 yX6_meanCost ∈ lw_all := in_all (i := 1026) (by decide +kernel) rfl
theorem lk_RL_162 : Cond.methodLink RL 162 yX6_columnOf ∈ lw_all := in_all (i := 1030) (by decide +kernel) rfl
theorem lk_RX6_149 : Cond.methodLink RX6 149 yX6_choose ∈ lw_all := in_all (i := 1034) (by decide +kernel) rfl
theorem lk_RX6_137 : Cond.methodLink RX6 137 yX6_isBest ∈ lw_all := in_all (i := 1038) (by decide +kernel) rfl
theorem lk_RL_165 : Cond.methodLink RL 165 yX6_rowOf ∈ lw_all := in_all (i := 1042) (by decide +kernel) rfl
theorem lk_RL_169 : Cond.methodLink RL 169 yX6_optimalCount ∈ lw_all := in_all (i := 1046) (by decide +kernel) rfl
theorem lk_RL_172 : Cond.methodLink RL 172 yX6_isPossible ∈ lw_all := in_all (i := 1050) (by decide +kernel) rfl
theorem lk_RX6_159 : Cond.methodLink RX6 159 yX6_solveWith ∈ lw_all := in_all (i := 1054) (by decide +kernel) rfl
theorem lk_RL_175 : Cond.methodLink RL 175 yX6_isCertain ∈ lw_all := in_all (i := 1058) (by decide +kernel) rfl
theorem lk_RL_178 : Cond.methodLink RL 178 yX6_regret ∈ lw_all := in_all (i := 1062) (by decide +kernel) rfl
theorem lk_RL_181 : Cond.methodLink RL 181 yX6_loss ∈ lw_all := in_all (i := 1066) (by decide +kernel) rfl
theorem lk_RL_184 : Cond.methodLink RL 184 yX6_greatestCost ∈ lw_all := in_all (i := 1070) (by decide +kernel) rfl
theorem lk_RX6_162 : Cond.methodLink RX6 162 Lib.Math.min.name ∈ lw_all := in_all (i := 1074) (by decide +kernel) rfl
theorem lk_RL_187 : Cond.methodLink RL 187 yX6_rank ∈ lw_all := in_all (i := 1075) (by decide +kernel) rfl
theorem lk_RX6_168 : Cond.methodLink RX6 168 yX6_addPart ∈ lw_all := in_all (i := 1079) (by decide +kernel) rfl
theorem lk_RX6_175 : Cond.methodLink RX6 175 yX6_isAhead ∈ lw_all := in_all (i := 1083) (by decide +kernel) rfl
theorem lk_RX6_178 : Cond.methodLink RX6 178 yX6_remove ∈ lw_all := in_all (i := 1087) (by decide +kernel) rfl
theorem lk_RL_190 : Cond.methodLink RL 190 yX6_rankedCost ∈ lw_all := in_all (i := 1091) (by decide +kernel) rfl
theorem lk_RL_193 : Cond.methodLink RL 193 yX6_rankedColumn ∈ lw_all := in_all (i := 1095) (by decide +kernel) rfl
theorem lk_RL_196 : Cond.methodLink RL 196 yX6_push ∈ lw_all := in_all (i := 1099) (by decide +kernel) rfl
theorem lk_RL_199 : Cond.methodLink RL 199 yX6_pop ∈ lw_all := in_all (i := 1103) (by decide +kernel) rfl
theorem lk_RL_204 : Cond.methodLink RL 204 yX6_digest ∈ lw_all := in_all (i := 1107) (by decide +kernel) rfl
theorem nk_RX6_185 : Cond.constantLong RX6 185 (1271) ∈ lw_all := in_all (i := 1111) (by decide +kernel) rfl
theorem nk_RX6_187 : Cond.constantLong RX6 187 (31) ∈ lw_all := in_all (i := 1112) (by decide +kernel) rfl
theorem nk_RL_126 : Cond.constantDouble RL 126 (4593671619917905920) ∈ lw_all := in_all (i := 1113) (by decide +kernel) rfl
theorem cw_X5_init : Cond.code yX5_init cX5_init 1 none ∈ lw_all := in_all (i := 67) (by decide +kernel) rfl
theorem im_X5_init : Cond.instanceMethod yX5_init ∈ lw_all := in_all (i := 66) (by decide +kernel) rfl
theorem cw_X4_init : Cond.code yX4_init cX4_init 1 none ∈ lw_all := in_all (i := 75) (by decide +kernel) rfl
theorem im_X4_init : Cond.instanceMethod yX4_init ∈ lw_all := in_all (i := 74) (by decide +kernel) rfl
theorem cw_J7_fill_53178 : Cond.code yJ7_fill_53178 cJ7_fill_53178 4 none ∈ lw_all := in_all (i := 79) (by decide +kernel) rfl
theorem st_J7_fill_53178 : Cond.static yJ7_fill_53178 ∈ lw_all := in_all (i := 78) (by decide +kernel) rfl
theorem cw_X1_init : Cond.code yX1_init cX1_init 1 none ∈ lw_all := in_all (i := 110) (by decide +kernel) rfl
theorem im_X1_init : Cond.instanceMethod yX1_init ∈ lw_all := in_all (i := 109) (by decide +kernel) rfl
theorem cw_X3_init : Cond.code yX3_init cX3_init 1 none ∈ lw_all := in_all (i := 130) (by decide +kernel) rfl
theorem im_X3_init : Cond.instanceMethod yX3_init ∈ lw_all := in_all (i := 129) (by decide +kernel) rfl
theorem cw_X2_init : Cond.code yX2_init cX2_init 1 none ∈ lw_all := in_all (i := 170) (by decide +kernel) rfl
theorem im_X2_init : Cond.instanceMethod yX2_init ∈ lw_all := in_all (i := 169) (by decide +kernel) rfl
theorem cw_X0_init : Cond.code yX0_init cX0_init 1 none ∈ lw_all := in_all (i := 176) (by decide +kernel) rfl
theorem im_X0_init : Cond.instanceMethod yX0_init ∈ lw_all := in_all (i := 175) (by decide +kernel) rfl
theorem cw_X5_rowCount : Cond.code yX5_rowCount cX5_rowCount 1 (some (FieldType.int)) ∈ lw_all := in_all (i := 229) (by decide +kernel) rfl
theorem im_X5_rowCount : Cond.instanceMethod yX5_rowCount ∈ lw_all := in_all (i := 227) (by decide +kernel) rfl
theorem se_X5_rowCount : Cond.selects RX5 yX5_rowCount yX5_rowCount ∈ lw_all := in_all (i := 228) (by decide +kernel) rfl
theorem cw_X5_columnCount : Cond.code yX5_columnCount cX5_columnCount 1 (some (FieldType.int)) ∈ lw_all := in_all (i := 233) (by decide +kernel) rfl
theorem im_X5_columnCount : Cond.instanceMethod yX5_columnCount ∈ lw_all := in_all (i := 231) (by decide +kernel) rfl
theorem se_X5_columnCount : Cond.selects RX5 yX5_columnCount yX5_columnCount ∈ lw_all := in_all (i := 232) (by decide +kernel) rfl
theorem cw_X5_size : Cond.code yX5_size cX5_size 1 (some (FieldType.int)) ∈ lw_all := in_all (i := 237) (by decide +kernel) rfl
theorem im_X5_size : Cond.instanceMethod yX5_size ∈ lw_all := in_all (i := 235) (by decide +kernel) rfl
theorem se_X5_size : Cond.selects RX5 yX5_size yX5_size ∈ lw_all := in_all (i := 236) (by decide +kernel) rfl
theorem cw_X5_solved : Cond.code yX5_solved cX5_solved 1 (some ((FieldType.object "AssignmentDesk$Solver"))) ∈ lw_all := in_all (i := 241) (by decide +kernel) rfl
theorem im_X5_solved : Cond.instanceMethod yX5_solved ∈ lw_all := in_all (i := 240) (by decide +kernel) rfl
theorem se_X5_solved : Cond.selects RX5 yX5_solved yX5_solved ∈ lw_all := in_all (i := 0) (by decide +kernel) rfl
theorem cw_X3_solve : Cond.code yX3_solve cX3_solve 3 none ∈ lw_all := in_all (i := 245) (by decide +kernel) rfl
theorem im_X3_solve : Cond.instanceMethod yX3_solve ∈ lw_all := in_all (i := 243) (by decide +kernel) rfl
theorem se_X3_solve : Cond.selects RX3 yX3_solve yX3_solve ∈ lw_all := in_all (i := 244) (by decide +kernel) rfl
theorem cw_X3_read : Cond.code yX3_read cX3_read 4 none ∈ lw_all := in_all (i := 249) (by decide +kernel) rfl
theorem im_X3_read : Cond.instanceMethod yX3_read ∈ lw_all := in_all (i := 248) (by decide +kernel) rfl
theorem se_X3_read : Cond.selects RX3 yX3_read yX3_read ∈ lw_all := in_all (i := 1) (by decide +kernel) rfl
theorem cw_X4_usableColumns : Cond.code yX4_usableColumns cX4_usableColumns 4 (some (FieldType.int)) ∈ lw_all := in_all (i := 253) (by decide +kernel) rfl
theorem im_X4_usableColumns : Cond.instanceMethod yX4_usableColumns ∈ lw_all := in_all (i := 251) (by decide +kernel) rfl
theorem se_X4_usableColumns : Cond.selects RX4 yX4_usableColumns yX4_usableColumns ∈ lw_all := in_all (i := 252) (by decide +kernel) rfl
theorem cw_X4_isUsable : Cond.code yX4_isUsable cX4_isUsable 3 (some (FieldType.boolean)) ∈ lw_all := in_all (i := 257) (by decide +kernel) rfl
theorem im_X4_isUsable : Cond.instanceMethod yX4_isUsable ∈ lw_all := in_all (i := 255) (by decide +kernel) rfl
theorem se_X4_isUsable : Cond.selects RX4 yX4_isUsable yX4_isUsable ∈ lw_all := in_all (i := 256) (by decide +kernel) rfl
theorem cw_X5_hasBit : Cond.code yX5_hasBit cX5_hasBit 2 (some (FieldType.boolean)) ∈ lw_all := in_all (i := 260) (by decide +kernel) rfl
theorem st_X5_hasBit : Cond.static yX5_hasBit ∈ lw_all := in_all (i := 259) (by decide +kernel) rfl
theorem cw_X4_cell : Cond.code yX4_cell cX4_cell 3 (some (FieldType.int)) ∈ lw_all := in_all (i := 264) (by decide +kernel) rfl
theorem im_X4_cell : Cond.instanceMethod yX4_cell ∈ lw_all := in_all (i := 262) (by decide +kernel) rfl
theorem se_X4_cell : Cond.selects RX4 yX4_cell yX4_cell ∈ lw_all := in_all (i := 263) (by decide +kernel) rfl
theorem cw_X5_withBit : Cond.code yX5_withBit cX5_withBit 3 (some (FieldType.int)) ∈ lw_all := in_all (i := 267) (by decide +kernel) rfl
theorem st_X5_withBit : Cond.static yX5_withBit ∈ lw_all := in_all (i := 266) (by decide +kernel) rfl
theorem cw_X3_fillRow : Cond.code yX3_fillRow cX3_fillRow 6 none ∈ lw_all := in_all (i := 273) (by decide +kernel) rfl
theorem im_X3_fillRow : Cond.instanceMethod yX3_fillRow ∈ lw_all := in_all (i := 272) (by decide +kernel) rfl
theorem se_X3_fillRow : Cond.selects RX3 yX3_fillRow yX3_fillRow ∈ lw_all := in_all (i := 2) (by decide +kernel) rfl
theorem cw_X3_canBeLeft : Cond.code yX3_canBeLeft cX3_canBeLeft 3 (some (FieldType.boolean)) ∈ lw_all := in_all (i := 277) (by decide +kernel) rfl
theorem im_X3_canBeLeft : Cond.instanceMethod yX3_canBeLeft ∈ lw_all := in_all (i := 276) (by decide +kernel) rfl
theorem se_X3_canBeLeft : Cond.selects RX3 yX3_canBeLeft yX3_canBeLeft ∈ lw_all := in_all (i := 3) (by decide +kernel) rfl
theorem cw_J6_bitCount_0f7a4 : Cond.code yJ6_bitCount_0f7a4 cJ6_bitCount_0f7a4 1 (some (FieldType.int)) ∈ lw_all := in_all (i := 280) (by decide +kernel) rfl
theorem st_J6_bitCount_0f7a4 : Cond.static yJ6_bitCount_0f7a4 ∈ lw_all := in_all (i := 279) (by decide +kernel) rfl
theorem cw_X3_leastFrom : Cond.code yX3_leastFrom cX3_leastFrom 8 (some (FieldType.int)) ∈ lw_all := in_all (i := 287) (by decide +kernel) rfl
theorem im_X3_leastFrom : Cond.instanceMethod yX3_leastFrom ∈ lw_all := in_all (i := 286) (by decide +kernel) rfl
theorem se_X3_leastFrom : Cond.selects RX3 yX3_leastFrom yX3_leastFrom ∈ lw_all := in_all (i := 4) (by decide +kernel) rfl
theorem cw_X3_keepFirst : Cond.code yX3_keepFirst cX3_keepFirst 4 none ∈ lw_all := in_all (i := 296) (by decide +kernel) rfl
theorem im_X3_keepFirst : Cond.instanceMethod yX3_keepFirst ∈ lw_all := in_all (i := 295) (by decide +kernel) rfl
theorem se_X3_keepFirst : Cond.selects RX3 yX3_keepFirst yX3_keepFirst ∈ lw_all := in_all (i := 5) (by decide +kernel) rfl
theorem cw_X3_firstOptimal : Cond.code yX3_firstOptimal cX3_firstOptimal 4 (some (FieldType.int)) ∈ lw_all := in_all (i := 300) (by decide +kernel) rfl
theorem im_X3_firstOptimal : Cond.instanceMethod yX3_firstOptimal ∈ lw_all := in_all (i := 299) (by decide +kernel) rfl
theorem se_X3_firstOptimal : Cond.selects RX3 yX3_firstOptimal yX3_firstOptimal ∈ lw_all := in_all (i := 6) (by decide +kernel) rfl
theorem cw_X3_isOptimal : Cond.code yX3_isOptimal cX3_isOptimal 5 (some (FieldType.boolean)) ∈ lw_all := in_all (i := 304) (by decide +kernel) rfl
theorem im_X3_isOptimal : Cond.instanceMethod yX3_isOptimal ∈ lw_all := in_all (i := 303) (by decide +kernel) rfl
theorem se_X3_isOptimal : Cond.selects RX3 yX3_isOptimal yX3_isOptimal ∈ lw_all := in_all (i := 7) (by decide +kernel) rfl
theorem cw_X3_sizeOf : Cond.code yX3_sizeOf cX3_sizeOf 1 (some (FieldType.int)) ∈ lw_all := in_all (i := 307) (by decide +kernel) rfl
theorem st_X3_sizeOf : Cond.static yX3_sizeOf ∈ lw_all := in_all (i := 306) (by decide +kernel) rfl
theorem cw_X5_total : Cond.code yX5_total cX5_total 1 (some (FieldType.int)) ∈ lw_all := in_all (i := 312) (by decide +kernel) rfl
theorem im_X5_total : Cond.instanceMethod yX5_total ∈ lw_all := in_all (i := 310) (by decide +kernel) rfl
theorem se_X5_total : Cond.selects RX5 yX5_total yX5_total ∈ lw_all := in_all (i := 311) (by decide +kernel) rfl
theorem cw_X3_costOf : Cond.code yX3_costOf cX3_costOf 1 (some (FieldType.int)) ∈ lw_all := in_all (i := 315) (by decide +kernel) rfl
theorem st_X3_costOf : Cond.static yX3_costOf ∈ lw_all := in_all (i := 314) (by decide +kernel) rfl
theorem cw_X5_meanCost : Cond.code yX5_meanCost cX5_meanCost 3 (some (FieldType.double)) ∈ lw_all := in_all (i := 320) (by decide +kernel) rfl
theorem im_X5_meanCost : Cond.instanceMethod yX5_meanCost ∈ lw_all := in_all (i := 318) (by decide +kernel) rfl
theorem se_X5_meanCost : Cond.selects RX5 yX5_meanCost yX5_meanCost ∈ lw_all := in_all (i := 319) (by decide +kernel) rfl
theorem cw_X5_optimalCount : Cond.code yX5_optimalCount cX5_optimalCount 1 (some (FieldType.int)) ∈ lw_all := in_all (i := 324) (by decide +kernel) rfl
theorem im_X5_optimalCount : Cond.instanceMethod yX5_optimalCount ∈ lw_all := in_all (i := 322) (by decide +kernel) rfl
theorem se_X5_optimalCount : Cond.selects RX5 yX5_optimalCount yX5_optimalCount ∈ lw_all := in_all (i := 323) (by decide +kernel) rfl
theorem cw_X3_countOptimal : Cond.code yX3_countOptimal cX3_countOptimal 3 (some (FieldType.int)) ∈ lw_all := in_all (i := 328) (by decide +kernel) rfl
theorem im_X3_countOptimal : Cond.instanceMethod yX3_countOptimal ∈ lw_all := in_all (i := 326) (by decide +kernel) rfl
theorem se_X3_countOptimal : Cond.selects RX3 yX3_countOptimal yX3_countOptimal ∈ lw_all := in_all (i := 327) (by decide +kernel) rfl
theorem cw_X3_spreadWays : Cond.code yX3_spreadWays cX3_spreadWays 5 none ∈ lw_all := in_all (i := 333) (by decide +kernel) rfl
theorem im_X3_spreadWays : Cond.instanceMethod yX3_spreadWays ∈ lw_all := in_all (i := 332) (by decide +kernel) rfl
theorem se_X3_spreadWays : Cond.selects RX3 yX3_spreadWays yX3_spreadWays ∈ lw_all := in_all (i := 8) (by decide +kernel) rfl
theorem cw_X5_digest : Cond.code yX5_digest cX5_digest 3 (some (FieldType.long)) ∈ lw_all := in_all (i := 337) (by decide +kernel) rfl
theorem im_X5_digest : Cond.instanceMethod yX5_digest ∈ lw_all := in_all (i := 335) (by decide +kernel) rfl
theorem se_X5_digest : Cond.selects RX5 yX5_digest yX5_digest ∈ lw_all := in_all (i := 336) (by decide +kernel) rfl
theorem cw_X4_addTo : Cond.code yX4_addTo cX4_addTo 7 (some (FieldType.long)) ∈ lw_all := in_all (i := 343) (by decide +kernel) rfl
theorem im_X4_addTo : Cond.instanceMethod yX4_addTo ∈ lw_all := in_all (i := 341) (by decide +kernel) rfl
theorem se_X4_addTo : Cond.selects RX4 yX4_addTo yX4_addTo ∈ lw_all := in_all (i := 342) (by decide +kernel) rfl
theorem cw_X3_addTo : Cond.code yX3_addTo cX3_addTo 7 (some (FieldType.long)) ∈ lw_all := in_all (i := 348) (by decide +kernel) rfl
theorem im_X3_addTo : Cond.instanceMethod yX3_addTo ∈ lw_all := in_all (i := 346) (by decide +kernel) rfl
theorem se_X3_addTo : Cond.selects RX3 yX3_addTo yX3_addTo ∈ lw_all := in_all (i := 347) (by decide +kernel) rfl
theorem cw_L_addRow : Cond.codeWith yL_addRow cL_addRow 3 (some (FieldType.int)) [((0 : Nat), (8 : Nat), (11 : Nat), (13 : Nat))] ∈ lw_all := in_all (i := 353) (by decide +kernel) rfl
theorem st_L_addRow : Cond.static yL_addRow ∈ lw_all := in_all (i := 352) (by decide +kernel) rfl
theorem cw_X5_addRow : Cond.code yX5_addRow cX5_addRow 1 (some (FieldType.int)) ∈ lw_all := in_all (i := 358) (by decide +kernel) rfl
theorem im_X5_addRow : Cond.instanceMethod yX5_addRow ∈ lw_all := in_all (i := 356) (by decide +kernel) rfl
theorem se_X5_addRow : Cond.selects RX5 yX5_addRow yX5_addRow ∈ lw_all := in_all (i := 357) (by decide +kernel) rfl
theorem cw_X4_appendRow : Cond.code yX4_appendRow cX4_appendRow 1 (some (FieldType.int)) ∈ lw_all := in_all (i := 433) (by decide +kernel) rfl
theorem im_X4_appendRow : Cond.instanceMethod yX4_appendRow ∈ lw_all := in_all (i := 431) (by decide +kernel) rfl
theorem se_X4_appendRow : Cond.selects RX4 yX4_appendRow yX4_appendRow ∈ lw_all := in_all (i := 432) (by decide +kernel) rfl
theorem cw_L_addColumn : Cond.codeWith yL_addColumn cL_addColumn 3 (some (FieldType.int)) [((0 : Nat), (8 : Nat), (11 : Nat), (13 : Nat))] ∈ lw_all := in_all (i := 436) (by decide +kernel) rfl
theorem st_L_addColumn : Cond.static yL_addColumn ∈ lw_all := in_all (i := 435) (by decide +kernel) rfl
theorem cw_X5_addColumn : Cond.code yX5_addColumn cX5_addColumn 1 (some (FieldType.int)) ∈ lw_all := in_all (i := 440) (by decide +kernel) rfl
theorem im_X5_addColumn : Cond.instanceMethod yX5_addColumn ∈ lw_all := in_all (i := 438) (by decide +kernel) rfl
theorem se_X5_addColumn : Cond.selects RX5 yX5_addColumn yX5_addColumn ∈ lw_all := in_all (i := 439) (by decide +kernel) rfl
theorem cw_X4_appendColumn : Cond.code yX4_appendColumn cX4_appendColumn 1 (some (FieldType.int)) ∈ lw_all := in_all (i := 445) (by decide +kernel) rfl
theorem im_X4_appendColumn : Cond.instanceMethod yX4_appendColumn ∈ lw_all := in_all (i := 443) (by decide +kernel) rfl
theorem se_X4_appendColumn : Cond.selects RX4 yX4_appendColumn yX4_appendColumn ∈ lw_all := in_all (i := 444) (by decide +kernel) rfl
theorem cw_L_setRow : Cond.codeWith yL_setRow cL_setRow 5 (some (FieldType.int)) [((0 : Nat), (17 : Nat), (20 : Nat), (22 : Nat))] ∈ lw_all := in_all (i := 448) (by decide +kernel) rfl
theorem st_L_setRow : Cond.static yL_setRow ∈ lw_all := in_all (i := 447) (by decide +kernel) rfl
theorem cw_Jx00060_init_a7421 : Cond.code yJx00060_init_a7421 cJx00060_init_a7421 2 none ∈ lw_all := in_all (i := 452) (by decide +kernel) rfl
theorem im_Jx00060_init_a7421 : Cond.instanceMethod yJx00060_init_a7421 ∈ lw_all := in_all (i := 451) (by decide +kernel) rfl
theorem cw_X5_setRow : Cond.code yX5_setRow cX5_setRow 4 (some (FieldType.boolean)) ∈ lw_all := in_all (i := 476) (by decide +kernel) rfl
theorem im_X5_setRow : Cond.instanceMethod yX5_setRow ∈ lw_all := in_all (i := 474) (by decide +kernel) rfl
theorem se_X5_setRow : Cond.selects RX5 yX5_setRow yX5_setRow ∈ lw_all := in_all (i := 475) (by decide +kernel) rfl
theorem cw_X5_requireRow : Cond.code yX5_requireRow cX5_requireRow 2 none ∈ lw_all := in_all (i := 480) (by decide +kernel) rfl
theorem im_X5_requireRow : Cond.instanceMethod yX5_requireRow ∈ lw_all := in_all (i := 479) (by decide +kernel) rfl
theorem se_X5_requireRow : Cond.selects RX5 yX5_requireRow yX5_requireRow ∈ lw_all := in_all (i := 10) (by decide +kernel) rfl
theorem cw_L_setColumn : Cond.codeWith yL_setColumn cL_setColumn 5 (some (FieldType.int)) [((0 : Nat), (17 : Nat), (20 : Nat), (22 : Nat))] ∈ lw_all := in_all (i := 498) (by decide +kernel) rfl
theorem st_L_setColumn : Cond.static yL_setColumn ∈ lw_all := in_all (i := 497) (by decide +kernel) rfl
theorem cw_X5_setColumn : Cond.code yX5_setColumn cX5_setColumn 4 (some (FieldType.boolean)) ∈ lw_all := in_all (i := 502) (by decide +kernel) rfl
theorem im_X5_setColumn : Cond.instanceMethod yX5_setColumn ∈ lw_all := in_all (i := 500) (by decide +kernel) rfl
theorem se_X5_setColumn : Cond.selects RX5 yX5_setColumn yX5_setColumn ∈ lw_all := in_all (i := 501) (by decide +kernel) rfl
theorem cw_X5_requireColumn : Cond.code yX5_requireColumn cX5_requireColumn 2 none ∈ lw_all := in_all (i := 506) (by decide +kernel) rfl
theorem im_X5_requireColumn : Cond.instanceMethod yX5_requireColumn ∈ lw_all := in_all (i := 505) (by decide +kernel) rfl
theorem se_X5_requireColumn : Cond.selects RX5 yX5_requireColumn yX5_requireColumn ∈ lw_all := in_all (i := 11) (by decide +kernel) rfl
theorem cw_L_setCost : Cond.codeWith yL_setCost cL_setCost 6 (some (FieldType.int)) [((0 : Nat), (19 : Nat), (22 : Nat), (22 : Nat)), ((0 : Nat), (19 : Nat), (26 : Nat), (31 : Nat))] ∈ lw_all := in_all (i := 510) (by decide +kernel) rfl
theorem st_L_setCost : Cond.static yL_setCost ∈ lw_all := in_all (i := 509) (by decide +kernel) rfl
theorem cw_X5_setCost : Cond.code yX5_setCost cX5_setCost 4 (some (FieldType.boolean)) ∈ lw_all := in_all (i := 515) (by decide +kernel) rfl
theorem im_X5_setCost : Cond.instanceMethod yX5_setCost ∈ lw_all := in_all (i := 513) (by decide +kernel) rfl
theorem se_X5_setCost : Cond.selects RX5 yX5_setCost yX5_setCost ∈ lw_all := in_all (i := 514) (by decide +kernel) rfl
theorem cw_X5_requirePair : Cond.code yX5_requirePair cX5_requirePair 3 none ∈ lw_all := in_all (i := 519) (by decide +kernel) rfl
theorem im_X5_requirePair : Cond.instanceMethod yX5_requirePair ∈ lw_all := in_all (i := 518) (by decide +kernel) rfl
theorem se_X5_requirePair : Cond.selects RX5 yX5_requirePair yX5_requirePair ∈ lw_all := in_all (i := 12) (by decide +kernel) rfl
theorem cw_X5_isCost : Cond.code yX5_isCost cX5_isCost 2 (some (FieldType.boolean)) ∈ lw_all := in_all (i := 522) (by decide +kernel) rfl
theorem st_X5_isCost : Cond.static yX5_isCost ∈ lw_all := in_all (i := 521) (by decide +kernel) rfl
theorem cw_X5_replaceCell : Cond.code yX5_replaceCell cX5_replaceCell 5 (some (FieldType.boolean)) ∈ lw_all := in_all (i := 544) (by decide +kernel) rfl
theorem im_X5_replaceCell : Cond.instanceMethod yX5_replaceCell ∈ lw_all := in_all (i := 543) (by decide +kernel) rfl
theorem se_X5_replaceCell : Cond.selects RX5 yX5_replaceCell yX5_replaceCell ∈ lw_all := in_all (i := 13) (by decide +kernel) rfl
theorem cw_L_forbid : Cond.codeWith yL_forbid cL_forbid 5 (some (FieldType.int)) [((0 : Nat), (17 : Nat), (20 : Nat), (22 : Nat))] ∈ lw_all := in_all (i := 548) (by decide +kernel) rfl
theorem st_L_forbid : Cond.static yL_forbid ∈ lw_all := in_all (i := 547) (by decide +kernel) rfl
theorem cw_X5_forbid : Cond.code yX5_forbid cX5_forbid 3 (some (FieldType.boolean)) ∈ lw_all := in_all (i := 552) (by decide +kernel) rfl
theorem im_X5_forbid : Cond.instanceMethod yX5_forbid ∈ lw_all := in_all (i := 550) (by decide +kernel) rfl
theorem se_X5_forbid : Cond.selects RX5 yX5_forbid yX5_forbid ∈ lw_all := in_all (i := 551) (by decide +kernel) rfl
theorem cw_L_addToRow : Cond.codeWith yL_addToRow cL_addToRow 5 (some (FieldType.int)) [((0 : Nat), (10 : Nat), (13 : Nat), (22 : Nat)), ((0 : Nat), (10 : Nat), (17 : Nat), (41 : Nat))] ∈ lw_all := in_all (i := 555) (by decide +kernel) rfl
theorem st_L_addToRow : Cond.static yL_addToRow ∈ lw_all := in_all (i := 554) (by decide +kernel) rfl
theorem cw_X5_addToRow : Cond.code yX5_addToRow cX5_addToRow 3 (some (FieldType.int)) ∈ lw_all := in_all (i := 573) (by decide +kernel) rfl
theorem im_X5_addToRow : Cond.instanceMethod yX5_addToRow ∈ lw_all := in_all (i := 571) (by decide +kernel) rfl
theorem se_X5_addToRow : Cond.selects RX5 yX5_addToRow yX5_addToRow ∈ lw_all := in_all (i := 572) (by decide +kernel) rfl
theorem cw_X4_canShiftRow : Cond.code yX4_canShiftRow cX4_canShiftRow 5 (some (FieldType.boolean)) ∈ lw_all := in_all (i := 577) (by decide +kernel) rfl
theorem im_X4_canShiftRow : Cond.instanceMethod yX4_canShiftRow ∈ lw_all := in_all (i := 575) (by decide +kernel) rfl
theorem se_X4_canShiftRow : Cond.selects RX4 yX4_canShiftRow yX4_canShiftRow ∈ lw_all := in_all (i := 576) (by decide +kernel) rfl
theorem cw_X4_shiftRow : Cond.code yX4_shiftRow cX4_shiftRow 5 (some (FieldType.int)) ∈ lw_all := in_all (i := 585) (by decide +kernel) rfl
theorem im_X4_shiftRow : Cond.instanceMethod yX4_shiftRow ∈ lw_all := in_all (i := 583) (by decide +kernel) rfl
theorem se_X4_shiftRow : Cond.selects RX4 yX4_shiftRow yX4_shiftRow ∈ lw_all := in_all (i := 584) (by decide +kernel) rfl
theorem cw_L_scaleColumn : Cond.codeWith yL_scaleColumn cL_scaleColumn 6 (some (FieldType.int)) [((0 : Nat), (11 : Nat), (14 : Nat), (22 : Nat)), ((0 : Nat), (11 : Nat), (18 : Nat), (31 : Nat)), ((0 : Nat), (11 : Nat), (22 : Nat), (41 : Nat))] ∈ lw_all := in_all (i := 588) (by decide +kernel) rfl
theorem st_L_scaleColumn : Cond.static yL_scaleColumn ∈ lw_all := in_all (i := 587) (by decide +kernel) rfl
theorem cw_X5_scaleColumn : Cond.code yX5_scaleColumn cX5_scaleColumn 4 (some (FieldType.int)) ∈ lw_all := in_all (i := 592) (by decide +kernel) rfl
theorem im_X5_scaleColumn : Cond.instanceMethod yX5_scaleColumn ∈ lw_all := in_all (i := 590) (by decide +kernel) rfl
theorem se_X5_scaleColumn : Cond.selects RX5 yX5_scaleColumn yX5_scaleColumn ∈ lw_all := in_all (i := 591) (by decide +kernel) rfl
theorem cw_X4_canStretchColumn : Cond.code yX4_canStretchColumn cX4_canStretchColumn 6 (some (FieldType.boolean)) ∈ lw_all := in_all (i := 599) (by decide +kernel) rfl
theorem im_X4_canStretchColumn : Cond.instanceMethod yX4_canStretchColumn ∈ lw_all := in_all (i := 597) (by decide +kernel) rfl
theorem se_X4_canStretchColumn : Cond.selects RX4 yX4_canStretchColumn yX4_canStretchColumn ∈ lw_all := in_all (i := 598) (by decide +kernel) rfl
theorem cw_X4_nearest : Cond.code yX4_nearest cX4_nearest 7 (some (FieldType.int)) ∈ lw_all := in_all (i := 602) (by decide +kernel) rfl
theorem st_X4_nearest : Cond.static yX4_nearest ∈ lw_all := in_all (i := 601) (by decide +kernel) rfl
theorem cw_X4_stretchColumn : Cond.code yX4_stretchColumn cX4_stretchColumn 7 (some (FieldType.int)) ∈ lw_all := in_all (i := 607) (by decide +kernel) rfl
theorem im_X4_stretchColumn : Cond.instanceMethod yX4_stretchColumn ∈ lw_all := in_all (i := 605) (by decide +kernel) rfl
theorem se_X4_stretchColumn : Cond.selects RX4 yX4_stretchColumn yX4_stretchColumn ∈ lw_all := in_all (i := 606) (by decide +kernel) rfl
theorem cw_L_isAllowed : Cond.codeWith yL_isAllowed cL_isAllowed 5 (some (FieldType.int)) [((0 : Nat), (17 : Nat), (20 : Nat), (22 : Nat))] ∈ lw_all := in_all (i := 610) (by decide +kernel) rfl
theorem st_L_isAllowed : Cond.static yL_isAllowed ∈ lw_all := in_all (i := 609) (by decide +kernel) rfl
theorem cw_X5_isAllowed : Cond.code yX5_isAllowed cX5_isAllowed 3 (some (FieldType.boolean)) ∈ lw_all := in_all (i := 614) (by decide +kernel) rfl
theorem im_X5_isAllowed : Cond.instanceMethod yX5_isAllowed ∈ lw_all := in_all (i := 612) (by decide +kernel) rfl
theorem se_X5_isAllowed : Cond.selects RX5 yX5_isAllowed yX5_isAllowed ∈ lw_all := in_all (i := 613) (by decide +kernel) rfl
theorem cw_L_cost : Cond.codeWith yL_cost cL_cost 5 (some (FieldType.int)) [((0 : Nat), (10 : Nat), (13 : Nat), (22 : Nat)), ((0 : Nat), (10 : Nat), (17 : Nat), (53 : Nat))] ∈ lw_all := in_all (i := 617) (by decide +kernel) rfl
theorem st_L_cost : Cond.static yL_cost ∈ lw_all := in_all (i := 616) (by decide +kernel) rfl
theorem cw_X5_cost : Cond.code yX5_cost cX5_cost 4 (some (FieldType.int)) ∈ lw_all := in_all (i := 622) (by decide +kernel) rfl
theorem im_X5_cost : Cond.instanceMethod yX5_cost ∈ lw_all := in_all (i := 620) (by decide +kernel) rfl
theorem se_X5_cost : Cond.selects RX5 yX5_cost yX5_cost ∈ lw_all := in_all (i := 621) (by decide +kernel) rfl
theorem cw_L_columnOf : Cond.codeWith yL_columnOf cL_columnOf 4 (some (FieldType.int)) [((0 : Nat), (9 : Nat), (12 : Nat), (22 : Nat))] ∈ lw_all := in_all (i := 641) (by decide +kernel) rfl
theorem st_L_columnOf : Cond.static yL_columnOf ∈ lw_all := in_all (i := 640) (by decide +kernel) rfl
theorem cw_X5_columnOf : Cond.code yX5_columnOf cX5_columnOf 2 (some (FieldType.int)) ∈ lw_all := in_all (i := 645) (by decide +kernel) rfl
theorem im_X5_columnOf : Cond.instanceMethod yX5_columnOf ∈ lw_all := in_all (i := 643) (by decide +kernel) rfl
theorem se_X5_columnOf : Cond.selects RX5 yX5_columnOf yX5_columnOf ∈ lw_all := in_all (i := 644) (by decide +kernel) rfl
theorem cw_L_rowOf : Cond.codeWith yL_rowOf cL_rowOf 4 (some (FieldType.int)) [((0 : Nat), (9 : Nat), (12 : Nat), (22 : Nat))] ∈ lw_all := in_all (i := 648) (by decide +kernel) rfl
theorem st_L_rowOf : Cond.static yL_rowOf ∈ lw_all := in_all (i := 647) (by decide +kernel) rfl
theorem cw_X5_rowOf : Cond.code yX5_rowOf cX5_rowOf 4 (some (FieldType.int)) ∈ lw_all := in_all (i := 652) (by decide +kernel) rfl
theorem im_X5_rowOf : Cond.instanceMethod yX5_rowOf ∈ lw_all := in_all (i := 650) (by decide +kernel) rfl
theorem se_X5_rowOf : Cond.selects RX5 yX5_rowOf yX5_rowOf ∈ lw_all := in_all (i := 651) (by decide +kernel) rfl
theorem cw_L_isPossible : Cond.codeWith yL_isPossible cL_isPossible 5 (some (FieldType.int)) [((0 : Nat), (17 : Nat), (20 : Nat), (22 : Nat))] ∈ lw_all := in_all (i := 655) (by decide +kernel) rfl
theorem st_L_isPossible : Cond.static yL_isPossible ∈ lw_all := in_all (i := 654) (by decide +kernel) rfl
theorem cw_X5_isPossible : Cond.code yX5_isPossible cX5_isPossible 3 (some (FieldType.boolean)) ∈ lw_all := in_all (i := 659) (by decide +kernel) rfl
theorem im_X5_isPossible : Cond.instanceMethod yX5_isPossible ∈ lw_all := in_all (i := 657) (by decide +kernel) rfl
theorem se_X5_isPossible : Cond.selects RX5 yX5_isPossible yX5_isPossible ∈ lw_all := in_all (i := 658) (by decide +kernel) rfl
theorem cw_X3_extraCostWith : Cond.code yX3_extraCostWith cX3_extraCostWith 5 (some (FieldType.int)) ∈ lw_all := in_all (i := 664) (by decide +kernel) rfl
theorem im_X3_extraCostWith : Cond.instanceMethod yX3_extraCostWith ∈ lw_all := in_all (i := 662) (by decide +kernel) rfl
theorem se_X3_extraCostWith : Cond.selects RX3 yX3_extraCostWith yX3_extraCostWith ∈ lw_all := in_all (i := 663) (by decide +kernel) rfl
theorem cw_X3_extraCostOfSupposed : Cond.code yX3_extraCostOfSupposed cX3_extraCostOfSupposed 3 (some (FieldType.int)) ∈ lw_all := in_all (i := 669) (by decide +kernel) rfl
theorem im_X3_extraCostOfSupposed : Cond.instanceMethod yX3_extraCostOfSupposed ∈ lw_all := in_all (i := 668) (by decide +kernel) rfl
theorem se_X3_extraCostOfSupposed : Cond.selects RX3 yX3_extraCostOfSupposed yX3_extraCostOfSupposed ∈ lw_all := in_all (i := 14) (by decide +kernel) rfl
theorem cw_L_isCertain : Cond.codeWith yL_isCertain cL_isCertain 5 (some (FieldType.int)) [((0 : Nat), (17 : Nat), (20 : Nat), (22 : Nat))] ∈ lw_all := in_all (i := 672) (by decide +kernel) rfl
theorem st_L_isCertain : Cond.static yL_isCertain ∈ lw_all := in_all (i := 671) (by decide +kernel) rfl
theorem cw_X5_isCertain : Cond.code yX5_isCertain cX5_isCertain 3 (some (FieldType.boolean)) ∈ lw_all := in_all (i := 676) (by decide +kernel) rfl
theorem im_X5_isCertain : Cond.instanceMethod yX5_isCertain ∈ lw_all := in_all (i := 674) (by decide +kernel) rfl
theorem se_X5_isCertain : Cond.selects RX5 yX5_isCertain yX5_isCertain ∈ lw_all := in_all (i := 675) (by decide +kernel) rfl
theorem cw_X3_extraCostWithout : Cond.code yX3_extraCostWithout cX3_extraCostWithout 3 (some (FieldType.int)) ∈ lw_all := in_all (i := 680) (by decide +kernel) rfl
theorem im_X3_extraCostWithout : Cond.instanceMethod yX3_extraCostWithout ∈ lw_all := in_all (i := 678) (by decide +kernel) rfl
theorem se_X3_extraCostWithout : Cond.selects RX3 yX3_extraCostWithout yX3_extraCostWithout ∈ lw_all := in_all (i := 679) (by decide +kernel) rfl
theorem cw_L_regret : Cond.codeWith yL_regret cL_regret 5 (some (FieldType.int)) [((0 : Nat), (10 : Nat), (13 : Nat), (22 : Nat)), ((0 : Nat), (10 : Nat), (17 : Nat), (53 : Nat))] ∈ lw_all := in_all (i := 683) (by decide +kernel) rfl
theorem st_L_regret : Cond.static yL_regret ∈ lw_all := in_all (i := 682) (by decide +kernel) rfl
theorem cw_X5_regret : Cond.code yX5_regret cX5_regret 3 (some (FieldType.int)) ∈ lw_all := in_all (i := 687) (by decide +kernel) rfl
theorem im_X5_regret : Cond.instanceMethod yX5_regret ∈ lw_all := in_all (i := 685) (by decide +kernel) rfl
theorem se_X5_regret : Cond.selects RX5 yX5_regret yX5_regret ∈ lw_all := in_all (i := 686) (by decide +kernel) rfl
theorem cw_X5_requireUsable : Cond.code yX5_requireUsable cX5_requireUsable 3 none ∈ lw_all := in_all (i := 691) (by decide +kernel) rfl
theorem im_X5_requireUsable : Cond.instanceMethod yX5_requireUsable ∈ lw_all := in_all (i := 690) (by decide +kernel) rfl
theorem se_X5_requireUsable : Cond.selects RX5 yX5_requireUsable yX5_requireUsable ∈ lw_all := in_all (i := 15) (by decide +kernel) rfl
theorem cw_L_loss : Cond.codeWith yL_loss cL_loss 5 (some (FieldType.int)) [((0 : Nat), (10 : Nat), (13 : Nat), (22 : Nat))] ∈ lw_all := in_all (i := 695) (by decide +kernel) rfl
theorem st_L_loss : Cond.static yL_loss ∈ lw_all := in_all (i := 694) (by decide +kernel) rfl
theorem cw_X5_loss : Cond.code yX5_loss cX5_loss 3 (some (FieldType.int)) ∈ lw_all := in_all (i := 699) (by decide +kernel) rfl
theorem im_X5_loss : Cond.instanceMethod yX5_loss ∈ lw_all := in_all (i := 697) (by decide +kernel) rfl
theorem se_X5_loss : Cond.selects RX5 yX5_loss yX5_loss ∈ lw_all := in_all (i := 698) (by decide +kernel) rfl
theorem cw_L_greatestCost : Cond.codeWith yL_greatestCost cL_greatestCost 5 (some (FieldType.int)) [((0 : Nat), (10 : Nat), (13 : Nat), (22 : Nat)), ((0 : Nat), (10 : Nat), (17 : Nat), (53 : Nat))] ∈ lw_all := in_all (i := 702) (by decide +kernel) rfl
theorem st_L_greatestCost : Cond.static yL_greatestCost ∈ lw_all := in_all (i := 701) (by decide +kernel) rfl
theorem cw_X5_greatestCost : Cond.code yX5_greatestCost cX5_greatestCost 6 (some (FieldType.int)) ∈ lw_all := in_all (i := 706) (by decide +kernel) rfl
theorem im_X5_greatestCost : Cond.instanceMethod yX5_greatestCost ∈ lw_all := in_all (i := 704) (by decide +kernel) rfl
theorem se_X5_greatestCost : Cond.selects RX5 yX5_greatestCost yX5_greatestCost ∈ lw_all := in_all (i := 705) (by decide +kernel) rfl
theorem cw_L_rank : Cond.codeWith yL_rank cL_rank 4 (some (FieldType.int)) [((0 : Nat), (9 : Nat), (12 : Nat), (31 : Nat))] ∈ lw_all := in_all (i := 710) (by decide +kernel) rfl
theorem st_L_rank : Cond.static yL_rank ∈ lw_all := in_all (i := 709) (by decide +kernel) rfl
theorem cw_X5_rank : Cond.code yX5_rank cX5_rank 2 (some (FieldType.int)) ∈ lw_all := in_all (i := 714) (by decide +kernel) rfl
theorem im_X5_rank : Cond.instanceMethod yX5_rank ∈ lw_all := in_all (i := 712) (by decide +kernel) rfl
theorem se_X5_rank : Cond.selects RX5 yX5_rank yX5_rank ∈ lw_all := in_all (i := 713) (by decide +kernel) rfl
theorem cw_X2_findFirst : Cond.code yX2_findFirst cX2_findFirst 5 none ∈ lw_all := in_all (i := 719) (by decide +kernel) rfl
theorem im_X2_findFirst : Cond.instanceMethod yX2_findFirst ∈ lw_all := in_all (i := 717) (by decide +kernel) rfl
theorem se_X2_findFirst : Cond.selects RX2 yX2_findFirst yX2_findFirst ∈ lw_all := in_all (i := 718) (by decide +kernel) rfl
theorem cw_X0_offer : Cond.code yX0_offer cX0_offer 8 none ∈ lw_all := in_all (i := 723) (by decide +kernel) rfl
theorem im_X0_offer : Cond.instanceMethod yX0_offer ∈ lw_all := in_all (i := 721) (by decide +kernel) rfl
theorem se_X0_offer : Cond.selects RX0 yX0_offer yX0_offer ∈ lw_all := in_all (i := 722) (by decide +kernel) rfl
theorem cw_X0_isBefore : Cond.code yX0_isBefore cX0_isBefore 5 (some (FieldType.boolean)) ∈ lw_all := in_all (i := 727) (by decide +kernel) rfl
theorem im_X0_isBefore : Cond.instanceMethod yX0_isBefore ∈ lw_all := in_all (i := 726) (by decide +kernel) rfl
theorem se_X0_isBefore : Cond.selects RX0 yX0_isBefore yX0_isBefore ∈ lw_all := in_all (i := 16) (by decide +kernel) rfl
theorem cw_X0_moveBack : Cond.code yX0_moveBack cX0_moveBack 2 none ∈ lw_all := in_all (i := 731) (by decide +kernel) rfl
theorem im_X0_moveBack : Cond.instanceMethod yX0_moveBack ∈ lw_all := in_all (i := 730) (by decide +kernel) rfl
theorem se_X0_moveBack : Cond.selects RX0 yX0_moveBack yX0_moveBack ∈ lw_all := in_all (i := 17) (by decide +kernel) rfl
theorem cw_X2_extend : Cond.code yX2_extend cX2_extend 12 none ∈ lw_all := in_all (i := 735) (by decide +kernel) rfl
theorem im_X2_extend : Cond.instanceMethod yX2_extend ∈ lw_all := in_all (i := 734) (by decide +kernel) rfl
theorem se_X2_extend : Cond.selects RX2 yX2_extend yX2_extend ∈ lw_all := in_all (i := 18) (by decide +kernel) rfl
theorem cw_X2_offerFull : Cond.code yX2_offerFull cX2_offerFull 9 none ∈ lw_all := in_all (i := 740) (by decide +kernel) rfl
theorem im_X2_offerFull : Cond.instanceMethod yX2_offerFull ∈ lw_all := in_all (i := 739) (by decide +kernel) rfl
theorem se_X2_offerFull : Cond.selects RX2 yX2_offerFull yX2_offerFull ∈ lw_all := in_all (i := 19) (by decide +kernel) rfl
theorem cw_L_rankedCost : Cond.codeWith yL_rankedCost cL_rankedCost 4 (some (FieldType.int)) [((0 : Nat), (9 : Nat), (12 : Nat), (22 : Nat))] ∈ lw_all := in_all (i := 746) (by decide +kernel) rfl
theorem st_L_rankedCost : Cond.static yL_rankedCost ∈ lw_all := in_all (i := 745) (by decide +kernel) rfl
theorem cw_X5_rankedCost : Cond.code yX5_rankedCost cX5_rankedCost 2 (some (FieldType.int)) ∈ lw_all := in_all (i := 750) (by decide +kernel) rfl
theorem im_X5_rankedCost : Cond.instanceMethod yX5_rankedCost ∈ lw_all := in_all (i := 748) (by decide +kernel) rfl
theorem se_X5_rankedCost : Cond.selects RX5 yX5_rankedCost yX5_rankedCost ∈ lw_all := in_all (i := 749) (by decide +kernel) rfl
theorem cw_X5_requireRanked : Cond.code yX5_requireRanked cX5_requireRanked 2 none ∈ lw_all := in_all (i := 754) (by decide +kernel) rfl
theorem im_X5_requireRanked : Cond.instanceMethod yX5_requireRanked ∈ lw_all := in_all (i := 753) (by decide +kernel) rfl
theorem se_X5_requireRanked : Cond.selects RX5 yX5_requireRanked yX5_requireRanked ∈ lw_all := in_all (i := 20) (by decide +kernel) rfl
theorem cw_L_rankedColumn : Cond.codeWith yL_rankedColumn cL_rankedColumn 5 (some (FieldType.int)) [((0 : Nat), (10 : Nat), (13 : Nat), (22 : Nat))] ∈ lw_all := in_all (i := 758) (by decide +kernel) rfl
theorem st_L_rankedColumn : Cond.static yL_rankedColumn ∈ lw_all := in_all (i := 757) (by decide +kernel) rfl
theorem cw_X5_rankedColumn : Cond.code yX5_rankedColumn cX5_rankedColumn 3 (some (FieldType.int)) ∈ lw_all := in_all (i := 762) (by decide +kernel) rfl
theorem im_X5_rankedColumn : Cond.instanceMethod yX5_rankedColumn ∈ lw_all := in_all (i := 760) (by decide +kernel) rfl
theorem se_X5_rankedColumn : Cond.selects RX5 yX5_rankedColumn yX5_rankedColumn ∈ lw_all := in_all (i := 761) (by decide +kernel) rfl
theorem cw_X2_columnIn : Cond.code yX2_columnIn cX2_columnIn 4 (some (FieldType.int)) ∈ lw_all := in_all (i := 765) (by decide +kernel) rfl
theorem st_X2_columnIn : Cond.static yX2_columnIn ∈ lw_all := in_all (i := 764) (by decide +kernel) rfl
theorem cw_L_push : Cond.codeWith yL_push cL_push 3 (some (FieldType.int)) [((0 : Nat), (8 : Nat), (11 : Nat), (13 : Nat))] ∈ lw_all := in_all (i := 768) (by decide +kernel) rfl
theorem st_L_push : Cond.static yL_push ∈ lw_all := in_all (i := 767) (by decide +kernel) rfl
theorem cw_X5_push : Cond.code yX5_push cX5_push 1 (some (FieldType.int)) ∈ lw_all := in_all (i := 772) (by decide +kernel) rfl
theorem im_X5_push : Cond.instanceMethod yX5_push ∈ lw_all := in_all (i := 770) (by decide +kernel) rfl
theorem se_X5_push : Cond.selects RX5 yX5_push yX5_push ∈ lw_all := in_all (i := 771) (by decide +kernel) rfl
theorem cw_X1_store : Cond.code yX1_store cX1_store 2 none ∈ lw_all := in_all (i := 777) (by decide +kernel) rfl
theorem im_X1_store : Cond.instanceMethod yX1_store ∈ lw_all := in_all (i := 775) (by decide +kernel) rfl
theorem se_X1_store : Cond.selects RX1 yX1_store yX1_store ∈ lw_all := in_all (i := 776) (by decide +kernel) rfl
theorem cw_L_pop : Cond.codeWith yL_pop cL_pop 3 (some (FieldType.int)) [((0 : Nat), (8 : Nat), (11 : Nat), (13 : Nat))] ∈ lw_all := in_all (i := 783) (by decide +kernel) rfl
theorem st_L_pop : Cond.static yL_pop ∈ lw_all := in_all (i := 782) (by decide +kernel) rfl
theorem cw_X5_pop : Cond.code yX5_pop cX5_pop 1 (some (FieldType.int)) ∈ lw_all := in_all (i := 787) (by decide +kernel) rfl
theorem im_X5_pop : Cond.instanceMethod yX5_pop ∈ lw_all := in_all (i := 785) (by decide +kernel) rfl
theorem se_X5_pop : Cond.selects RX5 yX5_pop yX5_pop ∈ lw_all := in_all (i := 786) (by decide +kernel) rfl
theorem cw_X1_restore : Cond.code yX1_restore cX1_restore 2 none ∈ lw_all := in_all (i := 792) (by decide +kernel) rfl
theorem im_X1_restore : Cond.instanceMethod yX1_restore ∈ lw_all := in_all (i := 790) (by decide +kernel) rfl
theorem se_X1_restore : Cond.selects RX1 yX1_restore yX1_restore ∈ lw_all := in_all (i := 791) (by decide +kernel) rfl
theorem cw_X6_init : Cond.code yX6_init cX6_init 1 none ∈ lw_all := in_all (i := 797) (by decide +kernel) rfl
theorem im_X6_init : Cond.instanceMethod yX6_init ∈ lw_all := in_all (i := 796) (by decide +kernel) rfl
theorem cw_X6_thrown : Cond.code yX6_thrown cX6_thrown 1 (some (FieldType.int)) ∈ lw_all := in_all (i := 894) (by decide +kernel) rfl
theorem im_X6_thrown : Cond.instanceMethod yX6_thrown ∈ lw_all := in_all (i := 892) (by decide +kernel) rfl
theorem se_X6_thrown : Cond.selects RX6 yX6_thrown yX6_thrown ∈ lw_all := in_all (i := 893) (by decide +kernel) rfl
theorem cw_X6_addRow : Cond.code yX6_addRow cX6_addRow 1 (some (FieldType.int)) ∈ lw_all := in_all (i := 898) (by decide +kernel) rfl
theorem im_X6_addRow : Cond.instanceMethod yX6_addRow ∈ lw_all := in_all (i := 896) (by decide +kernel) rfl
theorem se_X6_addRow : Cond.selects RX6 yX6_addRow yX6_addRow ∈ lw_all := in_all (i := 897) (by decide +kernel) rfl
theorem cw_X6_fail : Cond.code yX6_fail cX6_fail 2 (some (FieldType.int)) ∈ lw_all := in_all (i := 902) (by decide +kernel) rfl
theorem im_X6_fail : Cond.instanceMethod yX6_fail ∈ lw_all := in_all (i := 901) (by decide +kernel) rfl
theorem se_X6_fail : Cond.selects RX6 yX6_fail yX6_fail ∈ lw_all := in_all (i := 21) (by decide +kernel) rfl
theorem cw_X6_addColumn : Cond.code yX6_addColumn cX6_addColumn 1 (some (FieldType.int)) ∈ lw_all := in_all (i := 906) (by decide +kernel) rfl
theorem im_X6_addColumn : Cond.instanceMethod yX6_addColumn ∈ lw_all := in_all (i := 904) (by decide +kernel) rfl
theorem se_X6_addColumn : Cond.selects RX6 yX6_addColumn yX6_addColumn ∈ lw_all := in_all (i := 905) (by decide +kernel) rfl
theorem cw_X6_setRow : Cond.code yX6_setRow cX6_setRow 4 (some (FieldType.boolean)) ∈ lw_all := in_all (i := 910) (by decide +kernel) rfl
theorem im_X6_setRow : Cond.instanceMethod yX6_setRow ∈ lw_all := in_all (i := 908) (by decide +kernel) rfl
theorem se_X6_setRow : Cond.selects RX6 yX6_setRow yX6_setRow ∈ lw_all := in_all (i := 909) (by decide +kernel) rfl
theorem cw_X6_isRow : Cond.code yX6_isRow cX6_isRow 2 (some (FieldType.boolean)) ∈ lw_all := in_all (i := 914) (by decide +kernel) rfl
theorem im_X6_isRow : Cond.instanceMethod yX6_isRow ∈ lw_all := in_all (i := 913) (by decide +kernel) rfl
theorem se_X6_isRow : Cond.selects RX6 yX6_isRow yX6_isRow ∈ lw_all := in_all (i := 22) (by decide +kernel) rfl
theorem cw_X6_failed : Cond.code yX6_failed cX6_failed 2 (some (FieldType.boolean)) ∈ lw_all := in_all (i := 918) (by decide +kernel) rfl
theorem im_X6_failed : Cond.instanceMethod yX6_failed ∈ lw_all := in_all (i := 917) (by decide +kernel) rfl
theorem se_X6_failed : Cond.selects RX6 yX6_failed yX6_failed ∈ lw_all := in_all (i := 23) (by decide +kernel) rfl
theorem cw_X6_setColumn : Cond.code yX6_setColumn cX6_setColumn 4 (some (FieldType.boolean)) ∈ lw_all := in_all (i := 922) (by decide +kernel) rfl
theorem im_X6_setColumn : Cond.instanceMethod yX6_setColumn ∈ lw_all := in_all (i := 920) (by decide +kernel) rfl
theorem se_X6_setColumn : Cond.selects RX6 yX6_setColumn yX6_setColumn ∈ lw_all := in_all (i := 921) (by decide +kernel) rfl
theorem cw_X6_isColumn : Cond.code yX6_isColumn cX6_isColumn 2 (some (FieldType.boolean)) ∈ lw_all := in_all (i := 926) (by decide +kernel) rfl
theorem im_X6_isColumn : Cond.instanceMethod yX6_isColumn ∈ lw_all := in_all (i := 925) (by decide +kernel) rfl
theorem se_X6_isColumn : Cond.selects RX6 yX6_isColumn yX6_isColumn ∈ lw_all := in_all (i := 24) (by decide +kernel) rfl
theorem cw_X6_setCost : Cond.code yX6_setCost cX6_setCost 5 (some (FieldType.boolean)) ∈ lw_all := in_all (i := 930) (by decide +kernel) rfl
theorem im_X6_setCost : Cond.instanceMethod yX6_setCost ∈ lw_all := in_all (i := 928) (by decide +kernel) rfl
theorem se_X6_setCost : Cond.selects RX6 yX6_setCost yX6_setCost ∈ lw_all := in_all (i := 929) (by decide +kernel) rfl
theorem cw_X6_isPair : Cond.code yX6_isPair cX6_isPair 3 (some (FieldType.boolean)) ∈ lw_all := in_all (i := 934) (by decide +kernel) rfl
theorem im_X6_isPair : Cond.instanceMethod yX6_isPair ∈ lw_all := in_all (i := 933) (by decide +kernel) rfl
theorem se_X6_isPair : Cond.selects RX6 yX6_isPair yX6_isPair ∈ lw_all := in_all (i := 25) (by decide +kernel) rfl
theorem cw_X6_isCost : Cond.code yX6_isCost cX6_isCost 2 (some (FieldType.boolean)) ∈ lw_all := in_all (i := 937) (by decide +kernel) rfl
theorem st_X6_isCost : Cond.static yX6_isCost ∈ lw_all := in_all (i := 936) (by decide +kernel) rfl
theorem cw_X6_forbid : Cond.code yX6_forbid cX6_forbid 4 (some (FieldType.boolean)) ∈ lw_all := in_all (i := 943) (by decide +kernel) rfl
theorem im_X6_forbid : Cond.instanceMethod yX6_forbid ∈ lw_all := in_all (i := 941) (by decide +kernel) rfl
theorem se_X6_forbid : Cond.selects RX6 yX6_forbid yX6_forbid ∈ lw_all := in_all (i := 942) (by decide +kernel) rfl
theorem cw_X6_addToRow : Cond.code yX6_addToRow cX6_addToRow 5 (some (FieldType.int)) ∈ lw_all := in_all (i := 947) (by decide +kernel) rfl
theorem im_X6_addToRow : Cond.instanceMethod yX6_addToRow ∈ lw_all := in_all (i := 945) (by decide +kernel) rfl
theorem se_X6_addToRow : Cond.selects RX6 yX6_addToRow yX6_addToRow ∈ lw_all := in_all (i := 946) (by decide +kernel) rfl
theorem cw_X6_scaleColumn : Cond.code yX6_scaleColumn cX6_scaleColumn 7 (some (FieldType.int)) ∈ lw_all := in_all (i := 951) (by decide +kernel) rfl
theorem im_X6_scaleColumn : Cond.instanceMethod yX6_scaleColumn ∈ lw_all := in_all (i := 949) (by decide +kernel) rfl
theorem se_X6_scaleColumn : Cond.selects RX6 yX6_scaleColumn yX6_scaleColumn ∈ lw_all := in_all (i := 950) (by decide +kernel) rfl
theorem cw_J9_rint_294c1 : Cond.code yJ9_rint_294c1 cJ9_rint_294c1 2 (some (FieldType.double)) ∈ lw_all := in_all (i := 956) (by decide +kernel) rfl
theorem st_J9_rint_294c1 : Cond.static yJ9_rint_294c1 ∈ lw_all := in_all (i := 955) (by decide +kernel) rfl
theorem cw_Jxfc994_rint_294c1 : Cond.code yJxfc994_rint_294c1 cJxfc994_rint_294c1 6 (some (FieldType.double)) ∈ lw_all := in_all (i := 959) (by decide +kernel) rfl
theorem st_Jxfc994_rint_294c1 : Cond.static yJxfc994_rint_294c1 ∈ lw_all := in_all (i := 958) (by decide +kernel) rfl
theorem cw_J9_copySign_eb370 : Cond.code yJ9_copySign_eb370 cJ9_copySign_eb370 4 (some (FieldType.double)) ∈ lw_all := in_all (i := 963) (by decide +kernel) rfl
theorem st_J9_copySign_eb370 : Cond.static yJ9_copySign_eb370 ∈ lw_all := in_all (i := 962) (by decide +kernel) rfl
theorem cw_J9_abs_294c1 : Cond.code yJ9_abs_294c1 cJ9_abs_294c1 2 (some (FieldType.double)) ∈ lw_all := in_all (i := 974) (by decide +kernel) rfl
theorem st_J9_abs_294c1 : Cond.static yJ9_abs_294c1 ∈ lw_all := in_all (i := 973) (by decide +kernel) rfl
theorem cw_X6_rowCount : Cond.code yX6_rowCount cX6_rowCount 1 (some (FieldType.int)) ∈ lw_all := in_all (i := 978) (by decide +kernel) rfl
theorem im_X6_rowCount : Cond.instanceMethod yX6_rowCount ∈ lw_all := in_all (i := 976) (by decide +kernel) rfl
theorem se_X6_rowCount : Cond.selects RX6 yX6_rowCount yX6_rowCount ∈ lw_all := in_all (i := 977) (by decide +kernel) rfl
theorem cw_X6_columnCount : Cond.code yX6_columnCount cX6_columnCount 1 (some (FieldType.int)) ∈ lw_all := in_all (i := 982) (by decide +kernel) rfl
theorem im_X6_columnCount : Cond.instanceMethod yX6_columnCount ∈ lw_all := in_all (i := 980) (by decide +kernel) rfl
theorem se_X6_columnCount : Cond.selects RX6 yX6_columnCount yX6_columnCount ∈ lw_all := in_all (i := 981) (by decide +kernel) rfl
theorem cw_X6_isAllowed : Cond.code yX6_isAllowed cX6_isAllowed 3 (some (FieldType.boolean)) ∈ lw_all := in_all (i := 986) (by decide +kernel) rfl
theorem im_X6_isAllowed : Cond.instanceMethod yX6_isAllowed ∈ lw_all := in_all (i := 984) (by decide +kernel) rfl
theorem se_X6_isAllowed : Cond.selects RX6 yX6_isAllowed yX6_isAllowed ∈ lw_all := in_all (i := 985) (by decide +kernel) rfl
theorem cw_X6_cost : Cond.code yX6_cost cX6_cost 3 (some (FieldType.int)) ∈ lw_all := in_all (i := 990) (by decide +kernel) rfl
theorem im_X6_cost : Cond.instanceMethod yX6_cost ∈ lw_all := in_all (i := 988) (by decide +kernel) rfl
theorem se_X6_cost : Cond.selects RX6 yX6_cost yX6_cost ∈ lw_all := in_all (i := 989) (by decide +kernel) rfl
theorem cw_X6_size : Cond.code yX6_size cX6_size 1 (some (FieldType.int)) ∈ lw_all := in_all (i := 994) (by decide +kernel) rfl
theorem im_X6_size : Cond.instanceMethod yX6_size ∈ lw_all := in_all (i := 992) (by decide +kernel) rfl
theorem se_X6_size : Cond.selects RX6 yX6_size yX6_size ∈ lw_all := in_all (i := 993) (by decide +kernel) rfl
theorem cw_X6_solve : Cond.code yX6_solve cX6_solve 1 none ∈ lw_all := in_all (i := 998) (by decide +kernel) rfl
theorem im_X6_solve : Cond.instanceMethod yX6_solve ∈ lw_all := in_all (i := 997) (by decide +kernel) rfl
theorem se_X6_solve : Cond.selects RX6 yX6_solve yX6_solve ∈ lw_all := in_all (i := 26) (by decide +kernel) rfl
theorem cw_X6_setChoices : Cond.code yX6_setChoices cX6_setChoices 3 none ∈ lw_all := in_all (i := 1002) (by decide +kernel) rfl
theorem im_X6_setChoices : Cond.instanceMethod yX6_setChoices ∈ lw_all := in_all (i := 1001) (by decide +kernel) rfl
theorem se_X6_setChoices : Cond.selects RX6 yX6_setChoices yX6_setChoices ∈ lw_all := in_all (i := 27) (by decide +kernel) rfl
theorem cw_X6_isUsable : Cond.code yX6_isUsable cX6_isUsable 3 (some (FieldType.boolean)) ∈ lw_all := in_all (i := 1006) (by decide +kernel) rfl
theorem im_X6_isUsable : Cond.instanceMethod yX6_isUsable ∈ lw_all := in_all (i := 1005) (by decide +kernel) rfl
theorem se_X6_isUsable : Cond.selects RX6 yX6_isUsable yX6_isUsable ∈ lw_all := in_all (i := 28) (by decide +kernel) rfl
theorem cw_X6_fill : Cond.code yX6_fill cX6_fill 3 none ∈ lw_all := in_all (i := 1010) (by decide +kernel) rfl
theorem im_X6_fill : Cond.instanceMethod yX6_fill ∈ lw_all := in_all (i := 1009) (by decide +kernel) rfl
theorem se_X6_fill : Cond.selects RX6 yX6_fill yX6_fill ∈ lw_all := in_all (i := 29) (by decide +kernel) rfl
theorem cw_X6_fill_ : Cond.code yX6_fill_ cX6_fill_ 8 none ∈ lw_all := in_all (i := 1014) (by decide +kernel) rfl
theorem im_X6_fill_ : Cond.instanceMethod yX6_fill_ ∈ lw_all := in_all (i := 1013) (by decide +kernel) rfl
theorem se_X6_fill_ : Cond.selects RX6 yX6_fill_ yX6_fill_ ∈ lw_all := in_all (i := 30) (by decide +kernel) rfl
theorem cw_X6_costOf : Cond.code yX6_costOf cX6_costOf 3 (some (FieldType.int)) ∈ lw_all := in_all (i := 1018) (by decide +kernel) rfl
theorem im_X6_costOf : Cond.instanceMethod yX6_costOf ∈ lw_all := in_all (i := 1017) (by decide +kernel) rfl
theorem se_X6_costOf : Cond.selects RX6 yX6_costOf yX6_costOf ∈ lw_all := in_all (i := 31) (by decide +kernel) rfl
theorem cw_X6_columnOfBit : Cond.code yX6_columnOfBit cX6_columnOfBit 2 (some (FieldType.int)) ∈ lw_all := in_all (i := 1021) (by decide +kernel) rfl
theorem st_X6_columnOfBit : Cond.static yX6_columnOfBit ∈ lw_all := in_all (i := 1020) (by decide +kernel) rfl
theorem cw_X6_total : Cond.code yX6_total cX6_total 1 (some (FieldType.int)) ∈ lw_all := in_all (i := 1025) (by decide +kernel) rfl
theorem im_X6_total : Cond.instanceMethod yX6_total ∈ lw_all := in_all (i := 1023) (by decide +kernel) rfl
theorem se_X6_total : Cond.selects RX6 yX6_total yX6_total ∈ lw_all := in_all (i := 1024) (by decide +kernel) rfl
theorem cw_X6_meanCost : Cond.code yX6_meanCost cX6_meanCost 1 (some (FieldType.double)) ∈ lw_all := in_all (i := 1029) (by decide +kernel) rfl
theorem im_X6_meanCost : Cond.instanceMethod yX6_meanCost ∈ lw_all := in_all (i := 1027) (by decide +kernel) rfl
theorem se_X6_meanCost : Cond.selects RX6 yX6_meanCost yX6_meanCost ∈ lw_all := in_all (i := 1028) (by decide +kernel) rfl
theorem cw_X6_columnOf : Cond.code yX6_columnOf cX6_columnOf 2 (some (FieldType.int)) ∈ lw_all := in_all (i := 1033) (by decide +kernel) rfl
theorem im_X6_columnOf : Cond.instanceMethod yX6_columnOf ∈ lw_all := in_all (i := 1031) (by decide +kernel) rfl
theorem se_X6_columnOf : Cond.selects RX6 yX6_columnOf yX6_columnOf ∈ lw_all := in_all (i := 1032) (by decide +kernel) rfl
theorem cw_X6_choose : Cond.code yX6_choose cX6_choose 5 none ∈ lw_all := in_all (i := 1037) (by decide +kernel) rfl
theorem im_X6_choose : Cond.instanceMethod yX6_choose ∈ lw_all := in_all (i := 1036) (by decide +kernel) rfl
theorem se_X6_choose : Cond.selects RX6 yX6_choose yX6_choose ∈ lw_all := in_all (i := 32) (by decide +kernel) rfl
theorem cw_X6_isBest : Cond.code yX6_isBest cX6_isBest 6 (some (FieldType.boolean)) ∈ lw_all := in_all (i := 1041) (by decide +kernel) rfl
theorem im_X6_isBest : Cond.instanceMethod yX6_isBest ∈ lw_all := in_all (i := 1040) (by decide +kernel) rfl
theorem se_X6_isBest : Cond.selects RX6 yX6_isBest yX6_isBest ∈ lw_all := in_all (i := 33) (by decide +kernel) rfl
theorem cw_X6_rowOf : Cond.code yX6_rowOf cX6_rowOf 3 (some (FieldType.int)) ∈ lw_all := in_all (i := 1045) (by decide +kernel) rfl
theorem im_X6_rowOf : Cond.instanceMethod yX6_rowOf ∈ lw_all := in_all (i := 1043) (by decide +kernel) rfl
theorem se_X6_rowOf : Cond.selects RX6 yX6_rowOf yX6_rowOf ∈ lw_all := in_all (i := 1044) (by decide +kernel) rfl
theorem cw_X6_optimalCount : Cond.code yX6_optimalCount cX6_optimalCount 1 (some (FieldType.int)) ∈ lw_all := in_all (i := 1049) (by decide +kernel) rfl
theorem im_X6_optimalCount : Cond.instanceMethod yX6_optimalCount ∈ lw_all := in_all (i := 1047) (by decide +kernel) rfl
theorem se_X6_optimalCount : Cond.selects RX6 yX6_optimalCount yX6_optimalCount ∈ lw_all := in_all (i := 1048) (by decide +kernel) rfl
theorem cw_X6_isPossible : Cond.code yX6_isPossible cX6_isPossible 4 (some (FieldType.boolean)) ∈ lw_all := in_all (i := 1053) (by decide +kernel) rfl
theorem im_X6_isPossible : Cond.instanceMethod yX6_isPossible ∈ lw_all := in_all (i := 1051) (by decide +kernel) rfl
theorem se_X6_isPossible : Cond.selects RX6 yX6_isPossible yX6_isPossible ∈ lw_all := in_all (i := 1052) (by decide +kernel) rfl
theorem cw_X6_solveWith : Cond.code yX6_solveWith cX6_solveWith 4 none ∈ lw_all := in_all (i := 1057) (by decide +kernel) rfl
theorem im_X6_solveWith : Cond.instanceMethod yX6_solveWith ∈ lw_all := in_all (i := 1056) (by decide +kernel) rfl
theorem se_X6_solveWith : Cond.selects RX6 yX6_solveWith yX6_solveWith ∈ lw_all := in_all (i := 34) (by decide +kernel) rfl
theorem cw_X6_isCertain : Cond.code yX6_isCertain cX6_isCertain 4 (some (FieldType.boolean)) ∈ lw_all := in_all (i := 1061) (by decide +kernel) rfl
theorem im_X6_isCertain : Cond.instanceMethod yX6_isCertain ∈ lw_all := in_all (i := 1059) (by decide +kernel) rfl
theorem se_X6_isCertain : Cond.selects RX6 yX6_isCertain yX6_isCertain ∈ lw_all := in_all (i := 1060) (by decide +kernel) rfl
theorem cw_X6_regret : Cond.code yX6_regret cX6_regret 4 (some (FieldType.int)) ∈ lw_all := in_all (i := 1065) (by decide +kernel) rfl
theorem im_X6_regret : Cond.instanceMethod yX6_regret ∈ lw_all := in_all (i := 1063) (by decide +kernel) rfl
theorem se_X6_regret : Cond.selects RX6 yX6_regret yX6_regret ∈ lw_all := in_all (i := 1064) (by decide +kernel) rfl
theorem cw_X6_loss : Cond.code yX6_loss cX6_loss 4 (some (FieldType.int)) ∈ lw_all := in_all (i := 1069) (by decide +kernel) rfl
theorem im_X6_loss : Cond.instanceMethod yX6_loss ∈ lw_all := in_all (i := 1067) (by decide +kernel) rfl
theorem se_X6_loss : Cond.selects RX6 yX6_loss yX6_loss ∈ lw_all := in_all (i := 1068) (by decide +kernel) rfl
theorem cw_X6_greatestCost : Cond.code yX6_greatestCost cX6_greatestCost 5 (some (FieldType.int)) ∈ lw_all := in_all (i := 1073) (by decide +kernel) rfl
theorem im_X6_greatestCost : Cond.instanceMethod yX6_greatestCost ∈ lw_all := in_all (i := 1071) (by decide +kernel) rfl
theorem se_X6_greatestCost : Cond.selects RX6 yX6_greatestCost yX6_greatestCost ∈ lw_all := in_all (i := 1072) (by decide +kernel) rfl
theorem cw_X6_rank : Cond.code yX6_rank cX6_rank 7 (some (FieldType.int)) ∈ lw_all := in_all (i := 1078) (by decide +kernel) rfl
theorem im_X6_rank : Cond.instanceMethod yX6_rank ∈ lw_all := in_all (i := 1076) (by decide +kernel) rfl
theorem se_X6_rank : Cond.selects RX6 yX6_rank yX6_rank ∈ lw_all := in_all (i := 1077) (by decide +kernel) rfl
theorem cw_X6_addPart : Cond.code yX6_addPart cX6_addPart 7 none ∈ lw_all := in_all (i := 1082) (by decide +kernel) rfl
theorem im_X6_addPart : Cond.instanceMethod yX6_addPart ∈ lw_all := in_all (i := 1081) (by decide +kernel) rfl
theorem se_X6_addPart : Cond.selects RX6 yX6_addPart yX6_addPart ∈ lw_all := in_all (i := 35) (by decide +kernel) rfl
theorem cw_X6_isAhead : Cond.code yX6_isAhead cX6_isAhead 4 (some (FieldType.boolean)) ∈ lw_all := in_all (i := 1086) (by decide +kernel) rfl
theorem im_X6_isAhead : Cond.instanceMethod yX6_isAhead ∈ lw_all := in_all (i := 1085) (by decide +kernel) rfl
theorem se_X6_isAhead : Cond.selects RX6 yX6_isAhead yX6_isAhead ∈ lw_all := in_all (i := 36) (by decide +kernel) rfl
theorem cw_X6_remove : Cond.code yX6_remove cX6_remove 3 none ∈ lw_all := in_all (i := 1090) (by decide +kernel) rfl
theorem im_X6_remove : Cond.instanceMethod yX6_remove ∈ lw_all := in_all (i := 1089) (by decide +kernel) rfl
theorem se_X6_remove : Cond.selects RX6 yX6_remove yX6_remove ∈ lw_all := in_all (i := 37) (by decide +kernel) rfl
theorem cw_X6_rankedCost : Cond.code yX6_rankedCost cX6_rankedCost 2 (some (FieldType.int)) ∈ lw_all := in_all (i := 1094) (by decide +kernel) rfl
theorem im_X6_rankedCost : Cond.instanceMethod yX6_rankedCost ∈ lw_all := in_all (i := 1092) (by decide +kernel) rfl
theorem se_X6_rankedCost : Cond.selects RX6 yX6_rankedCost yX6_rankedCost ∈ lw_all := in_all (i := 1093) (by decide +kernel) rfl
theorem cw_X6_rankedColumn : Cond.code yX6_rankedColumn cX6_rankedColumn 3 (some (FieldType.int)) ∈ lw_all := in_all (i := 1098) (by decide +kernel) rfl
theorem im_X6_rankedColumn : Cond.instanceMethod yX6_rankedColumn ∈ lw_all := in_all (i := 1096) (by decide +kernel) rfl
theorem se_X6_rankedColumn : Cond.selects RX6 yX6_rankedColumn yX6_rankedColumn ∈ lw_all := in_all (i := 1097) (by decide +kernel) rfl
theorem cw_X6_push : Cond.code yX6_push cX6_push 2 (some (FieldType.int)) ∈ lw_all := in_all (i := 1102) (by decide +kernel) rfl
theorem im_X6_push : Cond.instanceMethod yX6_push ∈ lw_all := in_all (i := 1100) (by decide +kernel) rfl
theorem se_X6_push : Cond.selects RX6 yX6_push yX6_push ∈ lw_all := in_all (i := 1101) (by decide +kernel) rfl
theorem cw_X6_pop : Cond.code yX6_pop cX6_pop 2 (some (FieldType.int)) ∈ lw_all := in_all (i := 1106) (by decide +kernel) rfl
theorem im_X6_pop : Cond.instanceMethod yX6_pop ∈ lw_all := in_all (i := 1104) (by decide +kernel) rfl
theorem se_X6_pop : Cond.selects RX6 yX6_pop yX6_pop ∈ lw_all := in_all (i := 1105) (by decide +kernel) rfl
theorem cw_X6_digest : Cond.code yX6_digest cX6_digest 5 (some (FieldType.long)) ∈ lw_all := in_all (i := 1110) (by decide +kernel) rfl
theorem im_X6_digest : Cond.instanceMethod yX6_digest ∈ lw_all := in_all (i := 1108) (by decide +kernel) rfl
theorem se_X6_digest : Cond.selects RX6 yX6_digest yX6_digest ∈ lw_all := in_all (i := 1109) (by decide +kernel) rfl
theorem q_min1 : Cond.static Lib.Math.min.name ∈ lw_all := in_all (i := 291) (by decide +kernel) rfl
theorem q_min2 : Cond.initialized "java/lang/Math" ∈ lw_all := ik_RJ9
theorem q_min3 : Cond.code Lib.Math.min.name Lib.Math.min.code 2 (some .int) ∈ lw_all := in_all (i := 292) (by decide +kernel) rfl
theorem q_cpy1 : Cond.native arraycopyName ∈ lw_all := in_all (i := 780) (by decide +kernel) rfl
theorem q_cpy2 : Cond.static arraycopyName ∈ lw_all := in_all (i := 779) (by decide +kernel) rfl
theorem q_cpy3 : Cond.initialized "java/lang/System" ∈ lw_all := ik_RJ10
theorem w_X0 : ∀ w ∈ u_ws RX0 TX0 5, w ∈ lw_all := by
  intro w hw
  have h : ∀ i, i < 5 → lw_tbl[([190, 192, 194, 196, 198] : List Nat).getD i 0]? = some (u_lay RX0 TX0 i) ∧ goodWord (u_lay RX0 TX0 i) = true := by decide +kernel
  obtain ⟨i, hi, rfl⟩ := List.mem_map.mp hw
  exact in_all (h i (List.mem_range.mp hi)).1 (h i (List.mem_range.mp hi)).2
theorem w_X1 : ∀ w ∈ u_ws RX1 TX1 4, w ∈ lw_all := by
  intro w hw
  have h : ∀ i, i < 4 → lw_tbl[([117, 119, 121, 123] : List Nat).getD i 0]? = some (u_lay RX1 TX1 i) ∧ goodWord (u_lay RX1 TX1 i) = true := by decide +kernel
  obtain ⟨i, hi, rfl⟩ := List.mem_map.mp hw
  exact in_all (h i (List.mem_range.mp hi)).1 (h i (List.mem_range.mp hi)).2
theorem w_X2 : ∀ w ∈ u_ws RX2 TX2 2, w ∈ lw_all := by
  intro w hw
  have h : ∀ i, i < 2 → lw_tbl[([205, 207] : List Nat).getD i 0]? = some (u_lay RX2 TX2 i) ∧ goodWord (u_lay RX2 TX2 i) = true := by decide +kernel
  obtain ⟨i, hi, rfl⟩ := List.mem_map.mp hw
  exact in_all (h i (List.mem_range.mp hi)).1 (h i (List.mem_range.mp hi)).2
theorem w_X3 : ∀ w ∈ u_ws RX3 TX3 8, w ∈ lw_all := by
  intro w hw
  have h : ∀ i, i < 8 → lw_tbl[([149, 151, 153, 155, 157, 159, 161, 163] : List Nat).getD i 0]? = some (u_lay RX3 TX3 i) ∧ goodWord (u_lay RX3 TX3 i) = true := by decide +kernel
  obtain ⟨i, hi, rfl⟩ := List.mem_map.mp hw
  exact in_all (h i (List.mem_range.mp hi)).1 (h i (List.mem_range.mp hi)).2
theorem w_X4 : ∀ w ∈ u_ws RX4 TX4 5, w ∈ lw_all := by
  intro w hw
  have h : ∀ i, i < 5 → lw_tbl[([94, 96, 98, 100, 102] : List Nat).getD i 0]? = some (u_lay RX4 TX4 i) ∧ goodWord (u_lay RX4 TX4 i) = true := by decide +kernel
  obtain ⟨i, hi, rfl⟩ := List.mem_map.mp hw
  exact in_all (h i (List.mem_range.mp hi)).1 (h i (List.mem_range.mp hi)).2
theorem w_X5 : ∀ w ∈ u_ws RX5 TX5 5, w ∈ lw_all := by
  intro w hw
  have h : ∀ i, i < 5 → lw_tbl[([215, 217, 219, 221, 223] : List Nat).getD i 0]? = some (u_lay RX5 TX5 i) ∧ goodWord (u_lay RX5 TX5 i) = true := by decide +kernel
  obtain ⟨i, hi, rfl⟩ := List.mem_map.mp hw
  exact in_all (h i (List.mem_range.mp hi)).1 (h i (List.mem_range.mp hi)).2
theorem w_X6 : ∀ w ∈ u_ws RX6 TX6 30, w ∈ lw_all := by
  intro w hw
  have h : ∀ i, i < 30 → lw_tbl[([829, 831, 833, 835, 837, 839, 841, 843, 845, 847, 849, 851, 853, 855, 857, 859, 861, 863, 865, 867, 869, 871, 873, 875, 877, 879, 881, 883, 885, 887] : List Nat).getD i 0]? = some (u_lay RX6 TX6 i) ∧ goodWord (u_lay RX6 TX6 i) = true := by decide +kernel
  obtain ⟨i, hi, rfl⟩ := List.mem_map.mp hw
  exact in_all (h i (List.mem_range.mp hi)).1 (h i (List.mem_range.mp hi)).2
