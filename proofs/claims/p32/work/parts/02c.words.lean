theorem ik_RL : Cond.initialized RL ∈ lw_all := in_all (i := 13) (by decide +kernel) rfl
theorem ik_RX5 : Cond.initialized RX5 ∈ lw_all := in_all (i := 14) (by decide +kernel) rfl
theorem ik_RX4 : Cond.initialized RX4 ∈ lw_all := in_all (i := 15) (by decide +kernel) rfl
theorem ik_RJ7 : Cond.initialized RJ7 ∈ lw_all := in_all (i := 16) (by decide +kernel) rfl
theorem ik_RX1 : Cond.initialized RX1 ∈ lw_all := in_all (i := 17) (by decide +kernel) rfl
theorem ik_RX3 : Cond.initialized RX3 ∈ lw_all := in_all (i := 18) (by decide +kernel) rfl
theorem ik_RX2 : Cond.initialized RX2 ∈ lw_all := in_all (i := 19) (by decide +kernel) rfl
theorem ik_RX0 : Cond.initialized RX0 ∈ lw_all := in_all (i := 20) (by decide +kernel) rfl
theorem ik_Qjava_lang_Throwable : Cond.initialized "java/lang/Throwable" ∈ lw_all := in_all (i := 21) (by decide +kernel) rfl
theorem ik_Qjava_lang_Exception : Cond.initialized "java/lang/Exception" ∈ lw_all := in_all (i := 22) (by decide +kernel) rfl
theorem ik_Qjava_lang_RuntimeException : Cond.initialized "java/lang/RuntimeException" ∈ lw_all := in_all (i := 23) (by decide +kernel) rfl
theorem ik_Qjava_lang_IllegalStateException : Cond.initialized "java/lang/IllegalStateException" ∈ lw_all := in_all (i := 24) (by decide +kernel) rfl
theorem ik_Qjava_lang_IndexOutOfBoundsException : Cond.initialized "java/lang/IndexOutOfBoundsException" ∈ lw_all := in_all (i := 25) (by decide +kernel) rfl
theorem ik_Qjava_lang_IllegalArgumentException : Cond.initialized "java/lang/IllegalArgumentException" ∈ lw_all := in_all (i := 26) (by decide +kernel) rfl
theorem ik_RJ9 : Cond.initialized RJ9 ∈ lw_all := in_all (i := 27) (by decide +kernel) rfl
theorem ik_RJ6 : Cond.initialized RJ6 ∈ lw_all := in_all (i := 28) (by decide +kernel) rfl
theorem ck_RL_10 : Cond.classLink RL 10 RX5 ∈ lw_all := in_all (i := 29) (by decide +kernel) rfl
theorem nw_RX5 : Cond.instantiable RX5 5 ∈ lw_all := in_all (i := 30) (by decide +kernel) rfl
theorem lk_RL_51 : Cond.methodLink RL 51 yX5_init ∈ lw_all := in_all (i := 31) (by decide +kernel) rfl
theorem lk_RX5_3 : Cond.methodLink RX5 3 objectInit ∈ lw_all := in_all (i := 34) (by decide +kernel) rfl
theorem ck_RX5_9 : Cond.classLink RX5 9 RX4 ∈ lw_all := in_all (i := 37) (by decide +kernel) rfl
theorem nw_RX4 : Cond.instantiable RX4 5 ∈ lw_all := in_all (i := 38) (by decide +kernel) rfl
theorem lk_RX5_11 : Cond.methodLink RX5 11 yX4_init ∈ lw_all := in_all (i := 39) (by decide +kernel) rfl
theorem lk_RX4_3 : Cond.methodLink RX4 3 objectInit ∈ lw_all := in_all (i := 42) (by decide +kernel) rfl
theorem lk_RX4_15 : Cond.methodLink RX4 15 yJ7_fill_53178 ∈ lw_all := in_all (i := 43) (by decide +kernel) rfl
theorem fk_RX4_9 : Cond.fieldLink RX4 9 "AssignmentDesk$Table" "cells" "[I" ∈ lw_all := in_all (i := 46) (by decide +kernel) rfl
theorem fk_RX5_237 : Cond.fieldLinkNest RX5 237 "AssignmentDesk$Table" "cells" "[I" RX5 ∈ lw_nst := in_nst (i := 47) (by decide +kernel) rfl
theorem fk_RX5_37 : Cond.fieldLinkNest RX5 37 "AssignmentDesk$Table" "rows" "I" RX5 ∈ lw_nst := in_nst (i := 48) (by decide +kernel) rfl
theorem fk_RX4_25 : Cond.fieldLink RX4 25 "AssignmentDesk$Table" "rows" "I" ∈ lw_all := in_all (i := 49) (by decide +kernel) rfl
theorem fk_RX5_56 : Cond.fieldLinkNest RX5 56 "AssignmentDesk$Table" "columns" "I" RX5 ∈ lw_nst := in_nst (i := 50) (by decide +kernel) rfl
theorem fk_RX4_35 : Cond.fieldLink RX4 35 "AssignmentDesk$Table" "columns" "I" ∈ lw_all := in_all (i := 51) (by decide +kernel) rfl
theorem fk_RX4_21 : Cond.fieldLink RX4 21 "AssignmentDesk$Table" "activeRows" "I" ∈ lw_all := in_all (i := 52) (by decide +kernel) rfl
theorem fk_RX5_68 : Cond.fieldLinkNest RX5 68 "AssignmentDesk$Table" "activeRows" "I" RX5 ∈ lw_nst := in_nst (i := 53) (by decide +kernel) rfl
theorem fk_RX4_32 : Cond.fieldLink RX4 32 "AssignmentDesk$Table" "activeColumns" "I" ∈ lw_all := in_all (i := 54) (by decide +kernel) rfl
theorem fk_RX3_56 : Cond.fieldLinkNest RX3 56 "AssignmentDesk$Table" "activeColumns" "I" RX5 ∈ lw_nst := in_nst (i := 55) (by decide +kernel) rfl
theorem fk_RX5_82 : Cond.fieldLinkNest RX5 82 "AssignmentDesk$Table" "activeColumns" "I" RX5 ∈ lw_nst := in_nst (i := 56) (by decide +kernel) rfl
theorem ck_RX5_16 : Cond.classLink RX5 16 RX1 ∈ lw_all := in_all (i := 69) (by decide +kernel) rfl
theorem nw_RX1 : Cond.instantiable RX1 4 ∈ lw_all := in_all (i := 70) (by decide +kernel) rfl
theorem lk_RX5_18 : Cond.methodLinkNest RX5 18 yX1_init RX5 ∈ lw_nst := in_nst (i := 71) (by decide +kernel) rfl
theorem lk_RX1_3 : Cond.methodLink RX1 3 objectInit ∈ lw_all := in_all (i := 74) (by decide +kernel) rfl
theorem fk_RX1_9 : Cond.fieldLink RX1 9 "AssignmentDesk$Levels" "cells" "[I" ∈ lw_all := in_all (i := 75) (by decide +kernel) rfl
theorem fk_RX1_15 : Cond.fieldLink RX1 15 "AssignmentDesk$Levels" "activeRows" "[I" ∈ lw_all := in_all (i := 76) (by decide +kernel) rfl
theorem fk_RX1_18 : Cond.fieldLink RX1 18 "AssignmentDesk$Levels" "activeColumns" "[I" ∈ lw_all := in_all (i := 77) (by decide +kernel) rfl
theorem ck_RX5_23 : Cond.classLink RX5 23 RX3 ∈ lw_all := in_all (i := 87) (by decide +kernel) rfl
theorem nw_RX3 : Cond.instantiable RX3 8 ∈ lw_all := in_all (i := 88) (by decide +kernel) rfl
theorem lk_RX5_25 : Cond.methodLinkNest RX5 25 yX3_init RX5 ∈ lw_nst := in_nst (i := 89) (by decide +kernel) rfl
theorem lk_RX3_5 : Cond.methodLink RX3 5 objectInit ∈ lw_all := in_all (i := 92) (by decide +kernel) rfl
theorem ck_RX3_18 : Cond.classLink RX3 18 "[[I" ∈ lw_all := in_all (i := 93) (by decide +kernel) rfl
theorem fk_RX3_11 : Cond.fieldLink RX3 11 "AssignmentDesk$Solver" "scores" "[I" ∈ lw_all := in_all (i := 95) (by decide +kernel) rfl
theorem fk_RX3_15 : Cond.fieldLink RX3 15 "AssignmentDesk$Solver" "usable" "[I" ∈ lw_all := in_all (i := 96) (by decide +kernel) rfl
theorem fk_RX3_46 : Cond.fieldLink RX3 46 "AssignmentDesk$Solver" "active" "I" ∈ lw_all := in_all (i := 97) (by decide +kernel) rfl
theorem fk_RX3_20 : Cond.fieldLink RX3 20 "AssignmentDesk$Solver" "least" "[[I" ∈ lw_all := in_all (i := 98) (by decide +kernel) rfl
theorem fk_RX3_23 : Cond.fieldLink RX3 23 "AssignmentDesk$Solver" "supposed" "[I" ∈ lw_all := in_all (i := 99) (by decide +kernel) rfl
theorem fk_RX3_26 : Cond.fieldLink RX3 26 "AssignmentDesk$Solver" "ways" "[I" ∈ lw_all := in_all (i := 100) (by decide +kernel) rfl
theorem fk_RX3_29 : Cond.fieldLink RX3 29 "AssignmentDesk$Solver" "kept" "[I" ∈ lw_all := in_all (i := 101) (by decide +kernel) rfl
theorem fk_RX5_150 : Cond.fieldLinkNest RX5 150 "AssignmentDesk$Solver" "kept" "[I" RX5 ∈ lw_nst := in_nst (i := 102) (by decide +kernel) rfl
theorem fk_RX3_50 : Cond.fieldLink RX3 50 "AssignmentDesk$Solver" "fullScore" "I" ∈ lw_all := in_all (i := 103) (by decide +kernel) rfl
theorem fk_RX5_140 : Cond.fieldLinkNest RX5 140 "AssignmentDesk$Solver" "fullScore" "I" RX5 ∈ lw_nst := in_nst (i := 104) (by decide +kernel) rfl
theorem ck_RX5_30 : Cond.classLink RX5 30 RX2 ∈ lw_all := in_all (i := 122) (by decide +kernel) rfl
theorem nw_RX2 : Cond.instantiable RX2 2 ∈ lw_all := in_all (i := 123) (by decide +kernel) rfl
theorem lk_RX5_32 : Cond.methodLinkNest RX5 32 yX2_init RX5 ∈ lw_nst := in_nst (i := 124) (by decide +kernel) rfl
theorem lk_RX2_3 : Cond.methodLink RX2 3 objectInit ∈ lw_all := in_all (i := 127) (by decide +kernel) rfl
theorem ck_RX2_9 : Cond.classLink RX2 9 RX0 ∈ lw_all := in_all (i := 128) (by decide +kernel) rfl
theorem nw_RX0 : Cond.instantiable RX0 5 ∈ lw_all := in_all (i := 129) (by decide +kernel) rfl
theorem lk_RX2_11 : Cond.methodLinkNest RX2 11 yX0_init RX5 ∈ lw_nst := in_nst (i := 130) (by decide +kernel) rfl
theorem lk_RX0_3 : Cond.methodLink RX0 3 objectInit ∈ lw_all := in_all (i := 133) (by decide +kernel) rfl
theorem fk_RX0_9 : Cond.fieldLink RX0 9 "AssignmentDesk$Beginnings" "scores" "[I" ∈ lw_all := in_all (i := 134) (by decide +kernel) rfl
theorem fk_RX0_15 : Cond.fieldLink RX0 15 "AssignmentDesk$Beginnings" "paths" "[J" ∈ lw_all := in_all (i := 135) (by decide +kernel) rfl
theorem fk_RX0_19 : Cond.fieldLink RX0 19 "AssignmentDesk$Beginnings" "pasts" "[I" ∈ lw_all := in_all (i := 136) (by decide +kernel) rfl
theorem fk_RX0_22 : Cond.fieldLink RX0 22 "AssignmentDesk$Beginnings" "frees" "[I" ∈ lw_all := in_all (i := 137) (by decide +kernel) rfl
theorem fk_RX2_12 : Cond.fieldLink RX2 12 "AssignmentDesk$Ranking" "found" "LAssignmentDesk$Beginnings;" ∈ lw_all := in_all (i := 150) (by decide +kernel) rfl
theorem fk_RX2_18 : Cond.fieldLink RX2 18 "AssignmentDesk$Ranking" "longer" "LAssignmentDesk$Beginnings;" ∈ lw_all := in_all (i := 151) (by decide +kernel) rfl
theorem fk_RX5_12 : Cond.fieldLink RX5 12 "AssignmentDesk" "table" "LAssignmentDesk$Table;" ∈ lw_all := in_all (i := 157) (by decide +kernel) rfl
theorem fk_RX5_19 : Cond.fieldLink RX5 19 "AssignmentDesk" "levels" "LAssignmentDesk$Levels;" ∈ lw_all := in_all (i := 158) (by decide +kernel) rfl
theorem fk_RX5_26 : Cond.fieldLink RX5 26 "AssignmentDesk" "solver" "LAssignmentDesk$Solver;" ∈ lw_all := in_all (i := 159) (by decide +kernel) rfl
theorem fk_RX5_33 : Cond.fieldLink RX5 33 "AssignmentDesk" "ranking" "LAssignmentDesk$Ranking;" ∈ lw_all := in_all (i := 160) (by decide +kernel) rfl
theorem fk_RX5_48 : Cond.fieldLink RX5 48 "AssignmentDesk" "isSolved" "Z" ∈ lw_all := in_all (i := 161) (by decide +kernel) rfl
theorem lk_RL_60 : Cond.methodLink RL 60 yX5_setRow ∈ lw_all := in_all (i := 173) (by decide +kernel) rfl
theorem lk_RX5_64 : Cond.methodLink RX5 64 yX5_requireRow ∈ lw_all := in_all (i := 177) (by decide +kernel) rfl
theorem ck_RX5_226 : Cond.classLink RX5 226 "java/lang/IndexOutOfBoundsException" ∈ lw_all := in_all (i := 181) (by decide +kernel) rfl
theorem nw_Qjava_lang_IndexOutOfBoundsException : Cond.instantiable "java/lang/IndexOutOfBoundsException" 6 ∈ lw_all := in_all (i := 182) (by decide +kernel) rfl
theorem fk_Qjava_lang_Throwable_198 : Cond.fieldLink "java/lang/Throwable" 198 "java/lang/Throwable" "backtrace" "Ljava/lang/Object;" ∈ lw_all := in_all (i := 202) (by decide +kernel) rfl
theorem lk_Qjava_lang_Throwable_1 : Cond.methodLink "java/lang/Throwable" 1 objectInit ∈ lw_all := in_all (i := 206) (by decide +kernel) rfl
theorem fk_Qjava_lang_Throwable_13 : Cond.fieldLink "java/lang/Throwable" 13 "java/lang/Throwable" "UNASSIGNED_STACK" "[Ljava/lang/StackTraceElement;" ∈ lw_all := in_all (i := 207) (by decide +kernel) rfl
theorem fk_Qjava_lang_Throwable_20 : Cond.fieldLink "java/lang/Throwable" 20 "java/lang/Throwable" "SUPPRESSED_SENTINEL" "Ljava/util/List;" ∈ lw_all := in_all (i := 209) (by decide +kernel) rfl
theorem lk_Qjava_lang_Throwable_27 : Cond.methodLink "java/lang/Throwable" 27 ⟨"java/lang/Throwable", "fillInStackTrace", "()Ljava/lang/Throwable;"⟩ ∈ lw_all := in_all (i := 211) (by decide +kernel) rfl
theorem lk_Qjava_lang_Throwable_202 : Cond.methodLink "java/lang/Throwable" 202 ⟨"java/lang/Throwable", "fillInStackTrace", "(I)Ljava/lang/Throwable;"⟩ ∈ lw_all := in_all (i := 217) (by decide +kernel) rfl
theorem nw_Qjava_lang_Throwable : Cond.instantiable "java/lang/Throwable" 6 ∈ lw_all := in_all (i := 220) (by decide +kernel) rfl
theorem sk_RX5_228 : Cond.stringRef RX5 228 "there is no such row" ∈ lw_str := in_str (i := 222) (by decide +kernel) rfl
theorem lk_RX5_230 : Cond.methodLink RX5 230 ⟨"java/lang/IndexOutOfBoundsException", "<init>", "(Ljava/lang/String;)V"⟩ ∈ lw_all := in_all (i := 223) (by decide +kernel) rfl
theorem lk_Qjava_lang_IndexOutOfBoundsException_7 : Cond.methodLink "java/lang/IndexOutOfBoundsException" 7 ⟨"java/lang/RuntimeException", "<init>", "(Ljava/lang/String;)V"⟩ ∈ lw_all := in_all (i := 226) (by decide +kernel) rfl
theorem lk_Qjava_lang_RuntimeException_7 : Cond.methodLink "java/lang/RuntimeException" 7 ⟨"java/lang/Exception", "<init>", "(Ljava/lang/String;)V"⟩ ∈ lw_all := in_all (i := 229) (by decide +kernel) rfl
theorem lk_Qjava_lang_Exception_7 : Cond.methodLink "java/lang/Exception" 7 ⟨"java/lang/Throwable", "<init>", "(Ljava/lang/String;)V"⟩ ∈ lw_all := in_all (i := 232) (by decide +kernel) rfl
theorem fk_Qjava_lang_Throwable_31 : Cond.fieldLink "java/lang/Throwable" 31 "java/lang/Throwable" "detailMessage" "Ljava/lang/String;" ∈ lw_all := in_all (i := 236) (by decide +kernel) rfl
theorem fk_Qjava_lang_Throwable_7 : Cond.fieldLink "java/lang/Throwable" 7 "java/lang/Throwable" "cause" "Ljava/lang/Throwable;" ∈ lw_all := in_all (i := 237) (by decide +kernel) rfl
theorem fk_Qjava_lang_Throwable_17 : Cond.fieldLink "java/lang/Throwable" 17 "java/lang/Throwable" "stackTrace" "[Ljava/lang/StackTraceElement;" ∈ lw_all := in_all (i := 238) (by decide +kernel) rfl
theorem fk_Qjava_lang_Throwable_24 : Cond.fieldLink "java/lang/Throwable" 24 "java/lang/Throwable" "suppressedExceptions" "Ljava/util/List;" ∈ lw_all := in_all (i := 239) (by decide +kernel) rfl
theorem lk_RX5_71 : Cond.methodLink RX5 71 yX5_hasBit ∈ lw_all := in_all (i := 249) (by decide +kernel) rfl
theorem lk_RX5_75 : Cond.methodLink RX5 75 yX5_withBit ∈ lw_all := in_all (i := 252) (by decide +kernel) rfl
theorem lk_RL_64 : Cond.methodLink RL 64 yX5_setColumn ∈ lw_all := in_all (i := 255) (by decide +kernel) rfl
theorem lk_RX5_79 : Cond.methodLink RX5 79 yX5_requireColumn ∈ lw_all := in_all (i := 259) (by decide +kernel) rfl
theorem sk_RX5_231 : Cond.stringRef RX5 231 "there is no such column" ∈ lw_str := in_str (i := 263) (by decide +kernel) rfl
theorem lk_RL_28 : Cond.methodLink RL 28 yX5_setCost ∈ lw_all := in_all (i := 264) (by decide +kernel) rfl
theorem lk_RX5_85 : Cond.methodLink RX5 85 yX5_requirePair ∈ lw_all := in_all (i := 268) (by decide +kernel) rfl
theorem lk_RX5_89 : Cond.methodLink RX5 89 yX5_isCost ∈ lw_all := in_all (i := 272) (by decide +kernel) rfl
theorem nk_RX5_243 : Cond.constantLong RX5 243 (-10000) ∈ lw_all := in_all (i := 275) (by decide +kernel) rfl
theorem nk_RX5_245 : Cond.constantLong RX5 245 (10000) ∈ lw_all := in_all (i := 276) (by decide +kernel) rfl
theorem ck_RX5_93 : Cond.classLink RX5 93 "java/lang/IllegalArgumentException" ∈ lw_all := in_all (i := 277) (by decide +kernel) rfl
theorem nw_Qjava_lang_IllegalArgumentException : Cond.instantiable "java/lang/IllegalArgumentException" 6 ∈ lw_all := in_all (i := 278) (by decide +kernel) rfl
theorem sk_RX5_95 : Cond.stringRef RX5 95 "the cost is not from -10000 to 10000" ∈ lw_str := in_str (i := 286) (by decide +kernel) rfl
theorem lk_RX5_97 : Cond.methodLink RX5 97 ⟨"java/lang/IllegalArgumentException", "<init>", "(Ljava/lang/String;)V"⟩ ∈ lw_all := in_all (i := 287) (by decide +kernel) rfl
theorem lk_Qjava_lang_IllegalArgumentException_7 : Cond.methodLink "java/lang/IllegalArgumentException" 7 ⟨"java/lang/RuntimeException", "<init>", "(Ljava/lang/String;)V"⟩ ∈ lw_all := in_all (i := 290) (by decide +kernel) rfl
theorem lk_RX5_98 : Cond.methodLink RX5 98 yX5_replaceCell ∈ lw_all := in_all (i := 293) (by decide +kernel) rfl
theorem lk_RX5_128 : Cond.methodLink RX5 128 yX4_cell ∈ lw_all := in_all (i := 297) (by decide +kernel) rfl
theorem lk_RL_56 : Cond.methodLink RL 56 yX5_forbid ∈ lw_all := in_all (i := 301) (by decide +kernel) rfl
theorem lk_RL_70 : Cond.methodLink RL 70 yX5_size ∈ lw_all := in_all (i := 305) (by decide +kernel) rfl
theorem lk_RX5_136 : Cond.methodLink RX5 136 yX5_solved ∈ lw_all := in_all (i := 309) (by decide +kernel) rfl
theorem lk_RX5_240 : Cond.methodLink RX5 240 yX3_solve ∈ lw_all := in_all (i := 313) (by decide +kernel) rfl
theorem lk_RX3_38 : Cond.methodLink RX3 38 yX3_read ∈ lw_all := in_all (i := 317) (by decide +kernel) rfl
theorem lk_RX3_61 : Cond.methodLink RX3 61 yX4_usableColumns ∈ lw_all := in_all (i := 321) (by decide +kernel) rfl
theorem lk_RX4_46 : Cond.methodLink RX4 46 yX4_isUsable ∈ lw_all := in_all (i := 325) (by decide +kernel) rfl
theorem lk_RX4_38 : Cond.methodLinkNest RX4 38 yX5_hasBit RX5 ∈ lw_nst := in_nst (i := 329) (by decide +kernel) rfl
theorem lk_RX4_42 : Cond.methodLink RX4 42 yX4_cell ∈ lw_all := in_all (i := 330) (by decide +kernel) rfl
theorem lk_RX4_28 : Cond.methodLinkNest RX4 28 yX5_withBit RX5 ∈ lw_nst := in_nst (i := 331) (by decide +kernel) rfl
theorem lk_RX3_64 : Cond.methodLink RX3 64 yX4_cell ∈ lw_all := in_all (i := 332) (by decide +kernel) rfl
theorem nk_RX3_33 : Cond.constant RX3 33 (1000000) ∈ lw_all := in_all (i := 333) (by decide +kernel) rfl
theorem lk_RX3_42 : Cond.methodLink RX3 42 yX3_fillRow ∈ lw_all := in_all (i := 334) (by decide +kernel) rfl
theorem lk_RX3_68 : Cond.methodLink RX3 68 yX3_canBeLeft ∈ lw_all := in_all (i := 338) (by decide +kernel) rfl
theorem lk_RX3_76 : Cond.methodLink RX3 76 yJ6_bitCount_0f7a4 ∈ lw_all := in_all (i := 342) (by decide +kernel) rfl
theorem nk_RJ6_265 : Cond.constant RJ6 265 (1431655765) ∈ lw_all := in_all (i := 345) (by decide +kernel) rfl
theorem nk_RJ6_266 : Cond.constant RJ6 266 (858993459) ∈ lw_all := in_all (i := 346) (by decide +kernel) rfl
theorem nk_RJ6_267 : Cond.constant RJ6 267 (252645135) ∈ lw_all := in_all (i := 347) (by decide +kernel) rfl
theorem lk_RX3_72 : Cond.methodLink RX3 72 yX3_leastFrom ∈ lw_all := in_all (i := 348) (by decide +kernel) rfl
theorem lk_RX3_81 : Cond.methodLinkNest RX3 81 yX5_hasBit RX5 ∈ lw_nst := in_nst (i := 352) (by decide +kernel) rfl
theorem lk_RX3_84 : Cond.methodLinkNest RX3 84 yX5_withBit RX5 ∈ lw_nst := in_nst (i := 353) (by decide +kernel) rfl
theorem lk_RX3_88 : Cond.methodLink RX3 88 Lib.Math.min.name ∈ lw_all := in_all (i := 354) (by decide +kernel) rfl
theorem lk_RX3_53 : Cond.methodLink RX3 53 yX3_keepFirst ∈ lw_all := in_all (i := 357) (by decide +kernel) rfl
theorem lk_RX3_93 : Cond.methodLink RX3 93 yX3_firstOptimal ∈ lw_all := in_all (i := 361) (by decide +kernel) rfl
theorem lk_RX3_96 : Cond.methodLink RX3 96 yX3_isOptimal ∈ lw_all := in_all (i := 365) (by decide +kernel) rfl
theorem lk_RX5_143 : Cond.methodLink RX5 143 yX3_sizeOf ∈ lw_all := in_all (i := 369) (by decide +kernel) rfl
theorem nk_RX3_32 : Cond.constant RX3 32 (500000) ∈ lw_all := in_all (i := 372) (by decide +kernel) rfl
theorem lk_RL_73 : Cond.methodLink RL 73 yX5_total ∈ lw_all := in_all (i := 373) (by decide +kernel) rfl
theorem lk_RX5_147 : Cond.methodLink RX5 147 yX3_costOf ∈ lw_all := in_all (i := 377) (by decide +kernel) rfl
theorem lk_RX3_34 : Cond.methodLink RX3 34 yX3_sizeOf ∈ lw_all := in_all (i := 380) (by decide +kernel) rfl
theorem lk_RL_76 : Cond.methodLink RL 76 yX5_columnOf ∈ lw_all := in_all (i := 381) (by decide +kernel) rfl
theorem lk_RL_24 : Cond.methodLink RL 24 yL_below ∈ lw_all := in_all (i := 385) (by decide +kernel) rfl
theorem nk_RL_7 : Cond.constant RL 7 (2147483647) ∈ lw_all := in_all (i := 388) (by decide +kernel) rfl
theorem lk_RL_18 : Cond.methodLink RL 18 yL_cell ∈ lw_all := in_all (i := 389) (by decide +kernel) rfl
theorem nk_RL_8 : Cond.constant RL 8 (790386105) ∈ lw_all := in_all (i := 392) (by decide +kernel) rfl
theorem lk_RL_52 : Cond.methodLink RL 52 yL_build ∈ lw_all := in_all (i := 393) (by decide +kernel) rfl
theorem lk_RL_9 : Cond.methodLink RL 9 yX5_addRow ∈ lw_all := in_all (i := 396) (by decide +kernel) rfl
theorem ck_RX5_41 : Cond.classLink RX5 41 "java/lang/IllegalStateException" ∈ lw_all := in_all (i := 400) (by decide +kernel) rfl
theorem nw_Qjava_lang_IllegalStateException : Cond.instantiable "java/lang/IllegalStateException" 6 ∈ lw_all := in_all (i := 401) (by decide +kernel) rfl
theorem sk_RX5_43 : Cond.stringRef RX5 43 "there are 10 rows" ∈ lw_str := in_str (i := 409) (by decide +kernel) rfl
theorem lk_RX5_45 : Cond.methodLink RX5 45 ⟨"java/lang/IllegalStateException", "<init>", "(Ljava/lang/String;)V"⟩ ∈ lw_all := in_all (i := 410) (by decide +kernel) rfl
theorem lk_Qjava_lang_IllegalStateException_7 : Cond.methodLink "java/lang/IllegalStateException" 7 ⟨"java/lang/RuntimeException", "<init>", "(Ljava/lang/String;)V"⟩ ∈ lw_all := in_all (i := 413) (by decide +kernel) rfl
theorem lk_RX5_52 : Cond.methodLink RX5 52 yX4_appendRow ∈ lw_all := in_all (i := 416) (by decide +kernel) rfl
theorem lk_RL_15 : Cond.methodLink RL 15 yX5_addColumn ∈ lw_all := in_all (i := 420) (by decide +kernel) rfl
theorem sk_RX5_59 : Cond.stringRef RX5 59 "there are 10 columns" ∈ lw_str := in_str (i := 424) (by decide +kernel) rfl
theorem lk_RX5_61 : Cond.methodLink RX5 61 yX4_appendColumn ∈ lw_all := in_all (i := 425) (by decide +kernel) rfl
theorem lk_RL_32 : Cond.methodLink RL 32 yL_column ∈ lw_all := in_all (i := 429) (by decide +kernel) rfl
theorem lk_RL_35 : Cond.methodLink RL 35 yL_sizeOf ∈ lw_all := in_all (i := 432) (by decide +kernel) rfl
theorem lk_RL_48 : Cond.methodLink RL 48 yL_costOf ∈ lw_all := in_all (i := 435) (by decide +kernel) rfl
theorem lk_RL_67 : Cond.methodLink RL 67 yL_best ∈ lw_all := in_all (i := 438) (by decide +kernel) rfl
theorem lk_RL_44 : Cond.methodLink RL 44 yL_greatestSize ∈ lw_all := in_all (i := 441) (by decide +kernel) rfl
theorem lk_RL_39 : Cond.methodLink RL 39 Lib.Math.max.name ∈ lw_all := in_all (i := 444) (by decide +kernel) rfl
theorem cw_X5_init : Cond.code yX5_init cX5_init 1 none ∈ lw_all := in_all (i := 33) (by decide +kernel) rfl
theorem im_X5_init : Cond.instanceMethod yX5_init ∈ lw_all := in_all (i := 32) (by decide +kernel) rfl
theorem cw_X4_init : Cond.code yX4_init cX4_init 1 none ∈ lw_all := in_all (i := 41) (by decide +kernel) rfl
theorem im_X4_init : Cond.instanceMethod yX4_init ∈ lw_all := in_all (i := 40) (by decide +kernel) rfl
theorem cw_J7_fill_53178 : Cond.code yJ7_fill_53178 cJ7_fill_53178 4 none ∈ lw_all := in_all (i := 45) (by decide +kernel) rfl
theorem st_J7_fill_53178 : Cond.static yJ7_fill_53178 ∈ lw_all := in_all (i := 44) (by decide +kernel) rfl
theorem cw_X1_init : Cond.code yX1_init cX1_init 1 none ∈ lw_all := in_all (i := 73) (by decide +kernel) rfl
theorem im_X1_init : Cond.instanceMethod yX1_init ∈ lw_all := in_all (i := 72) (by decide +kernel) rfl
theorem cw_X3_init : Cond.code yX3_init cX3_init 1 none ∈ lw_all := in_all (i := 91) (by decide +kernel) rfl
theorem im_X3_init : Cond.instanceMethod yX3_init ∈ lw_all := in_all (i := 90) (by decide +kernel) rfl
theorem cw_X2_init : Cond.code yX2_init cX2_init 1 none ∈ lw_all := in_all (i := 126) (by decide +kernel) rfl
theorem im_X2_init : Cond.instanceMethod yX2_init ∈ lw_all := in_all (i := 125) (by decide +kernel) rfl
theorem cw_X0_init : Cond.code yX0_init cX0_init 1 none ∈ lw_all := in_all (i := 132) (by decide +kernel) rfl
theorem im_X0_init : Cond.instanceMethod yX0_init ∈ lw_all := in_all (i := 131) (by decide +kernel) rfl
theorem cw_X5_setRow : Cond.code yX5_setRow cX5_setRow 4 (some (FieldType.boolean)) ∈ lw_all := in_all (i := 176) (by decide +kernel) rfl
theorem im_X5_setRow : Cond.instanceMethod yX5_setRow ∈ lw_all := in_all (i := 174) (by decide +kernel) rfl
theorem se_X5_setRow : Cond.selects RX5 yX5_setRow yX5_setRow ∈ lw_all := in_all (i := 175) (by decide +kernel) rfl
theorem cw_X5_requireRow : Cond.code yX5_requireRow cX5_requireRow 2 none ∈ lw_all := in_all (i := 180) (by decide +kernel) rfl
theorem im_X5_requireRow : Cond.instanceMethod yX5_requireRow ∈ lw_all := in_all (i := 179) (by decide +kernel) rfl
theorem se_X5_requireRow : Cond.selects RX5 yX5_requireRow yX5_requireRow ∈ lw_all := in_all (i := 0) (by decide +kernel) rfl
theorem cw_X5_hasBit : Cond.code yX5_hasBit cX5_hasBit 2 (some (FieldType.boolean)) ∈ lw_all := in_all (i := 251) (by decide +kernel) rfl
theorem st_X5_hasBit : Cond.static yX5_hasBit ∈ lw_all := in_all (i := 250) (by decide +kernel) rfl
theorem cw_X5_withBit : Cond.code yX5_withBit cX5_withBit 3 (some (FieldType.int)) ∈ lw_all := in_all (i := 254) (by decide +kernel) rfl
theorem st_X5_withBit : Cond.static yX5_withBit ∈ lw_all := in_all (i := 253) (by decide +kernel) rfl
theorem cw_X5_setColumn : Cond.code yX5_setColumn cX5_setColumn 4 (some (FieldType.boolean)) ∈ lw_all := in_all (i := 258) (by decide +kernel) rfl
theorem im_X5_setColumn : Cond.instanceMethod yX5_setColumn ∈ lw_all := in_all (i := 256) (by decide +kernel) rfl
theorem se_X5_setColumn : Cond.selects RX5 yX5_setColumn yX5_setColumn ∈ lw_all := in_all (i := 257) (by decide +kernel) rfl
theorem cw_X5_requireColumn : Cond.code yX5_requireColumn cX5_requireColumn 2 none ∈ lw_all := in_all (i := 262) (by decide +kernel) rfl
theorem im_X5_requireColumn : Cond.instanceMethod yX5_requireColumn ∈ lw_all := in_all (i := 261) (by decide +kernel) rfl
theorem se_X5_requireColumn : Cond.selects RX5 yX5_requireColumn yX5_requireColumn ∈ lw_all := in_all (i := 2) (by decide +kernel) rfl
theorem cw_X5_setCost : Cond.code yX5_setCost cX5_setCost 4 (some (FieldType.boolean)) ∈ lw_all := in_all (i := 267) (by decide +kernel) rfl
theorem im_X5_setCost : Cond.instanceMethod yX5_setCost ∈ lw_all := in_all (i := 265) (by decide +kernel) rfl
theorem se_X5_setCost : Cond.selects RX5 yX5_setCost yX5_setCost ∈ lw_all := in_all (i := 266) (by decide +kernel) rfl
theorem cw_X5_requirePair : Cond.code yX5_requirePair cX5_requirePair 3 none ∈ lw_all := in_all (i := 271) (by decide +kernel) rfl
theorem im_X5_requirePair : Cond.instanceMethod yX5_requirePair ∈ lw_all := in_all (i := 270) (by decide +kernel) rfl
theorem se_X5_requirePair : Cond.selects RX5 yX5_requirePair yX5_requirePair ∈ lw_all := in_all (i := 3) (by decide +kernel) rfl
theorem cw_X5_isCost : Cond.code yX5_isCost cX5_isCost 2 (some (FieldType.boolean)) ∈ lw_all := in_all (i := 274) (by decide +kernel) rfl
theorem st_X5_isCost : Cond.static yX5_isCost ∈ lw_all := in_all (i := 273) (by decide +kernel) rfl
theorem cw_X5_replaceCell : Cond.code yX5_replaceCell cX5_replaceCell 5 (some (FieldType.boolean)) ∈ lw_all := in_all (i := 296) (by decide +kernel) rfl
theorem im_X5_replaceCell : Cond.instanceMethod yX5_replaceCell ∈ lw_all := in_all (i := 295) (by decide +kernel) rfl
theorem se_X5_replaceCell : Cond.selects RX5 yX5_replaceCell yX5_replaceCell ∈ lw_all := in_all (i := 4) (by decide +kernel) rfl
theorem cw_X4_cell : Cond.code yX4_cell cX4_cell 3 (some (FieldType.int)) ∈ lw_all := in_all (i := 300) (by decide +kernel) rfl
theorem im_X4_cell : Cond.instanceMethod yX4_cell ∈ lw_all := in_all (i := 298) (by decide +kernel) rfl
theorem se_X4_cell : Cond.selects RX4 yX4_cell yX4_cell ∈ lw_all := in_all (i := 299) (by decide +kernel) rfl
theorem cw_X5_forbid : Cond.code yX5_forbid cX5_forbid 3 (some (FieldType.boolean)) ∈ lw_all := in_all (i := 304) (by decide +kernel) rfl
theorem im_X5_forbid : Cond.instanceMethod yX5_forbid ∈ lw_all := in_all (i := 302) (by decide +kernel) rfl
theorem se_X5_forbid : Cond.selects RX5 yX5_forbid yX5_forbid ∈ lw_all := in_all (i := 303) (by decide +kernel) rfl
theorem cw_X5_size : Cond.code yX5_size cX5_size 1 (some (FieldType.int)) ∈ lw_all := in_all (i := 308) (by decide +kernel) rfl
theorem im_X5_size : Cond.instanceMethod yX5_size ∈ lw_all := in_all (i := 306) (by decide +kernel) rfl
theorem se_X5_size : Cond.selects RX5 yX5_size yX5_size ∈ lw_all := in_all (i := 307) (by decide +kernel) rfl
theorem cw_X5_solved : Cond.code yX5_solved cX5_solved 1 (some ((FieldType.object "AssignmentDesk$Solver"))) ∈ lw_all := in_all (i := 312) (by decide +kernel) rfl
theorem im_X5_solved : Cond.instanceMethod yX5_solved ∈ lw_all := in_all (i := 311) (by decide +kernel) rfl
theorem se_X5_solved : Cond.selects RX5 yX5_solved yX5_solved ∈ lw_all := in_all (i := 5) (by decide +kernel) rfl
theorem cw_X3_solve : Cond.code yX3_solve cX3_solve 3 none ∈ lw_all := in_all (i := 316) (by decide +kernel) rfl
theorem im_X3_solve : Cond.instanceMethod yX3_solve ∈ lw_all := in_all (i := 314) (by decide +kernel) rfl
theorem se_X3_solve : Cond.selects RX3 yX3_solve yX3_solve ∈ lw_all := in_all (i := 315) (by decide +kernel) rfl
theorem cw_X3_read : Cond.code yX3_read cX3_read 4 none ∈ lw_all := in_all (i := 320) (by decide +kernel) rfl
theorem im_X3_read : Cond.instanceMethod yX3_read ∈ lw_all := in_all (i := 319) (by decide +kernel) rfl
theorem se_X3_read : Cond.selects RX3 yX3_read yX3_read ∈ lw_all := in_all (i := 6) (by decide +kernel) rfl
theorem cw_X4_usableColumns : Cond.code yX4_usableColumns cX4_usableColumns 4 (some (FieldType.int)) ∈ lw_all := in_all (i := 324) (by decide +kernel) rfl
theorem im_X4_usableColumns : Cond.instanceMethod yX4_usableColumns ∈ lw_all := in_all (i := 322) (by decide +kernel) rfl
theorem se_X4_usableColumns : Cond.selects RX4 yX4_usableColumns yX4_usableColumns ∈ lw_all := in_all (i := 323) (by decide +kernel) rfl
theorem cw_X4_isUsable : Cond.code yX4_isUsable cX4_isUsable 3 (some (FieldType.boolean)) ∈ lw_all := in_all (i := 328) (by decide +kernel) rfl
theorem im_X4_isUsable : Cond.instanceMethod yX4_isUsable ∈ lw_all := in_all (i := 326) (by decide +kernel) rfl
theorem se_X4_isUsable : Cond.selects RX4 yX4_isUsable yX4_isUsable ∈ lw_all := in_all (i := 327) (by decide +kernel) rfl
theorem cw_X3_fillRow : Cond.code yX3_fillRow cX3_fillRow 6 none ∈ lw_all := in_all (i := 337) (by decide +kernel) rfl
theorem im_X3_fillRow : Cond.instanceMethod yX3_fillRow ∈ lw_all := in_all (i := 336) (by decide +kernel) rfl
theorem se_X3_fillRow : Cond.selects RX3 yX3_fillRow yX3_fillRow ∈ lw_all := in_all (i := 7) (by decide +kernel) rfl
theorem cw_X3_canBeLeft : Cond.code yX3_canBeLeft cX3_canBeLeft 3 (some (FieldType.boolean)) ∈ lw_all := in_all (i := 341) (by decide +kernel) rfl
theorem im_X3_canBeLeft : Cond.instanceMethod yX3_canBeLeft ∈ lw_all := in_all (i := 340) (by decide +kernel) rfl
theorem se_X3_canBeLeft : Cond.selects RX3 yX3_canBeLeft yX3_canBeLeft ∈ lw_all := in_all (i := 8) (by decide +kernel) rfl
theorem cw_J6_bitCount_0f7a4 : Cond.code yJ6_bitCount_0f7a4 cJ6_bitCount_0f7a4 1 (some (FieldType.int)) ∈ lw_all := in_all (i := 344) (by decide +kernel) rfl
theorem st_J6_bitCount_0f7a4 : Cond.static yJ6_bitCount_0f7a4 ∈ lw_all := in_all (i := 343) (by decide +kernel) rfl
theorem cw_X3_leastFrom : Cond.code yX3_leastFrom cX3_leastFrom 8 (some (FieldType.int)) ∈ lw_all := in_all (i := 351) (by decide +kernel) rfl
theorem im_X3_leastFrom : Cond.instanceMethod yX3_leastFrom ∈ lw_all := in_all (i := 350) (by decide +kernel) rfl
theorem se_X3_leastFrom : Cond.selects RX3 yX3_leastFrom yX3_leastFrom ∈ lw_all := in_all (i := 9) (by decide +kernel) rfl
theorem cw_X3_keepFirst : Cond.code yX3_keepFirst cX3_keepFirst 4 none ∈ lw_all := in_all (i := 360) (by decide +kernel) rfl
theorem im_X3_keepFirst : Cond.instanceMethod yX3_keepFirst ∈ lw_all := in_all (i := 359) (by decide +kernel) rfl
theorem se_X3_keepFirst : Cond.selects RX3 yX3_keepFirst yX3_keepFirst ∈ lw_all := in_all (i := 10) (by decide +kernel) rfl
theorem cw_X3_firstOptimal : Cond.code yX3_firstOptimal cX3_firstOptimal 4 (some (FieldType.int)) ∈ lw_all := in_all (i := 364) (by decide +kernel) rfl
theorem im_X3_firstOptimal : Cond.instanceMethod yX3_firstOptimal ∈ lw_all := in_all (i := 363) (by decide +kernel) rfl
theorem se_X3_firstOptimal : Cond.selects RX3 yX3_firstOptimal yX3_firstOptimal ∈ lw_all := in_all (i := 11) (by decide +kernel) rfl
theorem cw_X3_isOptimal : Cond.code yX3_isOptimal cX3_isOptimal 5 (some (FieldType.boolean)) ∈ lw_all := in_all (i := 368) (by decide +kernel) rfl
theorem im_X3_isOptimal : Cond.instanceMethod yX3_isOptimal ∈ lw_all := in_all (i := 367) (by decide +kernel) rfl
theorem se_X3_isOptimal : Cond.selects RX3 yX3_isOptimal yX3_isOptimal ∈ lw_all := in_all (i := 12) (by decide +kernel) rfl
theorem cw_X3_sizeOf : Cond.code yX3_sizeOf cX3_sizeOf 1 (some (FieldType.int)) ∈ lw_all := in_all (i := 371) (by decide +kernel) rfl
theorem st_X3_sizeOf : Cond.static yX3_sizeOf ∈ lw_all := in_all (i := 370) (by decide +kernel) rfl
theorem cw_X5_total : Cond.code yX5_total cX5_total 1 (some (FieldType.int)) ∈ lw_all := in_all (i := 376) (by decide +kernel) rfl
theorem im_X5_total : Cond.instanceMethod yX5_total ∈ lw_all := in_all (i := 374) (by decide +kernel) rfl
theorem se_X5_total : Cond.selects RX5 yX5_total yX5_total ∈ lw_all := in_all (i := 375) (by decide +kernel) rfl
theorem cw_X3_costOf : Cond.code yX3_costOf cX3_costOf 1 (some (FieldType.int)) ∈ lw_all := in_all (i := 379) (by decide +kernel) rfl
theorem st_X3_costOf : Cond.static yX3_costOf ∈ lw_all := in_all (i := 378) (by decide +kernel) rfl
theorem cw_X5_columnOf : Cond.code yX5_columnOf cX5_columnOf 2 (some (FieldType.int)) ∈ lw_all := in_all (i := 384) (by decide +kernel) rfl
theorem im_X5_columnOf : Cond.instanceMethod yX5_columnOf ∈ lw_all := in_all (i := 382) (by decide +kernel) rfl
theorem se_X5_columnOf : Cond.selects RX5 yX5_columnOf yX5_columnOf ∈ lw_all := in_all (i := 383) (by decide +kernel) rfl
theorem cw_L_below : Cond.code yL_below cL_below 2 (some (FieldType.int)) ∈ lw_all := in_all (i := 387) (by decide +kernel) rfl
theorem st_L_below : Cond.static yL_below ∈ lw_all := in_all (i := 386) (by decide +kernel) rfl
theorem cw_L_cell : Cond.code yL_cell cL_cell 2 (some (FieldType.int)) ∈ lw_all := in_all (i := 391) (by decide +kernel) rfl
theorem st_L_cell : Cond.static yL_cell ∈ lw_all := in_all (i := 390) (by decide +kernel) rfl
theorem cw_L_build : Cond.code yL_build cL_build 6 (some (FieldType.boolean)) ∈ lw_all := in_all (i := 395) (by decide +kernel) rfl
theorem st_L_build : Cond.static yL_build ∈ lw_all := in_all (i := 394) (by decide +kernel) rfl
theorem cw_X5_addRow : Cond.code yX5_addRow cX5_addRow 1 (some (FieldType.int)) ∈ lw_all := in_all (i := 399) (by decide +kernel) rfl
theorem im_X5_addRow : Cond.instanceMethod yX5_addRow ∈ lw_all := in_all (i := 397) (by decide +kernel) rfl
theorem se_X5_addRow : Cond.selects RX5 yX5_addRow yX5_addRow ∈ lw_all := in_all (i := 398) (by decide +kernel) rfl
theorem cw_X4_appendRow : Cond.code yX4_appendRow cX4_appendRow 1 (some (FieldType.int)) ∈ lw_all := in_all (i := 419) (by decide +kernel) rfl
theorem im_X4_appendRow : Cond.instanceMethod yX4_appendRow ∈ lw_all := in_all (i := 417) (by decide +kernel) rfl
theorem se_X4_appendRow : Cond.selects RX4 yX4_appendRow yX4_appendRow ∈ lw_all := in_all (i := 418) (by decide +kernel) rfl
theorem cw_X5_addColumn : Cond.code yX5_addColumn cX5_addColumn 1 (some (FieldType.int)) ∈ lw_all := in_all (i := 423) (by decide +kernel) rfl
theorem im_X5_addColumn : Cond.instanceMethod yX5_addColumn ∈ lw_all := in_all (i := 421) (by decide +kernel) rfl
theorem se_X5_addColumn : Cond.selects RX5 yX5_addColumn yX5_addColumn ∈ lw_all := in_all (i := 422) (by decide +kernel) rfl
theorem cw_X4_appendColumn : Cond.code yX4_appendColumn cX4_appendColumn 1 (some (FieldType.int)) ∈ lw_all := in_all (i := 428) (by decide +kernel) rfl
theorem im_X4_appendColumn : Cond.instanceMethod yX4_appendColumn ∈ lw_all := in_all (i := 426) (by decide +kernel) rfl
theorem se_X4_appendColumn : Cond.selects RX4 yX4_appendColumn yX4_appendColumn ∈ lw_all := in_all (i := 427) (by decide +kernel) rfl
theorem cw_L_column : Cond.code yL_column cL_column 2 (some (FieldType.int)) ∈ lw_all := in_all (i := 431) (by decide +kernel) rfl
theorem st_L_column : Cond.static yL_column ∈ lw_all := in_all (i := 430) (by decide +kernel) rfl
theorem cw_L_sizeOf : Cond.code yL_sizeOf cL_sizeOf 6 (some (FieldType.int)) ∈ lw_all := in_all (i := 434) (by decide +kernel) rfl
theorem st_L_sizeOf : Cond.static yL_sizeOf ∈ lw_all := in_all (i := 433) (by decide +kernel) rfl
theorem cw_L_costOf : Cond.code yL_costOf cL_costOf 4 (some (FieldType.int)) ∈ lw_all := in_all (i := 437) (by decide +kernel) rfl
theorem st_L_costOf : Cond.static yL_costOf ∈ lw_all := in_all (i := 436) (by decide +kernel) rfl
theorem cw_L_best : Cond.code yL_best cL_best 4 (some (FieldType.int)) ∈ lw_all := in_all (i := 440) (by decide +kernel) rfl
theorem st_L_best : Cond.static yL_best ∈ lw_all := in_all (i := 439) (by decide +kernel) rfl
theorem cw_L_greatestSize : Cond.code yL_greatestSize cL_greatestSize 3 (some (FieldType.int)) ∈ lw_all := in_all (i := 443) (by decide +kernel) rfl
theorem st_L_greatestSize : Cond.static yL_greatestSize ∈ lw_all := in_all (i := 442) (by decide +kernel) rfl
theorem q_min1 : Cond.static Lib.Math.min.name ∈ lw_all := in_all (i := 355) (by decide +kernel) rfl
theorem q_min2 : Cond.initialized "java/lang/Math" ∈ lw_all := ik_RJ9
theorem q_min3 : Cond.code Lib.Math.min.name Lib.Math.min.code 2 (some .int) ∈ lw_all := in_all (i := 356) (by decide +kernel) rfl
theorem w_X0 : ∀ w ∈ u_ws RX0 TX0 5, w ∈ lw_all := by
  intro w hw
  have h : ∀ i, i < 5 → lw_tbl[([138, 140, 142, 144, 146] : List Nat).getD i 0]? = some (u_lay RX0 TX0 i) ∧ goodWord (u_lay RX0 TX0 i) = true := by decide +kernel
  obtain ⟨i, hi, rfl⟩ := List.mem_map.mp hw
  exact in_all (h i (List.mem_range.mp hi)).1 (h i (List.mem_range.mp hi)).2
theorem w_X1 : ∀ w ∈ u_ws RX1 TX1 4, w ∈ lw_all := by
  intro w hw
  have h : ∀ i, i < 4 → lw_tbl[([78, 80, 82, 84] : List Nat).getD i 0]? = some (u_lay RX1 TX1 i) ∧ goodWord (u_lay RX1 TX1 i) = true := by decide +kernel
  obtain ⟨i, hi, rfl⟩ := List.mem_map.mp hw
  exact in_all (h i (List.mem_range.mp hi)).1 (h i (List.mem_range.mp hi)).2
theorem w_X2 : ∀ w ∈ u_ws RX2 TX2 2, w ∈ lw_all := by
  intro w hw
  have h : ∀ i, i < 2 → lw_tbl[([152, 154] : List Nat).getD i 0]? = some (u_lay RX2 TX2 i) ∧ goodWord (u_lay RX2 TX2 i) = true := by decide +kernel
  obtain ⟨i, hi, rfl⟩ := List.mem_map.mp hw
  exact in_all (h i (List.mem_range.mp hi)).1 (h i (List.mem_range.mp hi)).2
theorem w_X3 : ∀ w ∈ u_ws RX3 TX3 8, w ∈ lw_all := by
  intro w hw
  have h : ∀ i, i < 8 → lw_tbl[([105, 107, 109, 111, 113, 115, 117, 119] : List Nat).getD i 0]? = some (u_lay RX3 TX3 i) ∧ goodWord (u_lay RX3 TX3 i) = true := by decide +kernel
  obtain ⟨i, hi, rfl⟩ := List.mem_map.mp hw
  exact in_all (h i (List.mem_range.mp hi)).1 (h i (List.mem_range.mp hi)).2
theorem w_X4 : ∀ w ∈ u_ws RX4 TX4 5, w ∈ lw_all := by
  intro w hw
  have h : ∀ i, i < 5 → lw_tbl[([57, 59, 61, 63, 65] : List Nat).getD i 0]? = some (u_lay RX4 TX4 i) ∧ goodWord (u_lay RX4 TX4 i) = true := by decide +kernel
  obtain ⟨i, hi, rfl⟩ := List.mem_map.mp hw
  exact in_all (h i (List.mem_range.mp hi)).1 (h i (List.mem_range.mp hi)).2
theorem w_X5 : ∀ w ∈ u_ws RX5 TX5 5, w ∈ lw_all := by
  intro w hw
  have h : ∀ i, i < 5 → lw_tbl[([162, 164, 166, 168, 170] : List Nat).getD i 0]? = some (u_lay RX5 TX5 i) ∧ goodWord (u_lay RX5 TX5 i) = true := by decide +kernel
  obtain ⟨i, hi, rfl⟩ := List.mem_map.mp hw
  exact in_all (h i (List.mem_range.mp hi)).1 (h i (List.mem_range.mp hi)).2
theorem q_max1 : Cond.static Lib.Math.max.name ∈ lw_all := in_all (i := 445) (by decide +kernel) rfl
theorem q_max3 : Cond.code Lib.Math.max.name Lib.Math.max.code 2 (some .int) ∈ lw_all := in_all (i := 446) (by decide +kernel) rfl
