/-! ===== the law: one op of the script, the others ===== -/
set_option maxHeartbeats 4000000 in
set_option maxRecDepth 100000 in
theorem op_15 {l : Launch} (hfl : l.stackTraces = false) {G : Geo} {b L : Nat} {xs : Nat → Int32} {um : Nat} {J : JT} {JX : JXT} (CL : CbL l G b L xs um J JX) {A : DA} {X : St} {u i : Nat} (hL : L ≤ 2048) (hi : i + 4 ≤ L) (hu : u + 3 ≤ um) (hD : DInv X A) (hM : MInv X A) (kk : ∀ (X' : St) (A' : DA) (u' : Nat), DInv X' A' → MInv X' A' → u' ≤ u + 3 → J X' u' 1743 [(4, .int (nI i)), (3, .ref (G.2.1 36)), (2, .ref (G.2.1 37)), (1, .ref (G.2.1 0)), (0, .ref b)] []) : J X u 982 [(4, .int (nI i)), (3, .ref (G.2.1 36)), (2, .ref (G.2.1 37)), (1, .ref (G.2.1 0)), (0, .ref b)] [] := by
  have C := CL.c
  refine r_aload_n C dL_law_982 rfl rfl ?_
  refine r_aload_n C dL_law_983 rfl rfl ?_
  refine r_iload C dL_law_984 rfl ?_
  refine r_iconst (v := 1) C dL_law_986 (by decide) ?_
  refine r_iadd C dL_law_987 ?_
  refine r_sld CL (i + 1) (nI_p i 1) (by omega) hL dL_law_988 ?_
  refine r_aload_n C dL_law_989 rfl rfl ?_
  refine cl9_RL_159 CL (con_L_columnOf l hfl _ hD) dL_law_990 rfl ⟨Nat.le_of_ble_eq_true rfl, Nat.le_of_ble_eq_true rfl⟩ (by omega) (Nat.le_of_ble_eq_true rfl) (fun r_990 X_990 h_990 => ?_)
  obtain ⟨hM1, hN⟩ := lw_columnOf hD hM h_990
  refine r_istore C dL_law_993 (by decide) ?_
  refine r_aload_n C dL_law_995 rfl rfl ?_
  refine r_aload_n C dL_law_996 rfl rfl ?_
  refine r_iload C dL_law_997 rfl ?_
  refine r_iconst (v := 1) C dL_law_999 (by decide) ?_
  refine r_iadd C dL_law_1000 ?_
  refine r_sld CL (i + 1) (nI_p i 1) (by omega) hL dL_law_1001 ?_
  refine cl_RL_162 C (con_X6_columnOf l hfl _ hM1) dL_law_1002 rfl ⟨Nat.le_of_ble_eq_true rfl, Nat.le_of_ble_eq_true rfl⟩ (by omega) (Nat.le_of_ble_eq_true rfl) (fun r_1002 X_1002 h_1002 => ?_)
  obtain ⟨A1, hD1, hM2, ht, ho⟩ := hN _ _ h_1002
  refine r_istore C dL_law_1005 (by decide) ?_
  refine r_aload_n C dL_law_1007 rfl rfl ?_
  refine cl_RL_102 C (con_X6_thrown l hfl _) dL_law_1008 rfl ⟨Nat.le_of_ble_eq_true rfl, Nat.le_of_ble_eq_true rfl⟩ (by omega) (Nat.le_of_ble_eq_true rfl) (fun r_1008 X_1008 h_1008 => ?_)
  obtain ⟨rfl, rfl⟩ := h_1008
  refine r_iload C dL_law_1011 rfl ?_
  refine r_icmp_eq (tgt := 1018) C dL_law_1013 (by decide) (fun c_1013 => ?_) (fun c_1013 => absurd (ht) c_1013)
  refine r_iload C dL_law_1018 rfl ?_
  refine r_if_ne (tgt := 1035) C dL_law_1020 (by decide) (fun c_1020 => ?_) (fun c_1020 => ?_)
  · -- 1035
    refine r_goto (tgt := 1743) C dL_law_1035 (by decide) ?_
    exact r_sub C (lv' := [(4, .int (nI i)), (3, .ref (G.2.1 36)), (2, .ref (G.2.1 37)), (1, .ref (G.2.1 0)), (0, .ref b)]) ⟨rfl, rfl, rfl, rfl, rfl, trivial⟩ (kk _ _ _ hD1 hM2 (by omega))
  · -- 1023
    refine r_aload_n C dL_law_1023 rfl rfl ?_
    refine r_iconst (v := 0) C dL_law_1024 (by decide) ?_
    refine r_lald C (0) (by decide) rfl rfl (by decide) dL_law_1025 ?_
    refine r_iload C dL_law_1026 rfl ?_
    refine r_i2l C dL_law_1028 ?_
    refine r_lcmp C dL_law_1029 ?_
    refine r_if_eq (tgt := 1035) C dL_law_1030 (by decide) (fun c_1030 => ?_) (fun c_1030 => absurd ((lcmp_e _ _).mpr (ho c_1020)) c_1030)
    refine r_goto (tgt := 1743) C dL_law_1035 (by decide) ?_
    exact r_sub C (lv' := [(4, .int (nI i)), (3, .ref (G.2.1 36)), (2, .ref (G.2.1 37)), (1, .ref (G.2.1 0)), (0, .ref b)]) ⟨rfl, rfl, rfl, rfl, rfl, trivial⟩ (kk _ _ _ hD1 hM2 (by omega))
set_option maxHeartbeats 4000000 in
set_option maxRecDepth 100000 in
theorem op_16 {l : Launch} (hfl : l.stackTraces = false) {G : Geo} {b L : Nat} {xs : Nat → Int32} {um : Nat} {J : JT} {JX : JXT} (CL : CbL l G b L xs um J JX) {A : DA} {X : St} {u i : Nat} (hL : L ≤ 2048) (hi : i + 4 ≤ L) (hu : u + 3 ≤ um) (hD : DInv X A) (hM : MInv X A) (kk : ∀ (X' : St) (A' : DA) (u' : Nat), DInv X' A' → MInv X' A' → u' ≤ u + 3 → J X' u' 1743 [(4, .int (nI i)), (3, .ref (G.2.1 36)), (2, .ref (G.2.1 37)), (1, .ref (G.2.1 0)), (0, .ref b)] []) : J X u 1038 [(4, .int (nI i)), (3, .ref (G.2.1 36)), (2, .ref (G.2.1 37)), (1, .ref (G.2.1 0)), (0, .ref b)] [] := by
  have C := CL.c
  refine r_aload_n C dL_law_1038 rfl rfl ?_
  refine r_aload_n C dL_law_1039 rfl rfl ?_
  refine r_iload C dL_law_1040 rfl ?_
  refine r_iconst (v := 1) C dL_law_1042 (by decide) ?_
  refine r_iadd C dL_law_1043 ?_
  refine r_sld CL (i + 1) (nI_p i 1) (by omega) hL dL_law_1044 ?_
  refine r_aload_n C dL_law_1045 rfl rfl ?_
  refine cl9_RL_163 CL (con_L_rowOf l hfl _ hD) dL_law_1046 rfl ⟨Nat.le_of_ble_eq_true rfl, Nat.le_of_ble_eq_true rfl⟩ (by omega) (Nat.le_of_ble_eq_true rfl) (fun r_1046 X_1046 h_1046 => ?_)
  obtain ⟨hM1, hN⟩ := lw_rowOf hD hM h_1046
  refine r_istore C dL_law_1049 (by decide) ?_
  refine r_aload_n C dL_law_1051 rfl rfl ?_
  refine r_aload_n C dL_law_1052 rfl rfl ?_
  refine r_iload C dL_law_1053 rfl ?_
  refine r_iconst (v := 1) C dL_law_1055 (by decide) ?_
  refine r_iadd C dL_law_1056 ?_
  refine r_sld CL (i + 1) (nI_p i 1) (by omega) hL dL_law_1057 ?_
  refine cl_RL_165 C (con_X6_rowOf l hfl _ hM1) dL_law_1058 rfl ⟨Nat.le_of_ble_eq_true rfl, Nat.le_of_ble_eq_true rfl⟩ (by omega) (Nat.le_of_ble_eq_true rfl) (fun r_1058 X_1058 h_1058 => ?_)
  obtain ⟨A1, hD1, hM2, ht, ho⟩ := hN _ _ h_1058
  refine r_istore C dL_law_1061 (by decide) ?_
  refine r_aload_n C dL_law_1063 rfl rfl ?_
  refine cl_RL_102 C (con_X6_thrown l hfl _) dL_law_1064 rfl ⟨Nat.le_of_ble_eq_true rfl, Nat.le_of_ble_eq_true rfl⟩ (by omega) (Nat.le_of_ble_eq_true rfl) (fun r_1064 X_1064 h_1064 => ?_)
  obtain ⟨rfl, rfl⟩ := h_1064
  refine r_iload C dL_law_1067 rfl ?_
  refine r_icmp_eq (tgt := 1074) C dL_law_1069 (by decide) (fun c_1069 => ?_) (fun c_1069 => absurd (ht) c_1069)
  refine r_iload C dL_law_1074 rfl ?_
  refine r_if_ne (tgt := 1091) C dL_law_1076 (by decide) (fun c_1076 => ?_) (fun c_1076 => ?_)
  · -- 1091
    refine r_goto (tgt := 1743) C dL_law_1091 (by decide) ?_
    exact r_sub C (lv' := [(4, .int (nI i)), (3, .ref (G.2.1 36)), (2, .ref (G.2.1 37)), (1, .ref (G.2.1 0)), (0, .ref b)]) ⟨rfl, rfl, rfl, rfl, rfl, trivial⟩ (kk _ _ _ hD1 hM2 (by omega))
  · -- 1079
    refine r_aload_n C dL_law_1079 rfl rfl ?_
    refine r_iconst (v := 0) C dL_law_1080 (by decide) ?_
    refine r_lald C (0) (by decide) rfl rfl (by decide) dL_law_1081 ?_
    refine r_iload C dL_law_1082 rfl ?_
    refine r_i2l C dL_law_1084 ?_
    refine r_lcmp C dL_law_1085 ?_
    refine r_if_eq (tgt := 1091) C dL_law_1086 (by decide) (fun c_1086 => ?_) (fun c_1086 => absurd ((lcmp_e _ _).mpr (ho c_1076)) c_1086)
    refine r_goto (tgt := 1743) C dL_law_1091 (by decide) ?_
    exact r_sub C (lv' := [(4, .int (nI i)), (3, .ref (G.2.1 36)), (2, .ref (G.2.1 37)), (1, .ref (G.2.1 0)), (0, .ref b)]) ⟨rfl, rfl, rfl, rfl, rfl, trivial⟩ (kk _ _ _ hD1 hM2 (by omega))
set_option maxHeartbeats 4000000 in
set_option maxRecDepth 100000 in
theorem op_17 {l : Launch} (hfl : l.stackTraces = false) {G : Geo} {b L : Nat} {xs : Nat → Int32} {um : Nat} {J : JT} {JX : JXT} (CL : CbL l G b L xs um J JX) {A : DA} {X : St} {u i : Nat} (hL : L ≤ 2048) (hi : i + 4 ≤ L) (hu : u + 3 ≤ um) (hD : DInv X A) (hM : MInv X A) (kk : ∀ (X' : St) (A' : DA) (u' : Nat), DInv X' A' → MInv X' A' → u' ≤ u + 3 → J X' u' 1743 [(4, .int (nI i)), (3, .ref (G.2.1 36)), (2, .ref (G.2.1 37)), (1, .ref (G.2.1 0)), (0, .ref b)] []) : J X u 1094 [(4, .int (nI i)), (3, .ref (G.2.1 36)), (2, .ref (G.2.1 37)), (1, .ref (G.2.1 0)), (0, .ref b)] [] := by
  have C := CL.c
  refine r_aload_n C dL_law_1094 rfl rfl ?_
  refine cl_RL_166 C (con_X5_optimalCount l hfl _ hD) dL_law_1095 rfl ⟨Nat.le_of_ble_eq_true rfl, Nat.le_of_ble_eq_true rfl⟩ (by omega) (Nat.le_of_ble_eq_true rfl) (fun r_1095 X_1095 h_1095 => ?_)
  obtain ⟨e1, hD1, hF1⟩ := h_1095
  refine r_aload_n C dL_law_1098 rfl rfl ?_
  refine cl_RL_169 C (con_X6_optimalCount l hfl _ (mi_fr hM hF1)) dL_law_1099 rfl ⟨Nat.le_of_ble_eq_true rfl, Nat.le_of_ble_eq_true rfl⟩ (by omega) (Nat.le_of_ble_eq_true rfl) (fun r_1099 X_1099 h_1099 => ?_)
  obtain ⟨e2, -, hM2, hF2⟩ := h_1099
  have e3 : r_1095 = r_1099 := e1.trans e2.symm
  clear e1 e2
  subst e3
  refine r_icmp_eq (tgt := 1743) C dL_law_1102 (by decide) (fun c_1102 => ?_) (fun c_1102 => absurd (rfl) c_1102)
  exact r_sub C (lv' := [(4, .int (nI i)), (3, .ref (G.2.1 36)), (2, .ref (G.2.1 37)), (1, .ref (G.2.1 0)), (0, .ref b)]) ⟨rfl, rfl, rfl, rfl, rfl, trivial⟩ (kk _ _ _ (di_fr hD1 hF2) hM2 (by omega))
set_option maxHeartbeats 4000000 in
set_option maxRecDepth 100000 in
theorem op_18 {l : Launch} (hfl : l.stackTraces = false) {G : Geo} {b L : Nat} {xs : Nat → Int32} {um : Nat} {J : JT} {JX : JXT} (CL : CbL l G b L xs um J JX) {A : DA} {X : St} {u i : Nat} (hL : L ≤ 2048) (hi : i + 4 ≤ L) (hu : u + 3 ≤ um) (hD : DInv X A) (hM : MInv X A) (kk : ∀ (X' : St) (A' : DA) (u' : Nat), DInv X' A' → MInv X' A' → u' ≤ u + 3 → J X' u' 1743 [(4, .int (nI i)), (3, .ref (G.2.1 36)), (2, .ref (G.2.1 37)), (1, .ref (G.2.1 0)), (0, .ref b)] []) : J X u 1107 [(4, .int (nI i)), (3, .ref (G.2.1 36)), (2, .ref (G.2.1 37)), (1, .ref (G.2.1 0)), (0, .ref b)] [] := by
  have C := CL.c
  refine r_aload_n C dL_law_1107 rfl rfl ?_
  refine r_aload_n C dL_law_1108 rfl rfl ?_
  refine r_iload C dL_law_1109 rfl ?_
  refine r_iconst (v := 1) C dL_law_1111 (by decide) ?_
  refine r_iadd C dL_law_1112 ?_
  refine r_sld CL (i + 1) (nI_p i 1) (by omega) hL dL_law_1113 ?_
  refine r_aload_n C dL_law_1114 rfl rfl ?_
  refine r_iload C dL_law_1115 rfl ?_
  refine r_iconst (v := 2) C dL_law_1117 (by decide) ?_
  refine r_iadd C dL_law_1118 ?_
  refine r_sld CL (i + 2) (nI_p i 2) (by omega) hL dL_law_1119 ?_
  refine r_aload_n C dL_law_1120 rfl rfl ?_
  refine cl9_RL_170 CL (con_L_isPossible l hfl _ hD) dL_law_1121 rfl ⟨Nat.le_of_ble_eq_true rfl, Nat.le_of_ble_eq_true rfl⟩ (by omega) (Nat.le_of_ble_eq_true rfl) (fun r_1121 X_1121 h_1121 => ?_)
  obtain ⟨hM1, hN⟩ := lw_isPossible hD hM h_1121
  refine r_istore C dL_law_1124 (by decide) ?_
  refine r_aload_n C dL_law_1126 rfl rfl ?_
  refine r_aload_n C dL_law_1127 rfl rfl ?_
  refine r_iload C dL_law_1128 rfl ?_
  refine r_iconst (v := 1) C dL_law_1130 (by decide) ?_
  refine r_iadd C dL_law_1131 ?_
  refine r_sld CL (i + 1) (nI_p i 1) (by omega) hL dL_law_1132 ?_
  refine r_aload_n C dL_law_1133 rfl rfl ?_
  refine r_iload C dL_law_1134 rfl ?_
  refine r_iconst (v := 2) C dL_law_1136 (by decide) ?_
  refine r_iadd C dL_law_1137 ?_
  refine r_sld CL (i + 2) (nI_p i 2) (by omega) hL dL_law_1138 ?_
  refine cl_RL_172 C (con_X6_isPossible l hfl _ hM1) dL_law_1139 rfl ⟨Nat.le_of_ble_eq_true rfl, Nat.le_of_ble_eq_true rfl⟩ (by omega) (Nat.le_of_ble_eq_true rfl) (fun r_1139 X_1139 h_1139 => ?_)
  obtain ⟨A1, hD1, hM2, ht, ho⟩ := hN _ _ h_1139
  refine r_istore C dL_law_1142 (by decide) ?_
  refine r_aload_n C dL_law_1144 rfl rfl ?_
  refine cl_RL_102 C (con_X6_thrown l hfl _) dL_law_1145 rfl ⟨Nat.le_of_ble_eq_true rfl, Nat.le_of_ble_eq_true rfl⟩ (by omega) (Nat.le_of_ble_eq_true rfl) (fun r_1145 X_1145 h_1145 => ?_)
  obtain ⟨rfl, rfl⟩ := h_1145
  refine r_iload C dL_law_1148 rfl ?_
  refine r_icmp_eq (tgt := 1155) C dL_law_1150 (by decide) (fun c_1150 => ?_) (fun c_1150 => absurd (ht) c_1150)
  refine r_iload C dL_law_1155 rfl ?_
  refine r_if_ne (tgt := 1179) C dL_law_1157 (by decide) (fun c_1157 => ?_) (fun c_1157 => ?_)
  · -- 1179
    refine r_goto (tgt := 1743) C dL_law_1179 (by decide) ?_
    exact r_sub C (lv' := [(4, .int (nI i)), (3, .ref (G.2.1 36)), (2, .ref (G.2.1 37)), (1, .ref (G.2.1 0)), (0, .ref b)]) ⟨rfl, rfl, rfl, rfl, rfl, trivial⟩ (kk _ _ _ hD1 hM2 (by omega))
  · -- 1160
    refine r_aload_n C dL_law_1160 rfl rfl ?_
    refine r_iconst (v := 0) C dL_law_1161 (by decide) ?_
    refine r_lald C (0) (by decide) rfl rfl (by decide) dL_law_1162 ?_
    refine r_iload C dL_law_1163 rfl ?_
    refine r_bool8 C dL_law_1165 dL_law_1168 dL_law_1169 dL_law_1172 ?_
    refine r_lcmp C dL_law_1173 ?_
    refine r_if_eq (tgt := 1179) C dL_law_1174 (by decide) (fun c_1174 => ?_) (fun c_1174 => absurd ((lcmp_e _ _).mpr (ho c_1157)) c_1174)
    refine r_goto (tgt := 1743) C dL_law_1179 (by decide) ?_
    exact r_sub C (lv' := [(4, .int (nI i)), (3, .ref (G.2.1 36)), (2, .ref (G.2.1 37)), (1, .ref (G.2.1 0)), (0, .ref b)]) ⟨rfl, rfl, rfl, rfl, rfl, trivial⟩ (kk _ _ _ hD1 hM2 (by omega))
set_option maxHeartbeats 4000000 in
set_option maxRecDepth 100000 in
theorem op_19 {l : Launch} (hfl : l.stackTraces = false) {G : Geo} {b L : Nat} {xs : Nat → Int32} {um : Nat} {J : JT} {JX : JXT} (CL : CbL l G b L xs um J JX) {A : DA} {X : St} {u i : Nat} (hL : L ≤ 2048) (hi : i + 4 ≤ L) (hu : u + 3 ≤ um) (hD : DInv X A) (hM : MInv X A) (kk : ∀ (X' : St) (A' : DA) (u' : Nat), DInv X' A' → MInv X' A' → u' ≤ u + 3 → J X' u' 1743 [(4, .int (nI i)), (3, .ref (G.2.1 36)), (2, .ref (G.2.1 37)), (1, .ref (G.2.1 0)), (0, .ref b)] []) : J X u 1182 [(4, .int (nI i)), (3, .ref (G.2.1 36)), (2, .ref (G.2.1 37)), (1, .ref (G.2.1 0)), (0, .ref b)] [] := by
  have C := CL.c
  refine r_aload_n C dL_law_1182 rfl rfl ?_
  refine r_aload_n C dL_law_1183 rfl rfl ?_
  refine r_iload C dL_law_1184 rfl ?_
  refine r_iconst (v := 1) C dL_law_1186 (by decide) ?_
  refine r_iadd C dL_law_1187 ?_
  refine r_sld CL (i + 1) (nI_p i 1) (by omega) hL dL_law_1188 ?_
  refine r_aload_n C dL_law_1189 rfl rfl ?_
  refine r_iload C dL_law_1190 rfl ?_
  refine r_iconst (v := 2) C dL_law_1192 (by decide) ?_
  refine r_iadd C dL_law_1193 ?_
  refine r_sld CL (i + 2) (nI_p i 2) (by omega) hL dL_law_1194 ?_
  refine r_aload_n C dL_law_1195 rfl rfl ?_
  refine cl9_RL_173 CL (con_L_isCertain l hfl _ hD) dL_law_1196 rfl ⟨Nat.le_of_ble_eq_true rfl, Nat.le_of_ble_eq_true rfl⟩ (by omega) (Nat.le_of_ble_eq_true rfl) (fun r_1196 X_1196 h_1196 => ?_)
  obtain ⟨hM1, hN⟩ := lw_isCertain hD hM h_1196
  refine r_istore C dL_law_1199 (by decide) ?_
  refine r_aload_n C dL_law_1201 rfl rfl ?_
  refine r_aload_n C dL_law_1202 rfl rfl ?_
  refine r_iload C dL_law_1203 rfl ?_
  refine r_iconst (v := 1) C dL_law_1205 (by decide) ?_
  refine r_iadd C dL_law_1206 ?_
  refine r_sld CL (i + 1) (nI_p i 1) (by omega) hL dL_law_1207 ?_
  refine r_aload_n C dL_law_1208 rfl rfl ?_
  refine r_iload C dL_law_1209 rfl ?_
  refine r_iconst (v := 2) C dL_law_1211 (by decide) ?_
  refine r_iadd C dL_law_1212 ?_
  refine r_sld CL (i + 2) (nI_p i 2) (by omega) hL dL_law_1213 ?_
  refine cl_RL_175 C (con_X6_isCertain l hfl _ hM1) dL_law_1214 rfl ⟨Nat.le_of_ble_eq_true rfl, Nat.le_of_ble_eq_true rfl⟩ (by omega) (Nat.le_of_ble_eq_true rfl) (fun r_1214 X_1214 h_1214 => ?_)
  obtain ⟨A1, hD1, hM2, ht, ho⟩ := hN _ _ h_1214
  refine r_istore C dL_law_1217 (by decide) ?_
  refine r_aload_n C dL_law_1219 rfl rfl ?_
  refine cl_RL_102 C (con_X6_thrown l hfl _) dL_law_1220 rfl ⟨Nat.le_of_ble_eq_true rfl, Nat.le_of_ble_eq_true rfl⟩ (by omega) (Nat.le_of_ble_eq_true rfl) (fun r_1220 X_1220 h_1220 => ?_)
  obtain ⟨rfl, rfl⟩ := h_1220
  refine r_iload C dL_law_1223 rfl ?_
  refine r_icmp_eq (tgt := 1230) C dL_law_1225 (by decide) (fun c_1225 => ?_) (fun c_1225 => absurd (ht) c_1225)
  refine r_iload C dL_law_1230 rfl ?_
  refine r_if_ne (tgt := 1254) C dL_law_1232 (by decide) (fun c_1232 => ?_) (fun c_1232 => ?_)
  · -- 1254
    refine r_goto (tgt := 1743) C dL_law_1254 (by decide) ?_
    exact r_sub C (lv' := [(4, .int (nI i)), (3, .ref (G.2.1 36)), (2, .ref (G.2.1 37)), (1, .ref (G.2.1 0)), (0, .ref b)]) ⟨rfl, rfl, rfl, rfl, rfl, trivial⟩ (kk _ _ _ hD1 hM2 (by omega))
  · -- 1235
    refine r_aload_n C dL_law_1235 rfl rfl ?_
    refine r_iconst (v := 0) C dL_law_1236 (by decide) ?_
    refine r_lald C (0) (by decide) rfl rfl (by decide) dL_law_1237 ?_
    refine r_iload C dL_law_1238 rfl ?_
    refine r_bool8 C dL_law_1240 dL_law_1243 dL_law_1244 dL_law_1247 ?_
    refine r_lcmp C dL_law_1248 ?_
    refine r_if_eq (tgt := 1254) C dL_law_1249 (by decide) (fun c_1249 => ?_) (fun c_1249 => absurd ((lcmp_e _ _).mpr (ho c_1232)) c_1249)
    refine r_goto (tgt := 1743) C dL_law_1254 (by decide) ?_
    exact r_sub C (lv' := [(4, .int (nI i)), (3, .ref (G.2.1 36)), (2, .ref (G.2.1 37)), (1, .ref (G.2.1 0)), (0, .ref b)]) ⟨rfl, rfl, rfl, rfl, rfl, trivial⟩ (kk _ _ _ hD1 hM2 (by omega))
set_option maxHeartbeats 4000000 in
set_option maxRecDepth 100000 in
theorem op_20 {l : Launch} (hfl : l.stackTraces = false) {G : Geo} {b L : Nat} {xs : Nat → Int32} {um : Nat} {J : JT} {JX : JXT} (CL : CbL l G b L xs um J JX) {A : DA} {X : St} {u i : Nat} (hL : L ≤ 2048) (hi : i + 4 ≤ L) (hu : u + 3 ≤ um) (hD : DInv X A) (hM : MInv X A) (kk : ∀ (X' : St) (A' : DA) (u' : Nat), DInv X' A' → MInv X' A' → u' ≤ u + 3 → J X' u' 1743 [(4, .int (nI i)), (3, .ref (G.2.1 36)), (2, .ref (G.2.1 37)), (1, .ref (G.2.1 0)), (0, .ref b)] []) : J X u 1257 [(4, .int (nI i)), (3, .ref (G.2.1 36)), (2, .ref (G.2.1 37)), (1, .ref (G.2.1 0)), (0, .ref b)] [] := by
  have C := CL.c
  refine r_aload_n C dL_law_1257 rfl rfl ?_
  refine r_aload_n C dL_law_1258 rfl rfl ?_
  refine r_iload C dL_law_1259 rfl ?_
  refine r_iconst (v := 1) C dL_law_1261 (by decide) ?_
  refine r_iadd C dL_law_1262 ?_
  refine r_sld CL (i + 1) (nI_p i 1) (by omega) hL dL_law_1263 ?_
  refine r_aload_n C dL_law_1264 rfl rfl ?_
  refine r_iload C dL_law_1265 rfl ?_
  refine r_iconst (v := 2) C dL_law_1267 (by decide) ?_
  refine r_iadd C dL_law_1268 ?_
  refine r_sld CL (i + 2) (nI_p i 2) (by omega) hL dL_law_1269 ?_
  refine r_aload_n C dL_law_1270 rfl rfl ?_
  refine cl9_RL_176 CL (con_L_regret l hfl _ hD) dL_law_1271 rfl ⟨Nat.le_of_ble_eq_true rfl, Nat.le_of_ble_eq_true rfl⟩ (by omega) (Nat.le_of_ble_eq_true rfl) (fun r_1271 X_1271 h_1271 => ?_)
  obtain ⟨hM1, hN⟩ := lw_regret hD hM h_1271
  refine r_istore C dL_law_1274 (by decide) ?_
  refine r_aload_n C dL_law_1276 rfl rfl ?_
  refine r_aload_n C dL_law_1277 rfl rfl ?_
  refine r_iload C dL_law_1278 rfl ?_
  refine r_iconst (v := 1) C dL_law_1280 (by decide) ?_
  refine r_iadd C dL_law_1281 ?_
  refine r_sld CL (i + 1) (nI_p i 1) (by omega) hL dL_law_1282 ?_
  refine r_aload_n C dL_law_1283 rfl rfl ?_
  refine r_iload C dL_law_1284 rfl ?_
  refine r_iconst (v := 2) C dL_law_1286 (by decide) ?_
  refine r_iadd C dL_law_1287 ?_
  refine r_sld CL (i + 2) (nI_p i 2) (by omega) hL dL_law_1288 ?_
  refine cl_RL_178 C (con_X6_regret l hfl _ hM1) dL_law_1289 rfl ⟨Nat.le_of_ble_eq_true rfl, Nat.le_of_ble_eq_true rfl⟩ (by omega) (Nat.le_of_ble_eq_true rfl) (fun r_1289 X_1289 h_1289 => ?_)
  obtain ⟨A1, hD1, hM2, ht, ho⟩ := hN _ _ h_1289
  refine r_istore C dL_law_1292 (by decide) ?_
  refine r_aload_n C dL_law_1294 rfl rfl ?_
  refine cl_RL_102 C (con_X6_thrown l hfl _) dL_law_1295 rfl ⟨Nat.le_of_ble_eq_true rfl, Nat.le_of_ble_eq_true rfl⟩ (by omega) (Nat.le_of_ble_eq_true rfl) (fun r_1295 X_1295 h_1295 => ?_)
  obtain ⟨rfl, rfl⟩ := h_1295
  refine r_iload C dL_law_1298 rfl ?_
  refine r_icmp_eq (tgt := 1305) C dL_law_1300 (by decide) (fun c_1300 => ?_) (fun c_1300 => absurd (ht) c_1300)
  refine r_iload C dL_law_1305 rfl ?_
  refine r_if_ne (tgt := 1322) C dL_law_1307 (by decide) (fun c_1307 => ?_) (fun c_1307 => ?_)
  · -- 1322
    refine r_goto (tgt := 1743) C dL_law_1322 (by decide) ?_
    exact r_sub C (lv' := [(4, .int (nI i)), (3, .ref (G.2.1 36)), (2, .ref (G.2.1 37)), (1, .ref (G.2.1 0)), (0, .ref b)]) ⟨rfl, rfl, rfl, rfl, rfl, trivial⟩ (kk _ _ _ hD1 hM2 (by omega))
  · -- 1310
    refine r_aload_n C dL_law_1310 rfl rfl ?_
    refine r_iconst (v := 0) C dL_law_1311 (by decide) ?_
    refine r_lald C (0) (by decide) rfl rfl (by decide) dL_law_1312 ?_
    refine r_iload C dL_law_1313 rfl ?_
    refine r_i2l C dL_law_1315 ?_
    refine r_lcmp C dL_law_1316 ?_
    refine r_if_eq (tgt := 1322) C dL_law_1317 (by decide) (fun c_1317 => ?_) (fun c_1317 => absurd ((lcmp_e _ _).mpr (ho c_1307)) c_1317)
    refine r_goto (tgt := 1743) C dL_law_1322 (by decide) ?_
    exact r_sub C (lv' := [(4, .int (nI i)), (3, .ref (G.2.1 36)), (2, .ref (G.2.1 37)), (1, .ref (G.2.1 0)), (0, .ref b)]) ⟨rfl, rfl, rfl, rfl, rfl, trivial⟩ (kk _ _ _ hD1 hM2 (by omega))
set_option maxHeartbeats 4000000 in
set_option maxRecDepth 100000 in
theorem op_21 {l : Launch} (hfl : l.stackTraces = false) {G : Geo} {b L : Nat} {xs : Nat → Int32} {um : Nat} {J : JT} {JX : JXT} (CL : CbL l G b L xs um J JX) {A : DA} {X : St} {u i : Nat} (hL : L ≤ 2048) (hi : i + 4 ≤ L) (hu : u + 3 ≤ um) (hD : DInv X A) (hM : MInv X A) (kk : ∀ (X' : St) (A' : DA) (u' : Nat), DInv X' A' → MInv X' A' → u' ≤ u + 3 → J X' u' 1743 [(4, .int (nI i)), (3, .ref (G.2.1 36)), (2, .ref (G.2.1 37)), (1, .ref (G.2.1 0)), (0, .ref b)] []) : J X u 1325 [(4, .int (nI i)), (3, .ref (G.2.1 36)), (2, .ref (G.2.1 37)), (1, .ref (G.2.1 0)), (0, .ref b)] [] := by
  have C := CL.c
  refine r_aload_n C dL_law_1325 rfl rfl ?_
  refine r_aload_n C dL_law_1326 rfl rfl ?_
  refine r_iload C dL_law_1327 rfl ?_
  refine r_iconst (v := 1) C dL_law_1329 (by decide) ?_
  refine r_iadd C dL_law_1330 ?_
  refine r_sld CL (i + 1) (nI_p i 1) (by omega) hL dL_law_1331 ?_
  refine r_aload_n C dL_law_1332 rfl rfl ?_
  refine r_iload C dL_law_1333 rfl ?_
  refine r_iconst (v := 2) C dL_law_1335 (by decide) ?_
  refine r_iadd C dL_law_1336 ?_
  refine r_sld CL (i + 2) (nI_p i 2) (by omega) hL dL_law_1337 ?_
  refine r_aload_n C dL_law_1338 rfl rfl ?_
  refine cl9_RL_179 CL (con_L_loss l hfl _ hD) dL_law_1339 rfl ⟨Nat.le_of_ble_eq_true rfl, Nat.le_of_ble_eq_true rfl⟩ (by omega) (Nat.le_of_ble_eq_true rfl) (fun r_1339 X_1339 h_1339 => ?_)
  obtain ⟨hM1, hN⟩ := lw_loss hD hM h_1339
  refine r_istore C dL_law_1342 (by decide) ?_
  refine r_aload_n C dL_law_1344 rfl rfl ?_
  refine r_aload_n C dL_law_1345 rfl rfl ?_
  refine r_iload C dL_law_1346 rfl ?_
  refine r_iconst (v := 1) C dL_law_1348 (by decide) ?_
  refine r_iadd C dL_law_1349 ?_
  refine r_sld CL (i + 1) (nI_p i 1) (by omega) hL dL_law_1350 ?_
  refine r_aload_n C dL_law_1351 rfl rfl ?_
  refine r_iload C dL_law_1352 rfl ?_
  refine r_iconst (v := 2) C dL_law_1354 (by decide) ?_
  refine r_iadd C dL_law_1355 ?_
  refine r_sld CL (i + 2) (nI_p i 2) (by omega) hL dL_law_1356 ?_
  refine cl_RL_181 C (con_X6_loss l hfl _ hM1) dL_law_1357 rfl ⟨Nat.le_of_ble_eq_true rfl, Nat.le_of_ble_eq_true rfl⟩ (by omega) (Nat.le_of_ble_eq_true rfl) (fun r_1357 X_1357 h_1357 => ?_)
  obtain ⟨A1, hD1, hM2, ht, ho⟩ := hN _ _ h_1357
  refine r_istore C dL_law_1360 (by decide) ?_
  refine r_aload_n C dL_law_1362 rfl rfl ?_
  refine cl_RL_102 C (con_X6_thrown l hfl _) dL_law_1363 rfl ⟨Nat.le_of_ble_eq_true rfl, Nat.le_of_ble_eq_true rfl⟩ (by omega) (Nat.le_of_ble_eq_true rfl) (fun r_1363 X_1363 h_1363 => ?_)
  obtain ⟨rfl, rfl⟩ := h_1363
  refine r_iload C dL_law_1366 rfl ?_
  refine r_icmp_eq (tgt := 1373) C dL_law_1368 (by decide) (fun c_1368 => ?_) (fun c_1368 => absurd (ht) c_1368)
  refine r_iload C dL_law_1373 rfl ?_
  refine r_if_ne (tgt := 1390) C dL_law_1375 (by decide) (fun c_1375 => ?_) (fun c_1375 => ?_)
  · -- 1390
    refine r_goto (tgt := 1743) C dL_law_1390 (by decide) ?_
    exact r_sub C (lv' := [(4, .int (nI i)), (3, .ref (G.2.1 36)), (2, .ref (G.2.1 37)), (1, .ref (G.2.1 0)), (0, .ref b)]) ⟨rfl, rfl, rfl, rfl, rfl, trivial⟩ (kk _ _ _ hD1 hM2 (by omega))
  · -- 1378
    refine r_aload_n C dL_law_1378 rfl rfl ?_
    refine r_iconst (v := 0) C dL_law_1379 (by decide) ?_
    refine r_lald C (0) (by decide) rfl rfl (by decide) dL_law_1380 ?_
    refine r_iload C dL_law_1381 rfl ?_
    refine r_i2l C dL_law_1383 ?_
    refine r_lcmp C dL_law_1384 ?_
    refine r_if_eq (tgt := 1390) C dL_law_1385 (by decide) (fun c_1385 => ?_) (fun c_1385 => absurd ((lcmp_e _ _).mpr (ho c_1375)) c_1385)
    refine r_goto (tgt := 1743) C dL_law_1390 (by decide) ?_
    exact r_sub C (lv' := [(4, .int (nI i)), (3, .ref (G.2.1 36)), (2, .ref (G.2.1 37)), (1, .ref (G.2.1 0)), (0, .ref b)]) ⟨rfl, rfl, rfl, rfl, rfl, trivial⟩ (kk _ _ _ hD1 hM2 (by omega))
set_option maxHeartbeats 4000000 in
set_option maxRecDepth 100000 in
theorem op_22 {l : Launch} (hfl : l.stackTraces = false) {G : Geo} {b L : Nat} {xs : Nat → Int32} {um : Nat} {J : JT} {JX : JXT} (CL : CbL l G b L xs um J JX) {A : DA} {X : St} {u i : Nat} (hL : L ≤ 2048) (hi : i + 4 ≤ L) (hu : u + 3 ≤ um) (hD : DInv X A) (hM : MInv X A) (kk : ∀ (X' : St) (A' : DA) (u' : Nat), DInv X' A' → MInv X' A' → u' ≤ u + 3 → J X' u' 1743 [(4, .int (nI i)), (3, .ref (G.2.1 36)), (2, .ref (G.2.1 37)), (1, .ref (G.2.1 0)), (0, .ref b)] []) : J X u 1393 [(4, .int (nI i)), (3, .ref (G.2.1 36)), (2, .ref (G.2.1 37)), (1, .ref (G.2.1 0)), (0, .ref b)] [] := by
  have C := CL.c
  refine r_aload_n C dL_law_1393 rfl rfl ?_
  refine r_aload_n C dL_law_1394 rfl rfl ?_
  refine r_iload C dL_law_1395 rfl ?_
  refine r_iconst (v := 1) C dL_law_1397 (by decide) ?_
  refine r_iadd C dL_law_1398 ?_
  refine r_sld CL (i + 1) (nI_p i 1) (by omega) hL dL_law_1399 ?_
  refine r_aload_n C dL_law_1400 rfl rfl ?_
  refine r_iload C dL_law_1401 rfl ?_
  refine r_iconst (v := 2) C dL_law_1403 (by decide) ?_
  refine r_iadd C dL_law_1404 ?_
  refine r_sld CL (i + 2) (nI_p i 2) (by omega) hL dL_law_1405 ?_
  refine r_aload_n C dL_law_1406 rfl rfl ?_
  refine cl9_RL_182 CL (con_L_greatestCost l hfl _ hD) dL_law_1407 rfl ⟨Nat.le_of_ble_eq_true rfl, Nat.le_of_ble_eq_true rfl⟩ (by omega) (Nat.le_of_ble_eq_true rfl) (fun r_1407 X_1407 h_1407 => ?_)
  obtain ⟨hM1, hN⟩ := lw_greatestCost hD hM h_1407
  refine r_istore C dL_law_1410 (by decide) ?_
  refine r_aload_n C dL_law_1412 rfl rfl ?_
  refine r_aload_n C dL_law_1413 rfl rfl ?_
  refine r_iload C dL_law_1414 rfl ?_
  refine r_iconst (v := 1) C dL_law_1416 (by decide) ?_
  refine r_iadd C dL_law_1417 ?_
  refine r_sld CL (i + 1) (nI_p i 1) (by omega) hL dL_law_1418 ?_
  refine r_aload_n C dL_law_1419 rfl rfl ?_
  refine r_iload C dL_law_1420 rfl ?_
  refine r_iconst (v := 2) C dL_law_1422 (by decide) ?_
  refine r_iadd C dL_law_1423 ?_
  refine r_sld CL (i + 2) (nI_p i 2) (by omega) hL dL_law_1424 ?_
  refine cl_RL_184 C (con_X6_greatestCost l hfl _ hM1) dL_law_1425 rfl ⟨Nat.le_of_ble_eq_true rfl, Nat.le_of_ble_eq_true rfl⟩ (by omega) (Nat.le_of_ble_eq_true rfl) (fun r_1425 X_1425 h_1425 => ?_)
  obtain ⟨A1, hD1, hM2, ht, ho⟩ := hN _ _ h_1425
  refine r_istore C dL_law_1428 (by decide) ?_
  refine r_aload_n C dL_law_1430 rfl rfl ?_
  refine cl_RL_102 C (con_X6_thrown l hfl _) dL_law_1431 rfl ⟨Nat.le_of_ble_eq_true rfl, Nat.le_of_ble_eq_true rfl⟩ (by omega) (Nat.le_of_ble_eq_true rfl) (fun r_1431 X_1431 h_1431 => ?_)
  obtain ⟨rfl, rfl⟩ := h_1431
  refine r_iload C dL_law_1434 rfl ?_
  refine r_icmp_eq (tgt := 1441) C dL_law_1436 (by decide) (fun c_1436 => ?_) (fun c_1436 => absurd (ht) c_1436)
  refine r_iload C dL_law_1441 rfl ?_
  refine r_if_ne (tgt := 1458) C dL_law_1443 (by decide) (fun c_1443 => ?_) (fun c_1443 => ?_)
  · -- 1458
    refine r_goto (tgt := 1743) C dL_law_1458 (by decide) ?_
    exact r_sub C (lv' := [(4, .int (nI i)), (3, .ref (G.2.1 36)), (2, .ref (G.2.1 37)), (1, .ref (G.2.1 0)), (0, .ref b)]) ⟨rfl, rfl, rfl, rfl, rfl, trivial⟩ (kk _ _ _ hD1 hM2 (by omega))
  · -- 1446
    refine r_aload_n C dL_law_1446 rfl rfl ?_
    refine r_iconst (v := 0) C dL_law_1447 (by decide) ?_
    refine r_lald C (0) (by decide) rfl rfl (by decide) dL_law_1448 ?_
    refine r_iload C dL_law_1449 rfl ?_
    refine r_i2l C dL_law_1451 ?_
    refine r_lcmp C dL_law_1452 ?_
    refine r_if_eq (tgt := 1458) C dL_law_1453 (by decide) (fun c_1453 => ?_) (fun c_1453 => absurd ((lcmp_e _ _).mpr (ho c_1443)) c_1453)
    refine r_goto (tgt := 1743) C dL_law_1458 (by decide) ?_
    exact r_sub C (lv' := [(4, .int (nI i)), (3, .ref (G.2.1 36)), (2, .ref (G.2.1 37)), (1, .ref (G.2.1 0)), (0, .ref b)]) ⟨rfl, rfl, rfl, rfl, rfl, trivial⟩ (kk _ _ _ hD1 hM2 (by omega))
set_option maxHeartbeats 4000000 in
set_option maxRecDepth 100000 in
theorem op_23 {l : Launch} (hfl : l.stackTraces = false) {G : Geo} {b L : Nat} {xs : Nat → Int32} {um : Nat} {J : JT} {JX : JXT} (CL : CbL l G b L xs um J JX) {A : DA} {X : St} {u i : Nat} (hL : L ≤ 2048) (hi : i + 4 ≤ L) (hu : u + 3 ≤ um) (hD : DInv X A) (hM : MInv X A) (kk : ∀ (X' : St) (A' : DA) (u' : Nat), DInv X' A' → MInv X' A' → u' ≤ u + 3 → J X' u' 1743 [(4, .int (nI i)), (3, .ref (G.2.1 36)), (2, .ref (G.2.1 37)), (1, .ref (G.2.1 0)), (0, .ref b)] []) : J X u 1461 [(4, .int (nI i)), (3, .ref (G.2.1 36)), (2, .ref (G.2.1 37)), (1, .ref (G.2.1 0)), (0, .ref b)] [] := by
  have C := CL.c
  refine r_aload_n C dL_law_1461 rfl rfl ?_
  refine r_aload_n C dL_law_1462 rfl rfl ?_
  refine r_iload C dL_law_1463 rfl ?_
  refine r_iconst (v := 1) C dL_law_1465 (by decide) ?_
  refine r_iadd C dL_law_1466 ?_
  refine r_sld CL (i + 1) (nI_p i 1) (by omega) hL dL_law_1467 ?_
  refine r_aload_n C dL_law_1468 rfl rfl ?_
  refine cl9_RL_185 CL (con_L_rank l hfl _ hD) dL_law_1469 rfl ⟨Nat.le_of_ble_eq_true rfl, Nat.le_of_ble_eq_true rfl⟩ (by omega) (Nat.le_of_ble_eq_true rfl) (fun r_1469 X_1469 h_1469 => ?_)
  obtain ⟨hM1, hN⟩ := lw_rank hD hM h_1469
  refine r_istore C dL_law_1472 (by decide) ?_
  refine r_aload_n C dL_law_1474 rfl rfl ?_
  refine r_aload_n C dL_law_1475 rfl rfl ?_
  refine r_iload C dL_law_1476 rfl ?_
  refine r_iconst (v := 1) C dL_law_1478 (by decide) ?_
  refine r_iadd C dL_law_1479 ?_
  refine r_sld CL (i + 1) (nI_p i 1) (by omega) hL dL_law_1480 ?_
  refine cl_RL_187 C (con_X6_rank l hfl _ hM1) dL_law_1481 rfl ⟨Nat.le_of_ble_eq_true rfl, Nat.le_of_ble_eq_true rfl⟩ (by omega) (Nat.le_of_ble_eq_true rfl) (fun r_1481 X_1481 h_1481 => ?_)
  obtain ⟨A1, hD1, hM2, ht, ho⟩ := hN _ _ h_1481
  refine r_istore C dL_law_1484 (by decide) ?_
  refine r_aload_n C dL_law_1486 rfl rfl ?_
  refine cl_RL_102 C (con_X6_thrown l hfl _) dL_law_1487 rfl ⟨Nat.le_of_ble_eq_true rfl, Nat.le_of_ble_eq_true rfl⟩ (by omega) (Nat.le_of_ble_eq_true rfl) (fun r_1487 X_1487 h_1487 => ?_)
  obtain ⟨rfl, rfl⟩ := h_1487
  refine r_iload C dL_law_1490 rfl ?_
  refine r_icmp_eq (tgt := 1497) C dL_law_1492 (by decide) (fun c_1492 => ?_) (fun c_1492 => absurd (ht) c_1492)
  refine r_iload C dL_law_1497 rfl ?_
  refine r_if_ne (tgt := 1514) C dL_law_1499 (by decide) (fun c_1499 => ?_) (fun c_1499 => ?_)
  · -- 1514
    refine r_goto (tgt := 1743) C dL_law_1514 (by decide) ?_
    exact r_sub C (lv' := [(4, .int (nI i)), (3, .ref (G.2.1 36)), (2, .ref (G.2.1 37)), (1, .ref (G.2.1 0)), (0, .ref b)]) ⟨rfl, rfl, rfl, rfl, rfl, trivial⟩ (kk _ _ _ hD1 hM2 (by omega))
  · -- 1502
    refine r_aload_n C dL_law_1502 rfl rfl ?_
    refine r_iconst (v := 0) C dL_law_1503 (by decide) ?_
    refine r_lald C (0) (by decide) rfl rfl (by decide) dL_law_1504 ?_
    refine r_iload C dL_law_1505 rfl ?_
    refine r_i2l C dL_law_1507 ?_
    refine r_lcmp C dL_law_1508 ?_
    refine r_if_eq (tgt := 1514) C dL_law_1509 (by decide) (fun c_1509 => ?_) (fun c_1509 => absurd ((lcmp_e _ _).mpr (ho c_1499)) c_1509)
    refine r_goto (tgt := 1743) C dL_law_1514 (by decide) ?_
    exact r_sub C (lv' := [(4, .int (nI i)), (3, .ref (G.2.1 36)), (2, .ref (G.2.1 37)), (1, .ref (G.2.1 0)), (0, .ref b)]) ⟨rfl, rfl, rfl, rfl, rfl, trivial⟩ (kk _ _ _ hD1 hM2 (by omega))
set_option maxHeartbeats 4000000 in
set_option maxRecDepth 100000 in
theorem op_24 {l : Launch} (hfl : l.stackTraces = false) {G : Geo} {b L : Nat} {xs : Nat → Int32} {um : Nat} {J : JT} {JX : JXT} (CL : CbL l G b L xs um J JX) {A : DA} {X : St} {u i : Nat} (hL : L ≤ 2048) (hi : i + 4 ≤ L) (hu : u + 3 ≤ um) (hD : DInv X A) (hM : MInv X A) (kk : ∀ (X' : St) (A' : DA) (u' : Nat), DInv X' A' → MInv X' A' → u' ≤ u + 3 → J X' u' 1743 [(4, .int (nI i)), (3, .ref (G.2.1 36)), (2, .ref (G.2.1 37)), (1, .ref (G.2.1 0)), (0, .ref b)] []) : J X u 1517 [(4, .int (nI i)), (3, .ref (G.2.1 36)), (2, .ref (G.2.1 37)), (1, .ref (G.2.1 0)), (0, .ref b)] [] := by
  have C := CL.c
  refine r_aload_n C dL_law_1517 rfl rfl ?_
  refine r_aload_n C dL_law_1518 rfl rfl ?_
  refine r_iload C dL_law_1519 rfl ?_
  refine r_iconst (v := 1) C dL_law_1521 (by decide) ?_
  refine r_iadd C dL_law_1522 ?_
  refine r_sld CL (i + 1) (nI_p i 1) (by omega) hL dL_law_1523 ?_
  refine r_aload_n C dL_law_1524 rfl rfl ?_
  refine cl9_RL_188 CL (con_L_rankedCost l hfl _ hD) dL_law_1525 rfl ⟨Nat.le_of_ble_eq_true rfl, Nat.le_of_ble_eq_true rfl⟩ (by omega) (Nat.le_of_ble_eq_true rfl) (fun r_1525 X_1525 h_1525 => ?_)
  obtain ⟨hM1, hN⟩ := lw_rankedCost hD hM h_1525
  refine r_istore C dL_law_1528 (by decide) ?_
  refine r_aload_n C dL_law_1530 rfl rfl ?_
  refine r_aload_n C dL_law_1531 rfl rfl ?_
  refine r_iload C dL_law_1532 rfl ?_
  refine r_iconst (v := 1) C dL_law_1534 (by decide) ?_
  refine r_iadd C dL_law_1535 ?_
  refine r_sld CL (i + 1) (nI_p i 1) (by omega) hL dL_law_1536 ?_
  refine cl_RL_190 C (con_X6_rankedCost l hfl _ hM1) dL_law_1537 rfl ⟨Nat.le_of_ble_eq_true rfl, Nat.le_of_ble_eq_true rfl⟩ (by omega) (Nat.le_of_ble_eq_true rfl) (fun r_1537 X_1537 h_1537 => ?_)
  obtain ⟨A1, hD1, hM2, ht, ho⟩ := hN _ _ h_1537
  refine r_istore C dL_law_1540 (by decide) ?_
  refine r_aload_n C dL_law_1542 rfl rfl ?_
  refine cl_RL_102 C (con_X6_thrown l hfl _) dL_law_1543 rfl ⟨Nat.le_of_ble_eq_true rfl, Nat.le_of_ble_eq_true rfl⟩ (by omega) (Nat.le_of_ble_eq_true rfl) (fun r_1543 X_1543 h_1543 => ?_)
  obtain ⟨rfl, rfl⟩ := h_1543
  refine r_iload C dL_law_1546 rfl ?_
  refine r_icmp_eq (tgt := 1553) C dL_law_1548 (by decide) (fun c_1548 => ?_) (fun c_1548 => absurd (ht) c_1548)
  refine r_iload C dL_law_1553 rfl ?_
  refine r_if_ne (tgt := 1570) C dL_law_1555 (by decide) (fun c_1555 => ?_) (fun c_1555 => ?_)
  · -- 1570
    refine r_goto (tgt := 1743) C dL_law_1570 (by decide) ?_
    exact r_sub C (lv' := [(4, .int (nI i)), (3, .ref (G.2.1 36)), (2, .ref (G.2.1 37)), (1, .ref (G.2.1 0)), (0, .ref b)]) ⟨rfl, rfl, rfl, rfl, rfl, trivial⟩ (kk _ _ _ hD1 hM2 (by omega))
  · -- 1558
    refine r_aload_n C dL_law_1558 rfl rfl ?_
    refine r_iconst (v := 0) C dL_law_1559 (by decide) ?_
    refine r_lald C (0) (by decide) rfl rfl (by decide) dL_law_1560 ?_
    refine r_iload C dL_law_1561 rfl ?_
    refine r_i2l C dL_law_1563 ?_
    refine r_lcmp C dL_law_1564 ?_
    refine r_if_eq (tgt := 1570) C dL_law_1565 (by decide) (fun c_1565 => ?_) (fun c_1565 => absurd ((lcmp_e _ _).mpr (ho c_1555)) c_1565)
    refine r_goto (tgt := 1743) C dL_law_1570 (by decide) ?_
    exact r_sub C (lv' := [(4, .int (nI i)), (3, .ref (G.2.1 36)), (2, .ref (G.2.1 37)), (1, .ref (G.2.1 0)), (0, .ref b)]) ⟨rfl, rfl, rfl, rfl, rfl, trivial⟩ (kk _ _ _ hD1 hM2 (by omega))
set_option maxHeartbeats 4000000 in
set_option maxRecDepth 100000 in
theorem op_25 {l : Launch} (hfl : l.stackTraces = false) {G : Geo} {b L : Nat} {xs : Nat → Int32} {um : Nat} {J : JT} {JX : JXT} (CL : CbL l G b L xs um J JX) {A : DA} {X : St} {u i : Nat} (hL : L ≤ 2048) (hi : i + 4 ≤ L) (hu : u + 3 ≤ um) (hD : DInv X A) (hM : MInv X A) (kk : ∀ (X' : St) (A' : DA) (u' : Nat), DInv X' A' → MInv X' A' → u' ≤ u + 3 → J X' u' 1743 [(4, .int (nI i)), (3, .ref (G.2.1 36)), (2, .ref (G.2.1 37)), (1, .ref (G.2.1 0)), (0, .ref b)] []) : J X u 1573 [(4, .int (nI i)), (3, .ref (G.2.1 36)), (2, .ref (G.2.1 37)), (1, .ref (G.2.1 0)), (0, .ref b)] [] := by
  have C := CL.c
  refine r_aload_n C dL_law_1573 rfl rfl ?_
  refine r_aload_n C dL_law_1574 rfl rfl ?_
  refine r_iload C dL_law_1575 rfl ?_
  refine r_iconst (v := 1) C dL_law_1577 (by decide) ?_
  refine r_iadd C dL_law_1578 ?_
  refine r_sld CL (i + 1) (nI_p i 1) (by omega) hL dL_law_1579 ?_
  refine r_aload_n C dL_law_1580 rfl rfl ?_
  refine r_iload C dL_law_1581 rfl ?_
  refine r_iconst (v := 2) C dL_law_1583 (by decide) ?_
  refine r_iadd C dL_law_1584 ?_
  refine r_sld CL (i + 2) (nI_p i 2) (by omega) hL dL_law_1585 ?_
  refine r_aload_n C dL_law_1586 rfl rfl ?_
  refine cl9_RL_191 CL (con_L_rankedColumn l hfl _ hD) dL_law_1587 rfl ⟨Nat.le_of_ble_eq_true rfl, Nat.le_of_ble_eq_true rfl⟩ (by omega) (Nat.le_of_ble_eq_true rfl) (fun r_1587 X_1587 h_1587 => ?_)
  obtain ⟨hM1, hN⟩ := lw_rankedColumn hD hM h_1587
  refine r_istore C dL_law_1590 (by decide) ?_
  refine r_aload_n C dL_law_1592 rfl rfl ?_
  refine r_aload_n C dL_law_1593 rfl rfl ?_
  refine r_iload C dL_law_1594 rfl ?_
  refine r_iconst (v := 1) C dL_law_1596 (by decide) ?_
  refine r_iadd C dL_law_1597 ?_
  refine r_sld CL (i + 1) (nI_p i 1) (by omega) hL dL_law_1598 ?_
  refine r_aload_n C dL_law_1599 rfl rfl ?_
  refine r_iload C dL_law_1600 rfl ?_
  refine r_iconst (v := 2) C dL_law_1602 (by decide) ?_
  refine r_iadd C dL_law_1603 ?_
  refine r_sld CL (i + 2) (nI_p i 2) (by omega) hL dL_law_1604 ?_
  refine cl_RL_193 C (con_X6_rankedColumn l hfl _ hM1) dL_law_1605 rfl ⟨Nat.le_of_ble_eq_true rfl, Nat.le_of_ble_eq_true rfl⟩ (by omega) (Nat.le_of_ble_eq_true rfl) (fun r_1605 X_1605 h_1605 => ?_)
  obtain ⟨A1, hD1, hM2, ht, ho⟩ := hN _ _ h_1605
  refine r_istore C dL_law_1608 (by decide) ?_
  refine r_aload_n C dL_law_1610 rfl rfl ?_
  refine cl_RL_102 C (con_X6_thrown l hfl _) dL_law_1611 rfl ⟨Nat.le_of_ble_eq_true rfl, Nat.le_of_ble_eq_true rfl⟩ (by omega) (Nat.le_of_ble_eq_true rfl) (fun r_1611 X_1611 h_1611 => ?_)
  obtain ⟨rfl, rfl⟩ := h_1611
  refine r_iload C dL_law_1614 rfl ?_
  refine r_icmp_eq (tgt := 1621) C dL_law_1616 (by decide) (fun c_1616 => ?_) (fun c_1616 => absurd (ht) c_1616)
  refine r_iload C dL_law_1621 rfl ?_
  refine r_if_ne (tgt := 1638) C dL_law_1623 (by decide) (fun c_1623 => ?_) (fun c_1623 => ?_)
  · -- 1638
    refine r_goto (tgt := 1743) C dL_law_1638 (by decide) ?_
    exact r_sub C (lv' := [(4, .int (nI i)), (3, .ref (G.2.1 36)), (2, .ref (G.2.1 37)), (1, .ref (G.2.1 0)), (0, .ref b)]) ⟨rfl, rfl, rfl, rfl, rfl, trivial⟩ (kk _ _ _ hD1 hM2 (by omega))
  · -- 1626
    refine r_aload_n C dL_law_1626 rfl rfl ?_
    refine r_iconst (v := 0) C dL_law_1627 (by decide) ?_
    refine r_lald C (0) (by decide) rfl rfl (by decide) dL_law_1628 ?_
    refine r_iload C dL_law_1629 rfl ?_
    refine r_i2l C dL_law_1631 ?_
    refine r_lcmp C dL_law_1632 ?_
    refine r_if_eq (tgt := 1638) C dL_law_1633 (by decide) (fun c_1633 => ?_) (fun c_1633 => absurd ((lcmp_e _ _).mpr (ho c_1623)) c_1633)
    refine r_goto (tgt := 1743) C dL_law_1638 (by decide) ?_
    exact r_sub C (lv' := [(4, .int (nI i)), (3, .ref (G.2.1 36)), (2, .ref (G.2.1 37)), (1, .ref (G.2.1 0)), (0, .ref b)]) ⟨rfl, rfl, rfl, rfl, rfl, trivial⟩ (kk _ _ _ hD1 hM2 (by omega))
set_option maxHeartbeats 4000000 in
set_option maxRecDepth 100000 in
theorem op_26 {l : Launch} (hfl : l.stackTraces = false) {G : Geo} {b L : Nat} {xs : Nat → Int32} {um : Nat} {J : JT} {JX : JXT} (CL : CbL l G b L xs um J JX) {A : DA} {X : St} {u i : Nat} (hL : L ≤ 2048) (hi : i + 4 ≤ L) (hu : u + 3 ≤ um) (hD : DInv X A) (hM : MInv X A) (kk : ∀ (X' : St) (A' : DA) (u' : Nat), DInv X' A' → MInv X' A' → u' ≤ u + 3 → J X' u' 1743 [(4, .int (nI i)), (3, .ref (G.2.1 36)), (2, .ref (G.2.1 37)), (1, .ref (G.2.1 0)), (0, .ref b)] []) : J X u 1641 [(4, .int (nI i)), (3, .ref (G.2.1 36)), (2, .ref (G.2.1 37)), (1, .ref (G.2.1 0)), (0, .ref b)] [] := by
  have C := CL.c
  refine r_aload_n C dL_law_1641 rfl rfl ?_
  refine r_aload_n C dL_law_1642 rfl rfl ?_
  refine cl9_RL_194 CL (con_L_push l hfl _ hD) dL_law_1643 rfl ⟨Nat.le_of_ble_eq_true rfl, Nat.le_of_ble_eq_true rfl⟩ (by omega) (Nat.le_of_ble_eq_true rfl) (fun r_1643 X_1643 h_1643 => ?_)
  obtain ⟨hM1, hN⟩ := lw_push hD hM h_1643
  refine r_istore C dL_law_1646 (by decide) ?_
  refine r_aload_n C dL_law_1648 rfl rfl ?_
  refine cl_RL_196 C (con_X6_push l hfl _ hM1) dL_law_1649 rfl ⟨Nat.le_of_ble_eq_true rfl, Nat.le_of_ble_eq_true rfl⟩ (by omega) (Nat.le_of_ble_eq_true rfl) (fun r_1649 X_1649 h_1649 => ?_)
  obtain ⟨A1, hD1, hM2, ht, ho⟩ := hN _ _ h_1649
  refine r_istore C dL_law_1652 (by decide) ?_
  refine r_aload_n C dL_law_1654 rfl rfl ?_
  refine cl_RL_102 C (con_X6_thrown l hfl _) dL_law_1655 rfl ⟨Nat.le_of_ble_eq_true rfl, Nat.le_of_ble_eq_true rfl⟩ (by omega) (Nat.le_of_ble_eq_true rfl) (fun r_1655 X_1655 h_1655 => ?_)
  obtain ⟨rfl, rfl⟩ := h_1655
  refine r_iload C dL_law_1658 rfl ?_
  refine r_icmp_eq (tgt := 1665) C dL_law_1660 (by decide) (fun c_1660 => ?_) (fun c_1660 => absurd (ht) c_1660)
  refine r_iload C dL_law_1665 rfl ?_
  refine r_if_ne (tgt := 1682) C dL_law_1667 (by decide) (fun c_1667 => ?_) (fun c_1667 => ?_)
  · -- 1682
    refine r_goto (tgt := 1743) C dL_law_1682 (by decide) ?_
    exact r_sub C (lv' := [(4, .int (nI i)), (3, .ref (G.2.1 36)), (2, .ref (G.2.1 37)), (1, .ref (G.2.1 0)), (0, .ref b)]) ⟨rfl, rfl, rfl, rfl, rfl, trivial⟩ (kk _ _ _ hD1 hM2 (by omega))
  · -- 1670
    refine r_aload_n C dL_law_1670 rfl rfl ?_
    refine r_iconst (v := 0) C dL_law_1671 (by decide) ?_
    refine r_lald C (0) (by decide) rfl rfl (by decide) dL_law_1672 ?_
    refine r_iload C dL_law_1673 rfl ?_
    refine r_i2l C dL_law_1675 ?_
    refine r_lcmp C dL_law_1676 ?_
    refine r_if_eq (tgt := 1682) C dL_law_1677 (by decide) (fun c_1677 => ?_) (fun c_1677 => absurd ((lcmp_e _ _).mpr (ho c_1667)) c_1677)
    refine r_goto (tgt := 1743) C dL_law_1682 (by decide) ?_
    exact r_sub C (lv' := [(4, .int (nI i)), (3, .ref (G.2.1 36)), (2, .ref (G.2.1 37)), (1, .ref (G.2.1 0)), (0, .ref b)]) ⟨rfl, rfl, rfl, rfl, rfl, trivial⟩ (kk _ _ _ hD1 hM2 (by omega))
set_option maxHeartbeats 4000000 in
set_option maxRecDepth 100000 in
theorem op_27 {l : Launch} (hfl : l.stackTraces = false) {G : Geo} {b L : Nat} {xs : Nat → Int32} {um : Nat} {J : JT} {JX : JXT} (CL : CbL l G b L xs um J JX) {A : DA} {X : St} {u i : Nat} (hL : L ≤ 2048) (hi : i + 4 ≤ L) (hu : u + 3 ≤ um) (hD : DInv X A) (hM : MInv X A) (kk : ∀ (X' : St) (A' : DA) (u' : Nat), DInv X' A' → MInv X' A' → u' ≤ u + 3 → J X' u' 1743 [(4, .int (nI i)), (3, .ref (G.2.1 36)), (2, .ref (G.2.1 37)), (1, .ref (G.2.1 0)), (0, .ref b)] []) : J X u 1685 [(4, .int (nI i)), (3, .ref (G.2.1 36)), (2, .ref (G.2.1 37)), (1, .ref (G.2.1 0)), (0, .ref b)] [] := by
  have C := CL.c
  refine r_aload_n C dL_law_1685 rfl rfl ?_
  refine r_aload_n C dL_law_1686 rfl rfl ?_
  refine cl9_RL_197 CL (con_L_pop l hfl _ hD) dL_law_1687 rfl ⟨Nat.le_of_ble_eq_true rfl, Nat.le_of_ble_eq_true rfl⟩ (by omega) (Nat.le_of_ble_eq_true rfl) (fun r_1687 X_1687 h_1687 => ?_)
  obtain ⟨hM1, hN⟩ := lw_pop hD hM h_1687
  refine r_istore C dL_law_1690 (by decide) ?_
  refine r_aload_n C dL_law_1692 rfl rfl ?_
  refine cl_RL_199 C (con_X6_pop l hfl _ hM1) dL_law_1693 rfl ⟨Nat.le_of_ble_eq_true rfl, Nat.le_of_ble_eq_true rfl⟩ (by omega) (Nat.le_of_ble_eq_true rfl) (fun r_1693 X_1693 h_1693 => ?_)
  obtain ⟨A1, hD1, hM2, ht, ho⟩ := hN _ _ h_1693
  refine r_istore C dL_law_1696 (by decide) ?_
  refine r_aload_n C dL_law_1698 rfl rfl ?_
  refine cl_RL_102 C (con_X6_thrown l hfl _) dL_law_1699 rfl ⟨Nat.le_of_ble_eq_true rfl, Nat.le_of_ble_eq_true rfl⟩ (by omega) (Nat.le_of_ble_eq_true rfl) (fun r_1699 X_1699 h_1699 => ?_)
  obtain ⟨rfl, rfl⟩ := h_1699
  refine r_iload C dL_law_1702 rfl ?_
  refine r_icmp_eq (tgt := 1709) C dL_law_1704 (by decide) (fun c_1704 => ?_) (fun c_1704 => absurd (ht) c_1704)
  refine r_iload C dL_law_1709 rfl ?_
  refine r_if_ne (tgt := 1726) C dL_law_1711 (by decide) (fun c_1711 => ?_) (fun c_1711 => ?_)
  · -- 1726
    refine r_goto (tgt := 1743) C dL_law_1726 (by decide) ?_
    exact r_sub C (lv' := [(4, .int (nI i)), (3, .ref (G.2.1 36)), (2, .ref (G.2.1 37)), (1, .ref (G.2.1 0)), (0, .ref b)]) ⟨rfl, rfl, rfl, rfl, rfl, trivial⟩ (kk _ _ _ hD1 hM2 (by omega))
  · -- 1714
    refine r_aload_n C dL_law_1714 rfl rfl ?_
    refine r_iconst (v := 0) C dL_law_1715 (by decide) ?_
    refine r_lald C (0) (by decide) rfl rfl (by decide) dL_law_1716 ?_
    refine r_iload C dL_law_1717 rfl ?_
    refine r_i2l C dL_law_1719 ?_
    refine r_lcmp C dL_law_1720 ?_
    refine r_if_eq (tgt := 1726) C dL_law_1721 (by decide) (fun c_1721 => ?_) (fun c_1721 => absurd ((lcmp_e _ _).mpr (ho c_1711)) c_1721)
    refine r_goto (tgt := 1743) C dL_law_1726 (by decide) ?_
    exact r_sub C (lv' := [(4, .int (nI i)), (3, .ref (G.2.1 36)), (2, .ref (G.2.1 37)), (1, .ref (G.2.1 0)), (0, .ref b)]) ⟨rfl, rfl, rfl, rfl, rfl, trivial⟩ (kk _ _ _ hD1 hM2 (by omega))
set_option maxHeartbeats 4000000 in
set_option maxRecDepth 100000 in
theorem op_28 {l : Launch} (hfl : l.stackTraces = false) {G : Geo} {b L : Nat} {xs : Nat → Int32} {um : Nat} {J : JT} {JX : JXT} (CL : CbL l G b L xs um J JX) {A : DA} {X : St} {u i : Nat} (hL : L ≤ 2048) (hi : i + 4 ≤ L) (hu : u + 3 ≤ um) (hD : DInv X A) (hM : MInv X A) (kk : ∀ (X' : St) (A' : DA) (u' : Nat), DInv X' A' → MInv X' A' → u' ≤ u + 3 → J X' u' 1743 [(4, .int (nI i)), (3, .ref (G.2.1 36)), (2, .ref (G.2.1 37)), (1, .ref (G.2.1 0)), (0, .ref b)] []) : J X u 1729 [(4, .int (nI i)), (3, .ref (G.2.1 36)), (2, .ref (G.2.1 37)), (1, .ref (G.2.1 0)), (0, .ref b)] [] := by
  have C := CL.c
  refine r_aload_n C dL_law_1729 rfl rfl ?_
  refine cl_RL_200 C (con_X5_digest l hfl _ hD) dL_law_1730 rfl ⟨Nat.le_of_ble_eq_true rfl, Nat.le_of_ble_eq_true rfl⟩ (by omega) (Nat.le_of_ble_eq_true rfl) (fun r_1730 X_1730 h_1730 => ?_)
  obtain ⟨e1, hD1, hF1⟩ := h_1730
  refine r_aload_n C dL_law_1733 rfl rfl ?_
  refine cl_RL_204 C (con_X6_digest l hfl _ (mi_fr hM hF1)) dL_law_1734 rfl ⟨Nat.le_of_ble_eq_true rfl, Nat.le_of_ble_eq_true rfl⟩ (by omega) (Nat.le_of_ble_eq_true rfl) (fun r_1734 X_1734 h_1734 => ?_)
  obtain ⟨e2, -, hM2, hF2⟩ := h_1734
  have e3 : r_1730 = r_1734 := e1.trans e2.symm
  clear e1 e2
  subst e3
  refine r_lcmp C dL_law_1737 ?_
  refine r_if_eq (tgt := 1743) C dL_law_1738 (by decide) (fun c_1738 => ?_) (fun c_1738 => absurd ((lcmp_e _ _).mpr rfl) c_1738)
  exact r_sub C (lv' := [(4, .int (nI i)), (3, .ref (G.2.1 36)), (2, .ref (G.2.1 37)), (1, .ref (G.2.1 0)), (0, .ref b)]) ⟨rfl, rfl, rfl, rfl, rfl, trivial⟩ (kk _ _ _ (di_fr hD1 hF2) hM2 (by omega))
