set_option maxHeartbeats 4000000 in
set_option maxRecDepth 100000 in
theorem lp_X6_digest_a {l : Launch} {G : Geo} {J : JT} {JX : JXT} {X : St} (hfl : l.stackTraces = false) {A : DA} (hM : MInv X A) {d : Int64} {K9 : Option Value → St → Prop} (CE : Cl l RX6 cX6_digest 5 (some .long) [] G 7 240 0 K9 kF J JX) :
    J X 0 72 [(1, .long (dgf (bz A.ra) A.R d)), (0, .ref (G.2.1 37))] [] → ∀ n r, r + n = A.R → J X 0 37 [(3, .int (nI r)), (1, .long (dgf (bz A.ra) r d)), (0, .ref (G.2.1 37))] [] := by
  have C := CE.b
  intro hkk
  intro n
  induction n with
  | zero =>
    intro r h
    have hc : r = A.R := by omega
    subst hc
    refine r_iload_n C dX6_digest_37 rfl rfl ?_
    refine r_aload_n C dX6_digest_38 rfl rfl ?_
    refine gf_RX6_81 C dX6_digest_39 ?_
    refine r_topi (show _ = nI A.R from hM.b.1) ?_
    refine r_icmp_ge (tgt := 72) C dX6_digest_42 (by decide) (fun c_42 => ?_) (fun c_42 => absurd ((Int32.le_refl _)) c_42)
    exact r_sub C (lv' := [(1, .long (dgf (bz A.ra) A.R d)), (0, .ref (G.2.1 37))]) ⟨rfl, rfl, trivial⟩ hkk
  | succ n ih =>
    intro r h
    have hlt : r < A.R := by omega
    have hR10 := hM.ok.R
    have hC10 := hM.ok.C
    refine r_iload_n C dX6_digest_37 rfl rfl ?_
    refine r_aload_n C dX6_digest_38 rfl rfl ?_
    refine gf_RX6_81 C dX6_digest_39 ?_
    refine r_topi (show _ = nI A.R from hM.b.1) ?_
    refine r_icmp_ge (tgt := 72) C dX6_digest_42 (by decide) (fun c_42 => absurd c_42 ((nI_ge (a := r) (b := A.R) hlt (by omega)))) (fun c_42 => ?_)
    refine r_lload_n C dX6_digest_45 rfl rfl ?_
    refine r_ldc2 C dX6_digest_46 nk_RX6_187 ?_
    refine r_lmul C dX6_digest_49 ?_
    refine r_aload_n C dX6_digest_50 rfl rfl ?_
    refine gf_RX6_9 C dX6_digest_51 ?_
    refine r_iload_n C dX6_digest_54 rfl rfl ?_
    refine r_zald C (r) (by decide) rfl rfl (by omega) dX6_digest_55 ?_
    refine r_topi (hM.b.2.2.1 r (by omega)) ?_
    refine r_if_eq (tgt := 63) C dX6_digest_56 (by decide) (fun c_56 => ?_) (fun c_56 => ?_)
    · -- 63
      have eb : bz A.ra r = 0 := by rw [bz, bI_0 c_56]; rfl
      refine r_lconst (v := 0) C dX6_digest_63 (by decide) ?_
      refine r_ladd C dX6_digest_64 ?_
      refine r_topl (show _ = dgf (bz A.ra) (r + 1) d by rw [dgf, eb]; rfl) ?_
      refine r_lstore_n C dX6_digest_65 rfl (by decide) ?_
      refine r_iinc (v := _) C dX6_digest_66 rfl (nI_1 r) ?_
      refine r_goto (tgt := 37) C dX6_digest_69 (by decide) ?_
      refine r_sub C (lv' := [(3, .int (nI (r + 1))), (1, .long (dgf (bz A.ra) (r + 1) d)), (0, .ref (G.2.1 37))]) ⟨rfl, rfl, rfl, trivial⟩ ?_
      exact ih (r + 1) (by omega)
    · -- 59
      have eb : bz A.ra r = 1 := by rw [bz, bI_1 c_56]; rfl
      refine r_lconst (v := 1) C dX6_digest_59 (by decide) ?_
      refine r_goto (tgt := 64) C dX6_digest_60 (by decide) ?_
      refine r_ladd C dX6_digest_64 ?_
      refine r_topl (show _ = dgf (bz A.ra) (r + 1) d by rw [dgf, eb]; rfl) ?_
      refine r_lstore_n C dX6_digest_65 rfl (by decide) ?_
      refine r_iinc (v := _) C dX6_digest_66 rfl (nI_1 r) ?_
      refine r_goto (tgt := 37) C dX6_digest_69 (by decide) ?_
      refine r_sub C (lv' := [(3, .int (nI (r + 1))), (1, .long (dgf (bz A.ra) (r + 1) d)), (0, .ref (G.2.1 37))]) ⟨rfl, rfl, rfl, trivial⟩ ?_
      exact ih (r + 1) (by omega)

set_option maxHeartbeats 4000000 in
set_option maxRecDepth 100000 in
theorem lp_X6_digest_b {l : Launch} {G : Geo} {J : JT} {JX : JXT} {X : St} (hfl : l.stackTraces = false) {A : DA} (hM : MInv X A) {d : Int64} {K9 : Option Value → St → Prop} (CE : Cl l RX6 cX6_digest 5 (some .long) [] G 7 240 0 K9 kF J JX) :
    J X 0 109 [(1, .long (dgf (bz A.ca) A.C d)), (0, .ref (G.2.1 37))] [] → ∀ n r, r + n = A.C → J X 0 74 [(3, .int (nI r)), (1, .long (dgf (bz A.ca) r d)), (0, .ref (G.2.1 37))] [] := by
  have C := CE.b
  intro hkk
  intro n
  induction n with
  | zero =>
    intro r h
    have hc : r = A.C := by omega
    subst hc
    refine r_iload_n C dX6_digest_74 rfl rfl ?_
    refine r_aload_n C dX6_digest_75 rfl rfl ?_
    refine gf_RX6_84 C dX6_digest_76 ?_
    refine r_topi (show _ = nI A.C from hM.b.2.1) ?_
    refine r_icmp_ge (tgt := 109) C dX6_digest_79 (by decide) (fun c_79 => ?_) (fun c_79 => absurd ((Int32.le_refl _)) c_79)
    exact r_sub C (lv' := [(1, .long (dgf (bz A.ca) A.C d)), (0, .ref (G.2.1 37))]) ⟨rfl, rfl, trivial⟩ hkk
  | succ n ih =>
    intro r h
    have hlt : r < A.C := by omega
    have hR10 := hM.ok.R
    have hC10 := hM.ok.C
    refine r_iload_n C dX6_digest_74 rfl rfl ?_
    refine r_aload_n C dX6_digest_75 rfl rfl ?_
    refine gf_RX6_84 C dX6_digest_76 ?_
    refine r_topi (show _ = nI A.C from hM.b.2.1) ?_
    refine r_icmp_ge (tgt := 109) C dX6_digest_79 (by decide) (fun c_79 => absurd c_79 ((nI_ge (a := r) (b := A.C) hlt (by omega)))) (fun c_79 => ?_)
    refine r_lload_n C dX6_digest_82 rfl rfl ?_
    refine r_ldc2 C dX6_digest_83 nk_RX6_187 ?_
    refine r_lmul C dX6_digest_86 ?_
    refine r_aload_n C dX6_digest_87 rfl rfl ?_
    refine gf_RX6_13 C dX6_digest_88 ?_
    refine r_iload_n C dX6_digest_91 rfl rfl ?_
    refine r_zald C (r) (by decide) rfl rfl (by omega) dX6_digest_92 ?_
    refine r_topi (hM.b.2.2.2.1 r (by omega)) ?_
    refine r_if_eq (tgt := 100) C dX6_digest_93 (by decide) (fun c_93 => ?_) (fun c_93 => ?_)
    · -- 100
      have eb : bz A.ca r = 0 := by rw [bz, bI_0 c_93]; rfl
      refine r_lconst (v := 0) C dX6_digest_100 (by decide) ?_
      refine r_ladd C dX6_digest_101 ?_
      refine r_topl (show _ = dgf (bz A.ca) (r + 1) d by rw [dgf, eb]; rfl) ?_
      refine r_lstore_n C dX6_digest_102 rfl (by decide) ?_
      refine r_iinc (v := _) C dX6_digest_103 rfl (nI_1 r) ?_
      refine r_goto (tgt := 74) C dX6_digest_106 (by decide) ?_
      refine r_sub C (lv' := [(3, .int (nI (r + 1))), (1, .long (dgf (bz A.ca) (r + 1) d)), (0, .ref (G.2.1 37))]) ⟨rfl, rfl, rfl, trivial⟩ ?_
      exact ih (r + 1) (by omega)
    · -- 96
      have eb : bz A.ca r = 1 := by rw [bz, bI_1 c_93]; rfl
      refine r_lconst (v := 1) C dX6_digest_96 (by decide) ?_
      refine r_goto (tgt := 101) C dX6_digest_97 (by decide) ?_
      refine r_ladd C dX6_digest_101 ?_
      refine r_topl (show _ = dgf (bz A.ca) (r + 1) d by rw [dgf, eb]; rfl) ?_
      refine r_lstore_n C dX6_digest_102 rfl (by decide) ?_
      refine r_iinc (v := _) C dX6_digest_103 rfl (nI_1 r) ?_
      refine r_goto (tgt := 74) C dX6_digest_106 (by decide) ?_
      refine r_sub C (lv' := [(3, .int (nI (r + 1))), (1, .long (dgf (bz A.ca) (r + 1) d)), (0, .ref (G.2.1 37))]) ⟨rfl, rfl, rfl, trivial⟩ ?_
      exact ih (r + 1) (by omega)

set_option maxHeartbeats 4000000 in
set_option maxRecDepth 100000 in
theorem lp_X6_digest_c {l : Launch} {G : Geo} {J : JT} {JX : JXT} {X : St} (hfl : l.stackTraces = false) {A : DA} (hM : MInv X A) {d : Int64} {K9 : Option Value → St → Prop} {r : Nat} (hr : r < A.R) (CE : Cl l RX6 cX6_digest 5 (some .long) [] G 7 240 0 K9 kF J JX) :
    J X 0 178 [(3, .int (nI r)), (1, .long (dgf (fun c => A.z (10 * r + c)) A.C d)), (0, .ref (G.2.1 37))] [] → ∀ n c, c + n = A.C → J X 0 122 [(4, .int (nI c)), (3, .int (nI r)), (1, .long (dgf (fun c => A.z (10 * r + c)) c d)), (0, .ref (G.2.1 37))] [] := by
  have C := CE.b
  intro hkk
  intro n
  induction n with
  | zero =>
    intro c h
    have hc : c = A.C := by omega
    subst hc
    refine r_iload C dX6_digest_122 rfl ?_
    refine r_aload_n C dX6_digest_124 rfl rfl ?_
    refine gf_RX6_84 C dX6_digest_125 ?_
    refine r_topi (show _ = nI A.C from hM.b.2.1) ?_
    refine r_icmp_ge (tgt := 178) C dX6_digest_128 (by decide) (fun c_128 => ?_) (fun c_128 => absurd ((Int32.le_refl _)) c_128)
    exact r_sub C (lv' := [(3, .int (nI r)), (1, .long (dgf (fun c => A.z (10 * r + c)) A.C d)), (0, .ref (G.2.1 37))]) ⟨rfl, rfl, rfl, trivial⟩ hkk
  | succ n ih =>
    intro c h
    have hlt : c < A.C := by omega
    have hR10 := hM.ok.R
    have hC10 := hM.ok.C
    have hz := hM.ok.t.2.2.1 (10 * r + c) (by omega)
    refine r_iload C dX6_digest_122 rfl ?_
    refine r_aload_n C dX6_digest_124 rfl rfl ?_
    refine gf_RX6_84 C dX6_digest_125 ?_
    refine r_topi (show _ = nI A.C from hM.b.2.1) ?_
    refine r_icmp_ge (tgt := 178) C dX6_digest_128 (by decide) (fun c_128 => absurd c_128 ((nI_ge (a := c) (b := A.C) hlt (by omega)))) (fun c_128 => ?_)
    refine r_lload_n C dX6_digest_131 rfl rfl ?_
    refine r_ldc2 C dX6_digest_132 nk_RX6_187 ?_
    refine r_lmul C dX6_digest_135 ?_
    refine r_aload_n C dX6_digest_136 rfl rfl ?_
    refine gf_RX6_16 C dX6_digest_137 ?_
    refine r_bipush (v := 10) C dX6_digest_140 (by decide) ?_
    refine r_iload_n C dX6_digest_142 rfl rfl ?_
    refine r_imul C dX6_digest_143 ?_
    refine r_iload C dX6_digest_144 rfl ?_
    refine r_iadd C dX6_digest_146 ?_
    refine r_zald C (10 * r + c) (by decide) rfl (zix' r c) (by omega) dX6_digest_147 ?_
    refine r_topi (hM.b.2.2.2.2.1 _ (by omega)) ?_
    refine r_if_eq (tgt := 166) C dX6_digest_148 (by decide) (fun c_148 => ?_) (fun c_148 => ?_)
    · -- 166
      have e2 := al_f.mp (bI_0 c_148)
      refine r_sipush (v := 20000) C dX6_digest_166 (by decide) ?_
      refine r_topi (show (20000 : Int32) = i32 (A.z (10 * r + c)) by rw [e2]; decide) ?_
      refine r_i2l C dX6_digest_169 ?_
      refine r_topl (i32_long (by omega)) ?_
      refine r_ladd C dX6_digest_170 ?_
      refine r_lstore_n C dX6_digest_171 rfl (by decide) ?_
      refine r_iinc (v := _) C dX6_digest_172 rfl (nI_1 c) ?_
      refine r_goto (tgt := 122) C dX6_digest_175 (by decide) ?_
      refine r_sub C (lv' := [(4, .int (nI (c + 1))), (3, .int (nI r)), (1, .long (dgf (fun c => A.z (10 * r + c)) (c + 1) d)), (0, .ref (G.2.1 37))]) ⟨rfl, rfl, rfl, rfl, trivial⟩ ?_
      exact ih (c + 1) (by omega)
    · -- 151
      have e2 := bI_1 c_148
      refine r_aload_n C dX6_digest_151 rfl rfl ?_
      refine gf_RX6_19 C dX6_digest_152 ?_
      refine r_bipush (v := 10) C dX6_digest_155 (by decide) ?_
      refine r_iload_n C dX6_digest_157 rfl rfl ?_
      refine r_imul C dX6_digest_158 ?_
      refine r_iload C dX6_digest_159 rfl ?_
      refine r_iadd C dX6_digest_161 ?_
      refine r_iald C (10 * r + c) (by decide) rfl (zix' r c) (by omega) dX6_digest_162 ?_
      refine r_topi (hM.b.2.2.2.2.2 _ (by omega) e2) ?_
      refine r_goto (tgt := 169) C dX6_digest_163 (by decide) ?_
      refine r_i2l C dX6_digest_169 ?_
      refine r_topl (i32_long (by omega)) ?_
      refine r_ladd C dX6_digest_170 ?_
      refine r_lstore_n C dX6_digest_171 rfl (by decide) ?_
      refine r_iinc (v := _) C dX6_digest_172 rfl (nI_1 c) ?_
      refine r_goto (tgt := 122) C dX6_digest_175 (by decide) ?_
      refine r_sub C (lv' := [(4, .int (nI (c + 1))), (3, .int (nI r)), (1, .long (dgf (fun c => A.z (10 * r + c)) (c + 1) d)), (0, .ref (G.2.1 37))]) ⟨rfl, rfl, rfl, rfl, trivial⟩ ?_
      exact ih (c + 1) (by omega)

set_option maxHeartbeats 4000000 in
set_option maxRecDepth 100000 in
theorem lp_X6_digest_d {l : Launch} {G : Geo} {J : JT} {JX : JXT} {X : St} (hfl : l.stackTraces = false) {A : DA} (hM : MInv X A) {d : Int64} {K9 : Option Value → St → Prop} (CE : Cl l RX6 cX6_digest 5 (some .long) [] G 7 240 0 K9 kF J JX) :
    J X 0 184 [(1, .long (dgt A.z A.C A.R d)), (0, .ref (G.2.1 37))] [] → ∀ n r, r + n = A.R → J X 0 111 [(3, .int (nI r)), (1, .long (dgt A.z A.C r d)), (0, .ref (G.2.1 37))] [] := by
  have C := CE.b
  intro hkk
  intro n
  induction n with
  | zero =>
    intro r h
    have hc : r = A.R := by omega
    subst hc
    refine r_iload_n C dX6_digest_111 rfl rfl ?_
    refine r_aload_n C dX6_digest_112 rfl rfl ?_
    refine gf_RX6_81 C dX6_digest_113 ?_
    refine r_topi (show _ = nI A.R from hM.b.1) ?_
    refine r_icmp_ge (tgt := 184) C dX6_digest_116 (by decide) (fun c_116 => ?_) (fun c_116 => absurd ((Int32.le_refl _)) c_116)
    exact r_sub C (lv' := [(1, .long (dgt A.z A.C A.R d)), (0, .ref (G.2.1 37))]) ⟨rfl, rfl, trivial⟩ hkk
  | succ n ih =>
    intro r h
    have hlt : r < A.R := by omega
    have hR10 := hM.ok.R
    have hC10 := hM.ok.C
    refine r_iload_n C dX6_digest_111 rfl rfl ?_
    refine r_aload_n C dX6_digest_112 rfl rfl ?_
    refine gf_RX6_81 C dX6_digest_113 ?_
    refine r_topi (show _ = nI A.R from hM.b.1) ?_
    refine r_icmp_ge (tgt := 184) C dX6_digest_116 (by decide) (fun c_116 => absurd c_116 ((nI_ge (a := r) (b := A.R) hlt (by omega)))) (fun c_116 => ?_)
    refine r_iconst (v := 0) C dX6_digest_119 (by decide) ?_
    refine r_istore C dX6_digest_120 (by decide) ?_
    refine r_sub C (lv' := [(4, .int (nI 0)), (3, .int (nI r)), (1, .long (dgf (fun c => A.z (10 * r + c)) 0 (dgt A.z A.C r d))), (0, .ref (G.2.1 37))]) ⟨rfl, rfl, rfl, rfl, trivial⟩ ?_
    refine lp_X6_digest_c hfl hM hlt CE ?_ A.C 0 (by omega)
    refine r_iinc (v := _) C dX6_digest_178 rfl (nI_1 r) ?_
    refine r_goto (tgt := 111) C dX6_digest_181 (by decide) ?_
    refine r_sub C (lv' := [(3, .int (nI (r + 1))), (1, .long (dgt A.z A.C (r + 1) d)), (0, .ref (G.2.1 37))]) ⟨rfl, rfl, rfl, trivial⟩ ?_
    exact ih (r + 1) (by omega)

set_option maxHeartbeats 4000000 in
set_option maxRecDepth 100000 in
theorem lp_X6_digest_e {l : Launch} {G : Geo} {J : JT} {JX : JXT} {X : St} (hfl : l.stackTraces = false) {A : DA} (hM : MInv X A) {d : Int64} {K9 : Option Value → St → Prop} (hc : ∀ r, r < A.R → Zv X 52 r = nI (2 ^ gcol (chU A.ra A.ca A.z) (sc A.z) A.R r (gtk (chU A.ra A.ca A.z) (sc A.z) A.R r))) (CE : Cl l RX6 cX6_digest 5 (some .long) [] G 7 240 0 K9 kF J JX) :
    J X 0 251 [(1, .long (dgf (fun r => cZ (kcol A.ra A.ca A.z r (kfree A.ra A.ca A.z r))) A.R d)), (0, .ref (G.2.1 37))] [] → ∀ n r, r + n = A.R → J X 0 220 [(3, .int (nI r)), (1, .long (dgf (fun r => cZ (kcol A.ra A.ca A.z r (kfree A.ra A.ca A.z r))) r d)), (0, .ref (G.2.1 37))] [] := by
  have C := CE.b
  intro hkk
  intro n
  induction n with
  | zero =>
    intro r h
    have hq : r = A.R := by omega
    subst hq
    refine r_iload_n C dX6_digest_220 rfl rfl ?_
    refine r_aload_n C dX6_digest_221 rfl rfl ?_
    refine gf_RX6_81 C dX6_digest_222 ?_
    refine r_topi (show _ = nI A.R from hM.b.1) ?_
    refine r_icmp_ge (tgt := 251) C dX6_digest_225 (by decide) (fun c_225 => ?_) (fun c_225 => absurd ((Int32.le_refl _)) c_225)
    exact r_sub C (lv' := [(1, .long (dgf (fun r => cZ (kcol A.ra A.ca A.z r (kfree A.ra A.ca A.z r))) A.R d)), (0, .ref (G.2.1 37))]) ⟨rfl, rfl, trivial⟩ hkk
  | succ n ih =>
    intro r h
    have hr : r < A.R := by omega
    have hR10 := hM.ok.R
    have hC10 := hM.ok.C
    refine r_iload_n C dX6_digest_220 rfl rfl ?_
    refine r_aload_n C dX6_digest_221 rfl rfl ?_
    refine gf_RX6_81 C dX6_digest_222 ?_
    refine r_topi (show _ = nI A.R from hM.b.1) ?_
    refine r_icmp_ge (tgt := 251) C dX6_digest_225 (by decide) (fun c_225 => absurd c_225 ((nI_ge (a := r) (b := A.R) hr (by omega)))) (fun c_225 => ?_)
    refine r_lload_n C dX6_digest_228 rfl rfl ?_
    refine r_ldc2 C dX6_digest_229 nk_RX6_187 ?_
    refine r_lmul C dX6_digest_232 ?_
    refine r_aload_n C dX6_digest_233 rfl rfl ?_
    refine gf_RX6_53 C dX6_digest_234 ?_
    refine r_iload_n C dX6_digest_237 rfl rfl ?_
    refine r_iald C (r) (by decide) rfl rfl (by omega) dX6_digest_238 ?_
    refine r_topi (show _ = nI (2 ^ (kcol A.ra A.ca A.z r (kfree A.ra A.ca A.z r))) by rw [← chU_col hM.ok hr]; exact hc r hr) ?_
    refine cl_RX6_134 C (con_X6_columnOfBit l hfl _ (c := (kcol A.ra A.ca A.z r (kfree A.ra A.ca A.z r))) (Nat.lt_succ_of_le (kcol_le _ _ _ _ _))) dX6_digest_239 rfl ⟨Nat.le_of_ble_eq_true rfl, Nat.le_of_ble_eq_true rfl⟩ (by omega) (Nat.le_of_ble_eq_true rfl) (fun r_239 X_239 h_239 => ?_)
    obtain ⟨rfl, rfl⟩ := h_239
    refine r_topi (cI_z _) ?_
    refine r_i2l C dX6_digest_242 ?_
    refine r_topl (i32_long (cZ_ok _)) ?_
    refine r_ladd C dX6_digest_243 ?_
    refine r_lstore_n C dX6_digest_244 rfl (by decide) ?_
    refine r_iinc (v := _) C dX6_digest_245 rfl (nI_1 r) ?_
    refine r_goto (tgt := 220) C dX6_digest_248 (by decide) ?_
    refine r_sub C (lv' := [(3, .int (nI (r + 1))), (1, .long (dgf (fun r => cZ (kcol A.ra A.ca A.z r (kfree A.ra A.ca A.z r))) (r + 1) d)), (0, .ref (G.2.1 37))]) ⟨rfl, rfl, rfl, trivial⟩ ?_
    exact ih (r + 1) (by omega)

set_option maxHeartbeats 4000000 in
set_option maxRecDepth 100000 in
/-- X6_digest  -/
theorem con_X6_digest (l : Launch) (hfl : l.stackTraces = false) {A : DA} (X : St) (hM : MInv X A) : Con l yX6_digest cX6_digest 5 (some (FieldType.long)) 7 240 0 (fun G => [.ref (G.2.1 37)]) X (kL (fun r9 X' => r9 = dgf (fun r => cZ (kcol A.ra A.ca A.z r (kfree A.ra A.ca A.z r))) A.R ((dgs A.R A.C A.ra A.ca A.z ((((41 * 31 + i64 (A.R : Int)) * 31 + i64 (A.C : Int)) * 31 + i64 (A.lv.length : Int))) * 31 + i64 (szf (Ls A.ra A.ca A.z 10 A.ca))) * 31 + i64 (csf (Ls A.ra A.ca A.z 10 A.ca))) ∧ Zm X' 37 0 = 0 ∧ MInv X' A ∧ Fr Mp X X')) kF := by
  refine con_of (lv := fun G => [(0, .ref (G.2.1 37))]) hfl (by decide +kernel) (fun _ => rfl) (fun _ => Nat.le_of_ble_eq_true rfl) ?_
  intro G J JX CE
  have C := CE.b
  have hR10 := hM.ok.R
  have hC10 := hM.ok.C
  have hL8 := hM.ok.n
  have hLb := Ls_bd (ra := A.ra) (ca := A.ca) hM.ok.t.2.2.1 10 A.ca (by omega)
  have ho := szf_ok (z := (Ls A.ra A.ca A.z 10 A.ca)) (by omega)
  have hcs : -20000000 ≤ csf (Ls A.ra A.ca A.z 10 A.ca) ∧ csf (Ls A.ra A.ca A.z 10 A.ca) ≤ 20000000 := by
    obtain ⟨s, c, h1, h2, h3, h4, h5, h6, h7⟩ := kv_s (kv_L hM) (Nat.le_refl _)
    rw [h3]; omega
  refine r_aload_n C dX6_digest_0 rfl rfl ?_
  refine r_iconst (v := 0) C dX6_digest_1 (by decide) ?_
  refine pf_RX6_77 C dX6_digest_2 ?_
  refine r_ldc2 C dX6_digest_5 nk_RX6_185 ?_
  refine r_aload_n C dX6_digest_8 rfl rfl ?_
  refine gf_RX6_81 C dX6_digest_9 ?_
  refine r_topi (show _ = nI A.R from hM.b.1) ?_
  refine r_i2l C dX6_digest_12 ?_
  refine r_topl (l11 _ (by omega)) ?_
  refine r_ladd C dX6_digest_13 ?_
  refine r_topl (show _ = 41 * 31 + i64 (A.R : Int) from rfl) ?_
  refine r_ldc2 C dX6_digest_14 nk_RX6_187 ?_
  refine r_lmul C dX6_digest_17 ?_
  refine r_aload_n C dX6_digest_18 rfl rfl ?_
  refine gf_RX6_84 C dX6_digest_19 ?_
  refine r_topi (show _ = nI A.C from hM.b.2.1) ?_
  refine r_i2l C dX6_digest_22 ?_
  refine r_topl (l11 _ (by omega)) ?_
  refine r_ladd C dX6_digest_23 ?_
  refine r_ldc2 C dX6_digest_24 nk_RX6_187 ?_
  refine r_lmul C dX6_digest_27 ?_
  refine r_aload_n C dX6_digest_28 rfl rfl ?_
  refine gf_RX6_182 C dX6_digest_29 ?_
  refine r_topi (show _ = nI A.lv.length from hM.n) ?_
  refine r_i2l C dX6_digest_32 ?_
  refine r_topl (l11 _ (by omega)) ?_
  refine r_ladd C dX6_digest_33 ?_
  refine r_lstore_n C dX6_digest_34 rfl (by decide) ?_
  refine r_iconst (v := 0) C dX6_digest_35 (by decide) ?_
  refine r_istore_n C dX6_digest_36 rfl (by decide) ?_
  refine r_sub C (lv' := [(3, .int (nI 0)), (1, .long (dgf (bz A.ra) 0 ((((41 * 31 + i64 (A.R : Int)) * 31 + i64 (A.C : Int)) * 31 + i64 (A.lv.length : Int))))), (0, .ref (G.2.1 37))]) ⟨rfl, rfl, rfl, trivial⟩ ?_
  refine lp_X6_digest_a hfl (X := (Ym X 37 0 0)) (A := A) hM CE ?_ A.R 0 (by omega)
  refine r_iconst (v := 0) C dX6_digest_72 (by decide) ?_
  refine r_istore_n C dX6_digest_73 rfl (by decide) ?_
  refine r_sub C (lv' := [(3, .int (nI 0)), (1, .long (dgf (bz A.ca) 0 (dgf (bz A.ra) A.R ((((41 * 31 + i64 (A.R : Int)) * 31 + i64 (A.C : Int)) * 31 + i64 (A.lv.length : Int)))))), (0, .ref (G.2.1 37))]) ⟨rfl, rfl, rfl, trivial⟩ ?_
  refine lp_X6_digest_b hfl (X := (Ym X 37 0 0)) (A := A) hM CE ?_ A.C 0 (by omega)
  refine r_iconst (v := 0) C dX6_digest_109 (by decide) ?_
  refine r_istore_n C dX6_digest_110 rfl (by decide) ?_
  refine r_sub C (lv' := [(3, .int (nI 0)), (1, .long (dgt A.z A.C 0 (dgf (bz A.ca) A.C (dgf (bz A.ra) A.R ((((41 * 31 + i64 (A.R : Int)) * 31 + i64 (A.C : Int)) * 31 + i64 (A.lv.length : Int))))))), (0, .ref (G.2.1 37))]) ⟨rfl, rfl, rfl, trivial⟩ ?_
  refine lp_X6_digest_d hfl (X := (Ym X 37 0 0)) (A := A) hM CE ?_ A.R 0 (by omega)
  refine r_aload_n C dX6_digest_184 rfl rfl ?_
  refine cl_RX6_146 C (con_X6_solve l hfl (Ym X 37 0 0) hM) dX6_digest_185 rfl ⟨Nat.le_of_ble_eq_true rfl, Nat.le_of_ble_eq_true rfl⟩ (by omega) (Nat.le_of_ble_eq_true rfl) (fun X_185 h_185 => ?_)
  obtain ⟨hk, hT, hM2, hF⟩ := h_185
  obtain ⟨t1, t2, t3⟩ := tpS hT hM.ok
  have z0 : Zm X_185 37 0 = 0 := (hF 37 (by omega)).1 0
  have hF0 : Fr Mp X X_185 := (Fr.t1 0).tr (hF.mono (fun k q => by have q : 48 ≤ k ∧ k ≤ 51 := q; show 37 ≤ k; omega))
  refine r_aload_n C dX6_digest_188 rfl rfl ?_
  refine cl_RX6_149 C (con_X6_choose l hfl _ (p := ((Ls A.ra A.ca A.z 10 A.ca), Bw A.ra A.ca A.z 10 A.ca)) hM2.b.1 hM.ok.R hM.ok.C hk hT (gU_top hM.ok)) dX6_digest_189 rfl ⟨Nat.le_of_ble_eq_true rfl, Nat.le_of_ble_eq_true rfl⟩ (by omega) (Nat.le_of_ble_eq_true rfl) (fun X_189 h_189 => ?_)
  obtain ⟨hc, hF2⟩ := h_189
  have hM3 : MInv X_189 A := hM2.fr hF2 (fun k _ _ q => by omega)
  have z3 : Zm X_189 37 0 = 0 := ((hF2 37 (by decide)).1 0).trans z0
  have hF3 : Fr Mp X X_189 := hF0.tr (hF2.mono (fun k q => by show 37 ≤ k; omega))
  refine r_lload_n C dX6_digest_192 rfl rfl ?_
  refine r_ldc2 C dX6_digest_193 nk_RX6_187 ?_
  refine r_lmul C dX6_digest_196 ?_
  refine r_aload_n C dX6_digest_197 rfl rfl ?_
  refine gf_RX6_41 C dX6_digest_198 ?_
  refine r_iconst (v := 0) C dX6_digest_201 (by decide) ?_
  refine r_iald C (0) (by decide) rfl rfl (by decide) dX6_digest_202 ?_
  refine r_topi (((congrFun (hF2 48 (by decide)).2.1 0).trans t1)) ?_
  refine r_i2l C dX6_digest_203 ?_
  refine r_topl (i32_long ho) ?_
  refine r_ladd C dX6_digest_204 ?_
  refine r_ldc2 C dX6_digest_205 nk_RX6_187 ?_
  refine r_lmul C dX6_digest_208 ?_
  refine r_aload_n C dX6_digest_209 rfl rfl ?_
  refine gf_RX6_44 C dX6_digest_210 ?_
  refine r_iconst (v := 0) C dX6_digest_213 (by decide) ?_
  refine r_iald C (0) (by decide) rfl rfl (by decide) dX6_digest_214 ?_
  refine r_topi (((congrFun (hF2 49 (by decide)).2.1 0).trans t2)) ?_
  refine r_i2l C dX6_digest_215 ?_
  refine r_topl (i32_long (by omega)) ?_
  refine r_ladd C dX6_digest_216 ?_
  refine r_lstore_n C dX6_digest_217 rfl (by decide) ?_
  refine r_iconst (v := 0) C dX6_digest_218 (by decide) ?_
  refine r_istore_n C dX6_digest_219 rfl (by decide) ?_
  refine r_sub C (lv' := [(3, .int (nI 0)), (1, .long (dgf (fun r => cZ (kcol A.ra A.ca A.z r (kfree A.ra A.ca A.z r))) 0 (((dgt A.z A.C A.R (dgf (bz A.ca) A.C (dgf (bz A.ra) A.R ((((41 * 31 + i64 (A.R : Int)) * 31 + i64 (A.C : Int)) * 31 + i64 (A.lv.length : Int)))))) * 31 + i64 (szf (Ls A.ra A.ca A.z 10 A.ca))) * 31 + i64 (csf (Ls A.ra A.ca A.z 10 A.ca))))), (0, .ref (G.2.1 37))]) ⟨rfl, rfl, rfl, trivial⟩ ?_
  refine lp_X6_digest_e hfl hM3 (fun r hr => hc r hr) CE ?_ A.R 0 (by omega)
  refine r_lload_n C dX6_digest_251 rfl rfl ?_
  exact r_lret CE rfl dX6_digest_252 (Nat.le_of_ble_eq_true rfl) ⟨_, rfl, rfl, z3, hM3, hF3⟩
