def bz (S r : Nat) : Int := if S.testBit r then 1 else 0
theorem bz_l (S r : Nat) : (bI (S.testBit r)).toInt64 = i64 (bz S r) := by
  unfold bz
  cases S.testBit r <;> decide
/-- the cells of the first n rows -/
def dgt (z : Nat → Int) (C : Nat) : Nat → Int64 → Int64
  | 0, d => d
  | n + 1, d => dgf (fun c => z (10 * n + c)) C (dgt z C n d)
theorem l11 : ∀ c, c < 11 → (nI c).toInt64 = i64 ((c : Nat) : Int) := by decide +kernel
def dgs (R C ra ca : Nat) (z : Nat → Int) (d : Int64) : Int64 := dgt z C R (dgf (bz ca) C (dgf (bz ra) R d))
set_option maxHeartbeats 4000000 in
set_option maxRecDepth 100000 in
theorem lp_X4_addTo_a {l : Launch} {G : Geo} {J : JT} {JX : JXT} {X : St} (hfl : l.stackTraces = false) {R C0 ra ca : Nat} {z : Nat → Int} {d : Int64} (hR : Zm X 1 1 = nI R) (hC : Zm X 1 2 = nI C0) (hR2 : R ≤ 10) (hC2 : C0 ≤ 10) (hT : TbZ X ra ca z) (CE : Cl l RX4 cX4_addTo 7 (some .long) [] G 1 60 0 (kL (fun r9 X' => r9 = dgs R C0 ra ca z d ∧ X = X')) kF J JX) :
    J X 0 37 [(3, .long (dgf (bz ra) R d)), (0, .ref (G.2.1 1)), (1, .long d)] [] → ∀ n r, r + n = R → J X 0 5 [(5, .int (nI r)), (3, .long (dgf (bz ra) r d)), (0, .ref (G.2.1 1)), (1, .long d)] [] := by
  have C := CE.b
  intro hkk
  intro n
  induction n with
  | zero =>
    intro r h
    have hc : r = R := by omega
    subst hc
    refine r_iload C dX4_addTo_5 rfl ?_
    refine r_aload_n C dX4_addTo_7 rfl rfl ?_
    refine gf_RX4_25 C dX4_addTo_8 ?_
    refine r_topi hR ?_
    refine r_icmp_ge (tgt := 37) C dX4_addTo_11 (by decide) (fun c_11 => ?_) (fun c_11 => absurd ((Int32.le_refl _)) c_11)
    exact r_sub C (lv' := [(3, .long (dgf (bz ra) r d)), (0, .ref (G.2.1 1)), (1, .long d)]) ⟨rfl, rfl, rfl, trivial⟩ hkk
  | succ n ih =>
    intro r h
    have hlt : r < R := by omega
    refine r_iload C dX4_addTo_5 rfl ?_
    refine r_aload_n C dX4_addTo_7 rfl rfl ?_
    refine gf_RX4_25 C dX4_addTo_8 ?_
    refine r_topi hR ?_
    refine r_icmp_ge (tgt := 37) C dX4_addTo_11 (by decide) (fun c_11 => absurd c_11 ((nI_ge (a := r) (b := R) hlt (by omega)))) (fun c_11 => ?_)
    refine r_lload_n C dX4_addTo_14 rfl rfl ?_
    refine r_ldc2 C dX4_addTo_15 nk_RX4_59 ?_
    refine r_lmul C dX4_addTo_18 ?_
    refine r_aload_n C dX4_addTo_19 rfl rfl ?_
    refine gf_RX4_21 C dX4_addTo_20 ?_
    refine r_topi hT.1 ?_
    refine r_iload C dX4_addTo_23 rfl ?_
    refine r_ishr C dX4_addTo_25 ?_
    refine r_iconst (v := 1) C dX4_addTo_26 (by decide) ?_
    refine r_iand C dX4_addTo_27 ?_
    refine r_topi (shr_bit (S := ra) (i := r) (Nat.lt_of_lt_of_le hT.2.2.1 (by decide : 1024 ≤ 2 ^ 31)) (by omega)) ?_
    refine r_i2l C dX4_addTo_28 ?_
    refine r_topl (bz_l _ _) ?_
    refine r_ladd C dX4_addTo_29 ?_
    refine r_lstore_n C dX4_addTo_30 rfl (by decide) ?_
    refine r_iinc (v := _) C dX4_addTo_31 rfl (nI_1 r) ?_
    refine r_goto (tgt := 5) C dX4_addTo_34 (by decide) ?_
    refine r_sub C (lv' := [(5, .int (nI (r + 1))), (3, .long (dgf (bz ra) (r + 1) d)), (0, .ref (G.2.1 1)), (1, .long d)]) ⟨rfl, rfl, rfl, rfl, trivial⟩ ?_
    exact ih (r + 1) (by omega)

set_option maxHeartbeats 4000000 in
set_option maxRecDepth 100000 in
theorem lp_X4_addTo_b {l : Launch} {G : Geo} {J : JT} {JX : JXT} {X : St} (hfl : l.stackTraces = false) {R C0 ra ca : Nat} {z : Nat → Int} {d : Int64} (hR : Zm X 1 1 = nI R) (hC : Zm X 1 2 = nI C0) (hR2 : R ≤ 10) (hC2 : C0 ≤ 10) (hT : TbZ X ra ca z) (CE : Cl l RX4 cX4_addTo 7 (some .long) [] G 1 60 0 (kL (fun r9 X' => r9 = dgs R C0 ra ca z d ∧ X = X')) kF J JX) :
    J X 0 72 [(3, .long (dgf (bz ca) C0 (dgf (bz ra) R d))), (0, .ref (G.2.1 1)), (1, .long d)] [] → ∀ n r, r + n = C0 → J X 0 40 [(5, .int (nI r)), (3, .long (dgf (bz ca) r (dgf (bz ra) R d))), (0, .ref (G.2.1 1)), (1, .long d)] [] := by
  have C := CE.b
  intro hkk
  intro n
  induction n with
  | zero =>
    intro r h
    have hc : r = C0 := by omega
    subst hc
    refine r_iload C dX4_addTo_40 rfl ?_
    refine r_aload_n C dX4_addTo_42 rfl rfl ?_
    refine gf_RX4_35 C dX4_addTo_43 ?_
    refine r_topi hC ?_
    refine r_icmp_ge (tgt := 72) C dX4_addTo_46 (by decide) (fun c_46 => ?_) (fun c_46 => absurd ((Int32.le_refl _)) c_46)
    exact r_sub C (lv' := [(3, .long (dgf (bz ca) r (dgf (bz ra) R d))), (0, .ref (G.2.1 1)), (1, .long d)]) ⟨rfl, rfl, rfl, trivial⟩ hkk
  | succ n ih =>
    intro r h
    have hlt : r < C0 := by omega
    refine r_iload C dX4_addTo_40 rfl ?_
    refine r_aload_n C dX4_addTo_42 rfl rfl ?_
    refine gf_RX4_35 C dX4_addTo_43 ?_
    refine r_topi hC ?_
    refine r_icmp_ge (tgt := 72) C dX4_addTo_46 (by decide) (fun c_46 => absurd c_46 ((nI_ge (a := r) (b := C0) hlt (by omega)))) (fun c_46 => ?_)
    refine r_lload_n C dX4_addTo_49 rfl rfl ?_
    refine r_ldc2 C dX4_addTo_50 nk_RX4_59 ?_
    refine r_lmul C dX4_addTo_53 ?_
    refine r_aload_n C dX4_addTo_54 rfl rfl ?_
    refine gf_RX4_32 C dX4_addTo_55 ?_
    refine r_topi hT.2.1 ?_
    refine r_iload C dX4_addTo_58 rfl ?_
    refine r_ishr C dX4_addTo_60 ?_
    refine r_iconst (v := 1) C dX4_addTo_61 (by decide) ?_
    refine r_iand C dX4_addTo_62 ?_
    refine r_topi (shr_bit (S := ca) (i := r) (Nat.lt_of_lt_of_le hT.2.2.2.1 (by decide : 1024 ≤ 2 ^ 31)) (by omega)) ?_
    refine r_i2l C dX4_addTo_63 ?_
    refine r_topl (bz_l _ _) ?_
    refine r_ladd C dX4_addTo_64 ?_
    refine r_lstore_n C dX4_addTo_65 rfl (by decide) ?_
    refine r_iinc (v := _) C dX4_addTo_66 rfl (nI_1 r) ?_
    refine r_goto (tgt := 40) C dX4_addTo_69 (by decide) ?_
    refine r_sub C (lv' := [(5, .int (nI (r + 1))), (3, .long (dgf (bz ca) (r + 1) (dgf (bz ra) R d))), (0, .ref (G.2.1 1)), (1, .long d)]) ⟨rfl, rfl, rfl, rfl, trivial⟩ ?_
    exact ih (r + 1) (by omega)

set_option maxHeartbeats 4000000 in
set_option maxRecDepth 100000 in
theorem lp_X4_addTo_c {l : Launch} {G : Geo} {J : JT} {JX : JXT} {X : St} (hfl : l.stackTraces = false) {r : Nat} {R C0 ra ca : Nat} {z : Nat → Int} {d : Int64} (hR : Zm X 1 1 = nI R) (hC : Zm X 1 2 = nI C0) (hR2 : R ≤ 10) (hC2 : C0 ≤ 10) (hT : TbZ X ra ca z) (hr : r < R) (CE : Cl l RX4 cX4_addTo 7 (some .long) [] G 1 60 0 (kL (fun r9 X' => r9 = dgs R C0 ra ca z d ∧ X = X')) kF J JX) :
    J X 0 118 [(5, .int (nI r)), (3, .long (dgf (fun c => z (10 * r + c)) C0 (dgt z C0 r (dgf (bz ca) C0 (dgf (bz ra) R d))))), (0, .ref (G.2.1 1)), (1, .long d)] [] → ∀ n c, c + n = C0 → J X 0 87 [(6, .int (nI c)), (5, .int (nI r)), (3, .long (dgf (fun c => z (10 * r + c)) c (dgt z C0 r (dgf (bz ca) C0 (dgf (bz ra) R d))))), (0, .ref (G.2.1 1)), (1, .long d)] [] := by
  have C := CE.b
  intro hkk
  intro n
  induction n with
  | zero =>
    intro c h
    have hc : c = C0 := by omega
    subst hc
    refine r_iload C dX4_addTo_87 rfl ?_
    refine r_aload_n C dX4_addTo_89 rfl rfl ?_
    refine gf_RX4_35 C dX4_addTo_90 ?_
    refine r_topi hC ?_
    refine r_icmp_ge (tgt := 118) C dX4_addTo_93 (by decide) (fun c_93 => ?_) (fun c_93 => absurd ((Int32.le_refl _)) c_93)
    exact r_sub C (lv' := [(5, .int (nI r)), (3, .long (dgf (fun c => z (10 * r + c)) c (dgt z c r (dgf (bz ca) c (dgf (bz ra) R d))))), (0, .ref (G.2.1 1)), (1, .long d)]) ⟨rfl, rfl, rfl, rfl, trivial⟩ hkk
  | succ n ih =>
    intro c h
    have hlt : c < C0 := by omega
    have hz := hT.2.2.2.2 (10 * r + c) (by omega)
    refine r_iload C dX4_addTo_87 rfl ?_
    refine r_aload_n C dX4_addTo_89 rfl rfl ?_
    refine gf_RX4_35 C dX4_addTo_90 ?_
    refine r_topi hC ?_
    refine r_icmp_ge (tgt := 118) C dX4_addTo_93 (by decide) (fun c_93 => absurd c_93 ((nI_ge (a := c) (b := C0) hlt (by omega)))) (fun c_93 => ?_)
    refine r_lload_n C dX4_addTo_96 rfl rfl ?_
    refine r_ldc2 C dX4_addTo_97 nk_RX4_59 ?_
    refine r_lmul C dX4_addTo_100 ?_
    refine r_aload_n C dX4_addTo_101 rfl rfl ?_
    refine r_iload C dX4_addTo_102 rfl ?_
    refine r_iload C dX4_addTo_104 rfl ?_
    refine cl_RX4_42 C (con_X4_cell l hfl _ (r := r) (c := c) (by omega) (by omega)) dX4_addTo_106 rfl ⟨Nat.le_of_ble_eq_true rfl, Nat.le_of_ble_eq_true rfl⟩ (by omega) (Nat.le_of_ble_eq_true rfl) (fun r_106 X_106 h_106 => ?_)
    obtain ⟨rfl, rfl⟩ := h_106
    refine r_topi hz.1 ?_
    refine r_i2l C dX4_addTo_109 ?_
    refine r_topl (i32_long (by omega)) ?_
    refine r_ladd C dX4_addTo_110 ?_
    refine r_lstore_n C dX4_addTo_111 rfl (by decide) ?_
    refine r_iinc (v := _) C dX4_addTo_112 rfl (nI_1 c) ?_
    refine r_goto (tgt := 87) C dX4_addTo_115 (by decide) ?_
    refine r_sub C (lv' := [(6, .int (nI (c + 1))), (5, .int (nI r)), (3, .long (dgf (fun c => z (10 * r + c)) (c + 1) (dgt z C0 r (dgf (bz ca) C0 (dgf (bz ra) R d))))), (0, .ref (G.2.1 1)), (1, .long d)]) ⟨rfl, rfl, rfl, rfl, rfl, trivial⟩ ?_
    exact ih (c + 1) (by omega)

set_option maxHeartbeats 4000000 in
set_option maxRecDepth 100000 in
theorem lp_X4_addTo_d {l : Launch} {G : Geo} {J : JT} {JX : JXT} {X : St} (hfl : l.stackTraces = false) {R C0 ra ca : Nat} {z : Nat → Int} {d : Int64} (hR : Zm X 1 1 = nI R) (hC : Zm X 1 2 = nI C0) (hR2 : R ≤ 10) (hC2 : C0 ≤ 10) (hT : TbZ X ra ca z) (CE : Cl l RX4 cX4_addTo 7 (some .long) [] G 1 60 0 (kL (fun r9 X' => r9 = dgs R C0 ra ca z d ∧ X = X')) kF J JX) :
    ∀ n r, r + n = R → J X 0 75 [(5, .int (nI r)), (3, .long (dgt z C0 r (dgf (bz ca) C0 (dgf (bz ra) R d)))), (0, .ref (G.2.1 1)), (1, .long d)] [] := by
  have C := CE.b
  intro n
  induction n with
  | zero =>
    intro r h
    have hc : r = R := by omega
    subst hc
    refine r_iload C dX4_addTo_75 rfl ?_
    refine r_aload_n C dX4_addTo_77 rfl rfl ?_
    refine gf_RX4_25 C dX4_addTo_78 ?_
    refine r_topi hR ?_
    refine r_icmp_ge (tgt := 124) C dX4_addTo_81 (by decide) (fun c_81 => ?_) (fun c_81 => absurd ((Int32.le_refl _)) c_81)
    refine r_lload_n C dX4_addTo_124 rfl rfl ?_
    exact r_lret CE rfl dX4_addTo_125 (Nat.le_of_ble_eq_true rfl) ⟨_, rfl, rfl, rfl⟩
  | succ n ih =>
    intro r h
    have hlt : r < R := by omega
    refine r_iload C dX4_addTo_75 rfl ?_
    refine r_aload_n C dX4_addTo_77 rfl rfl ?_
    refine gf_RX4_25 C dX4_addTo_78 ?_
    refine r_topi hR ?_
    refine r_icmp_ge (tgt := 124) C dX4_addTo_81 (by decide) (fun c_81 => absurd c_81 ((nI_ge (a := r) (b := R) hlt (by omega)))) (fun c_81 => ?_)
    refine r_iconst (v := 0) C dX4_addTo_84 (by decide) ?_
    refine r_istore C dX4_addTo_85 (by decide) ?_
    refine r_sub C (lv' := [(6, .int (nI 0)), (5, .int (nI r)), (3, .long (dgf (fun c => z (10 * r + c)) 0 (dgt z C0 r (dgf (bz ca) C0 (dgf (bz ra) R d))))), (0, .ref (G.2.1 1)), (1, .long d)]) ⟨rfl, rfl, rfl, rfl, rfl, trivial⟩ ?_
    refine lp_X4_addTo_c hfl hR hC hR2 hC2 hT hlt CE ?_ C0 0 (by omega)
    refine r_iinc (v := _) C dX4_addTo_118 rfl (nI_1 r) ?_
    refine r_goto (tgt := 75) C dX4_addTo_121 (by decide) ?_
    refine r_sub C (lv' := [(5, .int (nI (r + 1))), (3, .long (dgt z C0 (r + 1) (dgf (bz ca) C0 (dgf (bz ra) R d)))), (0, .ref (G.2.1 1)), (1, .long d)]) ⟨rfl, rfl, rfl, rfl, trivial⟩ ?_
    exact ih (r + 1) (by omega)

set_option maxHeartbeats 4000000 in
set_option maxRecDepth 100000 in
/-- X4_addTo  -/
theorem con_X4_addTo (l : Launch) (hfl : l.stackTraces = false) {R C0 ra ca : Nat} {z : Nat → Int} {d : Int64} (X : St) (hR : Zm X 1 1 = nI R) (hC : Zm X 1 2 = nI C0) (hR2 : R ≤ 10) (hC2 : C0 ≤ 10) (hT : TbZ X ra ca z) : Con l yX4_addTo cX4_addTo 7 (some (FieldType.long)) 1 60 0 (fun G => [.ref (G.2.1 1), .long d]) X (kL (fun r9 X' => r9 = dgs R C0 ra ca z d ∧ X = X')) kF := by
  refine con_of (lv := fun G => [(0, .ref (G.2.1 1)), (1, .long d)]) hfl (by decide +kernel) (fun _ => rfl) (fun _ => Nat.le_of_ble_eq_true rfl) ?_
  intro G J JX CE
  have C := CE.b
  refine r_lload_n C dX4_addTo_0 rfl rfl ?_
  refine r_lstore_n C dX4_addTo_1 rfl (by decide) ?_
  refine r_iconst (v := 0) C dX4_addTo_2 (by decide) ?_
  refine r_istore C dX4_addTo_3 (by decide) ?_
  refine r_sub C (lv' := [(5, .int (nI 0)), (3, .long (dgf (bz ra) 0 d)), (0, .ref (G.2.1 1)), (1, .long d)]) ⟨rfl, rfl, rfl, rfl, trivial⟩ ?_
  refine lp_X4_addTo_a hfl hR hC hR2 hC2 hT CE ?_ R 0 (by omega)
  refine r_iconst (v := 0) C dX4_addTo_37 (by decide) ?_
  refine r_istore C dX4_addTo_38 (by decide) ?_
  refine r_sub C (lv' := [(5, .int (nI 0)), (3, .long (dgf (bz ca) 0 (dgf (bz ra) R d))), (0, .ref (G.2.1 1)), (1, .long d)]) ⟨rfl, rfl, rfl, rfl, trivial⟩ ?_
  refine lp_X4_addTo_b hfl hR hC hR2 hC2 hT CE ?_ C0 0 (by omega)
  refine r_iconst (v := 0) C dX4_addTo_72 (by decide) ?_
  refine r_istore C dX4_addTo_73 (by decide) ?_
  refine r_sub C (lv' := [(5, .int (nI 0)), (3, .long (dgt z C0 0 (dgf (bz ca) C0 (dgf (bz ra) R d)))), (0, .ref (G.2.1 1)), (1, .long d)]) ⟨rfl, rfl, rfl, rfl, trivial⟩ ?_
  exact lp_X4_addTo_d hfl hR hC hR2 hC2 hT CE R 0 (by omega)
set_option maxHeartbeats 4000000 in
set_option maxRecDepth 100000 in
/-- X5_digest  -/
theorem con_X5_digest (l : Launch) (hfl : l.stackTraces = false) {A : DA} (X : St) (hD : DInv X A) : Con l yX5_digest cX5_digest 3 (some (FieldType.long)) 7 220 0 (fun G => [.ref (G.2.1 0)]) X (kL (fun r9 X' => r9 = dgf (fun r => cZ (kcol A.ra A.ca A.z r (kfree A.ra A.ca A.z r))) A.R ((dgs A.R A.C A.ra A.ca A.z ((((41 * 31 + i64 (A.R : Int)) * 31 + i64 (A.C : Int)) * 31 + i64 (A.lv.length : Int))) * 31 + i64 (szf (Ls A.ra A.ca A.z 10 A.ca))) * 31 + i64 (csf (Ls A.ra A.ca A.z 10 A.ca))) ∧ DInv X' A ∧ Fr Dp X X')) kF := by
  refine con_of (lv := fun G => [(0, .ref (G.2.1 0))]) hfl (by decide +kernel) (fun _ => rfl) (fun _ => Nat.le_of_ble_eq_true rfl) ?_
  intro G J JX CE
  have C := CE.b
  have h1 := hD.ok.R
  have h2 := hD.ok.C
  have h3 := hD.ok.n
  refine r_ldc2 C dX5_digest_0 nk_RX5_215 ?_
  refine r_lstore_n C dX5_digest_3 rfl (by decide) ?_
  refine r_lload_n C dX5_digest_4 rfl rfl ?_
  refine r_ldc2 C dX5_digest_5 nk_RX5_217 ?_
  refine r_lmul C dX5_digest_8 ?_
  refine r_aload_n C dX5_digest_9 rfl rfl ?_
  refine gf_RX5_12 C dX5_digest_10 ?_
  refine gf_RX5_37 C dX5_digest_13 ?_
  refine r_topi hD.R ?_
  refine r_i2l C dX5_digest_16 ?_
  refine r_topl (l11 _ (by omega)) ?_
  refine r_ladd C dX5_digest_17 ?_
  refine r_lstore_n C dX5_digest_18 rfl (by decide) ?_
  refine r_lload_n C dX5_digest_19 rfl rfl ?_
  refine r_ldc2 C dX5_digest_20 nk_RX5_217 ?_
  refine r_lmul C dX5_digest_23 ?_
  refine r_aload_n C dX5_digest_24 rfl rfl ?_
  refine gf_RX5_12 C dX5_digest_25 ?_
  refine gf_RX5_56 C dX5_digest_28 ?_
  refine r_topi hD.C ?_
  refine r_i2l C dX5_digest_31 ?_
  refine r_topl (l11 _ (by omega)) ?_
  refine r_ladd C dX5_digest_32 ?_
  refine r_lstore_n C dX5_digest_33 rfl (by decide) ?_
  refine r_lload_n C dX5_digest_34 rfl rfl ?_
  refine r_ldc2 C dX5_digest_35 nk_RX5_217 ?_
  refine r_lmul C dX5_digest_38 ?_
  refine r_aload_n C dX5_digest_39 rfl rfl ?_
  refine gf_RX5_19 C dX5_digest_40 ?_
  refine gf_RX5_203 C dX5_digest_43 ?_
  refine r_topi hD.n ?_
  refine r_i2l C dX5_digest_46 ?_
  refine r_topl (l11 _ (by omega)) ?_
  refine r_ladd C dX5_digest_47 ?_
  refine r_lstore_n C dX5_digest_48 rfl (by decide) ?_
  refine r_aload_n C dX5_digest_49 rfl rfl ?_
  refine gf_RX5_12 C dX5_digest_50 ?_
  refine r_lload_n C dX5_digest_53 rfl rfl ?_
  refine cl_RX5_219 C (con_X4_addTo l hfl _ hD.R hD.C h1 h2 hD.tb) dX5_digest_54 rfl ⟨Nat.le_of_ble_eq_true rfl, Nat.le_of_ble_eq_true rfl⟩ (by omega) (Nat.le_of_ble_eq_true rfl) (fun r_54 X_54 h_54 => ?_)
  obtain ⟨rfl, rfl⟩ := h_54
  refine r_lstore_n C dX5_digest_57 rfl (by decide) ?_
  refine r_aload_n C dX5_digest_58 rfl rfl ?_
  refine cl_solved C (con_X5_solved l hfl _ _ hD) dX5_digest_59 ⟨Nat.le_of_ble_eq_true rfl, Nat.le_of_ble_eq_true rfl⟩ (by omega) (Nat.le_of_ble_eq_true rfl) (fun X_59 h_59 => ?_)
  obtain ⟨hK, hD2, hF⟩ := h_59
  refine r_lload_n C dX5_digest_62 rfl rfl ?_
  refine r_aload_n C dX5_digest_63 rfl rfl ?_
  refine gf_RX5_12 C dX5_digest_64 ?_
  refine gf_RX5_37 C dX5_digest_67 ?_
  refine r_topi hD2.R ?_
  refine cl_RX5_223 C (con_X3_addTo l hfl _ hK h1) dX5_digest_70 rfl ⟨Nat.le_of_ble_eq_true rfl, Nat.le_of_ble_eq_true rfl⟩ (by omega) (Nat.le_of_ble_eq_true rfl) (fun r_70 X_70 h_70 => ?_)
  obtain ⟨rfl, rfl⟩ := h_70
  exact r_lret CE rfl dX5_digest_73 (Nat.le_of_ble_eq_true rfl) ⟨_, rfl, rfl, hD2, hF⟩
