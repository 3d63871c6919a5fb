theorem gU_top {A : DA} (h : AOk A) : gU A A.R 0 = some (Ls A.ra A.ca A.z 10 A.ca, Bw A.ra A.ca A.z 10 A.ca) := by
  have hR := h.R
  show gT _ _ _ _ _ = _
  rw [gT_ext h.R (fun r h1 _ => chU_out h.t.1 h1) A.R 0 (Nat.le_refl _), show 10 - A.R + A.R = 10 by omega, gT_LB 10 0 (Nat.le_refl _), andn_0]
theorem tpS {X : St} {A : DA} (hT : TU X A) (h : AOk A) : Zv X 48 0 = i32 (szf (Ls A.ra A.ca A.z 10 A.ca)) ∧ Zv X 49 0 = i32 (csf (Ls A.ra A.ca A.z 10 A.ca)) ∧ Zv X 50 0 = Bw A.ra A.ca A.z 10 A.ca := by
  have h1 : OHold X (1024 * 0 + 0) (gU A (A.R - 0) 0) := hT 0 0 (Nat.le_refl _) (Nat.zero_le _) (Nat.two_pow_pos _)
  rw [Nat.sub_zero, gU_top h] at h1
  exact h1
theorem chU_col {A : DA} (h : AOk A) {r : Nat} (hr : r < A.R) : gcol (chU A.ra A.ca A.z) (sc A.z) A.R r (gtk (chU A.ra A.ca A.z) (sc A.z) A.R r) = kcol A.ra A.ca A.z r (kfree A.ra A.ca A.z r) := by
  have hR := h.R
  rw [gcol_ext h.R (fun r h1 _ => chU_out h.t.1 h1) hr, gtk_ext h.R (fun r h1 _ => chU_out h.t.1 h1) r (by omega), gcol_kcol (by omega), gtk_kfree r (by omega)]
theorem kcol_le (ra ca : Nat) (z : Nat → Int) (r F : Nat) : kcol ra ca z r F ≤ 10 := ff_le _ 10
theorem two_inj : ∀ c, c < 11 → ∀ d, d < 10 → (nI (2 ^ c) = nI (2 ^ d) ↔ c = d) := by decide +kernel
theorem cI_eq : ∀ c, c < 11 → ∀ d, d < 10 → (cI c = nI d ↔ c = d) := by decide +kernel
theorem kcol_out {A : DA} (h : AOk A) {r F : Nat} (hr : A.R ≤ r) : kcol A.ra A.ca A.z r F = 10 := by
  refine ff_all (fun j hj => ?_)
  unfold opt
  rw [us_out h.t.1 hr, Nat.zero_and, Nat.zero_testBit, Bool.false_and]
theorem rof_out {A : DA} (h : AOk A) {c : Nat} (hc : c < 10) : ∀ n, n ≤ 10 - A.R → rof A.ra A.ca A.z (nI c) n = -1
  | 0, _ => rfl
  | n + 1, hn => by
    have hR := h.R
    rw [rof, kcol_out h (by omega), if_neg (fun q => absurd ((cI_eq 10 (by decide) c hc).mp q) (by omega))]
    exact rof_out h hc n (by omega)
set_option maxHeartbeats 4000000 in
set_option maxRecDepth 100000 in
/-- X6_size  -/
theorem con_X6_size (l : Launch) (hfl : l.stackTraces = false) {A : DA} (X : St) (hM : MInv X A) : Con l yX6_size cX6_size 1 (some (FieldType.int)) 6 190 0 (fun G => [.ref (G.2.1 37)]) X (kI (fun r9 X' => r9 = i32 (szf (Ls A.ra A.ca A.z 10 A.ca)) ∧ Zm X' 37 0 = 0 ∧ MInv X' A ∧ Fr Mp X X')) kF := by
  refine con_of (lv := fun G => [(0, .ref (G.2.1 37))]) hfl (by decide +kernel) (fun _ => rfl) (fun _ => Nat.le_of_ble_eq_true rfl) ?_
  intro G J JX CE
  have C := CE.b
  refine r_aload_n C dX6_size_0 rfl rfl ?_
  refine r_iconst (v := 0) C dX6_size_1 (by decide) ?_
  refine pf_RX6_77 C dX6_size_2 ?_
  refine r_aload_n C dX6_size_5 rfl rfl ?_
  refine cl_RX6_146 C (con_X6_solve l hfl (Ym X 37 0 0) hM) dX6_size_6 rfl ⟨Nat.le_of_ble_eq_true rfl, Nat.le_of_ble_eq_true rfl⟩ (by omega) (Nat.le_of_ble_eq_true rfl) (fun X_6 h_6 => ?_)
  obtain ⟨hk, hT, hM2, hF⟩ := h_6
  obtain ⟨t1, t2, t3⟩ := tpS hT hM.ok
  have z0 : Zm X_6 37 0 = 0 := (hF 37 (by omega)).1 0
  have hF0 : Fr Mp X X_6 := (Fr.t1 0).tr (hF.mono (fun k q => by have q : 48 ≤ k ∧ k ≤ 51 := q; show 37 ≤ k; omega))
  refine r_aload_n C dX6_size_9 rfl rfl ?_
  refine gf_RX6_41 C dX6_size_10 ?_
  refine r_iconst (v := 0) C dX6_size_13 (by decide) ?_
  refine r_iald C (0) (by decide) rfl rfl (by decide) dX6_size_14 ?_
  refine r_topi t1 ?_
  exact r_iret CE rfl rfl dX6_size_15 (Nat.le_of_ble_eq_true rfl) ⟨_, rfl, rfl, z0, hM2, hF0⟩
set_option maxHeartbeats 4000000 in
set_option maxRecDepth 100000 in
/-- X6_total  -/
theorem con_X6_total (l : Launch) (hfl : l.stackTraces = false) {A : DA} (X : St) (hM : MInv X A) : Con l yX6_total cX6_total 1 (some (FieldType.int)) 6 190 0 (fun G => [.ref (G.2.1 37)]) X (kI (fun r9 X' => r9 = i32 (csf (Ls A.ra A.ca A.z 10 A.ca)) ∧ Zm X' 37 0 = 0 ∧ MInv X' A ∧ Fr Mp X X')) kF := by
  refine con_of (lv := fun G => [(0, .ref (G.2.1 37))]) hfl (by decide +kernel) (fun _ => rfl) (fun _ => Nat.le_of_ble_eq_true rfl) ?_
  intro G J JX CE
  have C := CE.b
  refine r_aload_n C dX6_total_0 rfl rfl ?_
  refine r_iconst (v := 0) C dX6_total_1 (by decide) ?_
  refine pf_RX6_77 C dX6_total_2 ?_
  refine r_aload_n C dX6_total_5 rfl rfl ?_
  refine cl_RX6_146 C (con_X6_solve l hfl (Ym X 37 0 0) hM) dX6_total_6 rfl ⟨Nat.le_of_ble_eq_true rfl, Nat.le_of_ble_eq_true rfl⟩ (by omega) (Nat.le_of_ble_eq_true rfl) (fun X_6 h_6 => ?_)
  obtain ⟨hk, hT, hM2, hF⟩ := h_6
  obtain ⟨t1, t2, t3⟩ := tpS hT hM.ok
  have z0 : Zm X_6 37 0 = 0 := (hF 37 (by omega)).1 0
  have hF0 : Fr Mp X X_6 := (Fr.t1 0).tr (hF.mono (fun k q => by have q : 48 ≤ k ∧ k ≤ 51 := q; show 37 ≤ k; omega))
  refine r_aload_n C dX6_total_9 rfl rfl ?_
  refine gf_RX6_44 C dX6_total_10 ?_
  refine r_iconst (v := 0) C dX6_total_13 (by decide) ?_
  refine r_iald C (0) (by decide) rfl rfl (by decide) dX6_total_14 ?_
  refine r_topi t2 ?_
  exact r_iret CE rfl rfl dX6_total_15 (Nat.le_of_ble_eq_true rfl) ⟨_, rfl, rfl, z0, hM2, hF0⟩
set_option maxHeartbeats 4000000 in
set_option maxRecDepth 100000 in
/-- X6_optimalCount  -/
theorem con_X6_optimalCount (l : Launch) (hfl : l.stackTraces = false) {A : DA} (X : St) (hM : MInv X A) : Con l yX6_optimalCount cX6_optimalCount 1 (some (FieldType.int)) 6 190 0 (fun G => [.ref (G.2.1 37)]) X (kI (fun r9 X' => r9 = Bw A.ra A.ca A.z 10 A.ca ∧ Zm X' 37 0 = 0 ∧ MInv X' A ∧ Fr Mp X X')) kF := by
  refine con_of (lv := fun G => [(0, .ref (G.2.1 37))]) hfl (by decide +kernel) (fun _ => rfl) (fun _ => Nat.le_of_ble_eq_true rfl) ?_
  intro G J JX CE
  have C := CE.b
  refine r_aload_n C dX6_optimalCount_0 rfl rfl ?_
  refine r_iconst (v := 0) C dX6_optimalCount_1 (by decide) ?_
  refine pf_RX6_77 C dX6_optimalCount_2 ?_
  refine r_aload_n C dX6_optimalCount_5 rfl rfl ?_
  refine cl_RX6_146 C (con_X6_solve l hfl (Ym X 37 0 0) hM) dX6_optimalCount_6 rfl ⟨Nat.le_of_ble_eq_true rfl, Nat.le_of_ble_eq_true rfl⟩ (by omega) (Nat.le_of_ble_eq_true rfl) (fun X_6 h_6 => ?_)
  obtain ⟨hk, hT, hM2, hF⟩ := h_6
  obtain ⟨t1, t2, t3⟩ := tpS hT hM.ok
  have z0 : Zm X_6 37 0 = 0 := (hF 37 (by omega)).1 0
  have hF0 : Fr Mp X X_6 := (Fr.t1 0).tr (hF.mono (fun k q => by have q : 48 ≤ k ∧ k ≤ 51 := q; show 37 ≤ k; omega))
  refine r_aload_n C dX6_optimalCount_9 rfl rfl ?_
  refine gf_RX6_47 C dX6_optimalCount_10 ?_
  refine r_iconst (v := 0) C dX6_optimalCount_13 (by decide) ?_
  refine r_iald C (0) (by decide) rfl rfl (by decide) dX6_optimalCount_14 ?_
  refine r_topi t3 ?_
  exact r_iret CE rfl rfl dX6_optimalCount_15 (Nat.le_of_ble_eq_true rfl) ⟨_, rfl, rfl, z0, hM2, hF0⟩
set_option maxHeartbeats 4000000 in
set_option maxRecDepth 100000 in
/-- X6_meanCost  -/
theorem con_X6_meanCost (l : Launch) (hfl : l.stackTraces = false) {A : DA} (X : St) (hM : MInv X A) : Con l yX6_meanCost cX6_meanCost 1 (some (FieldType.double)) 6 190 0 (fun G => [.ref (G.2.1 37)]) X (kD (fun r9 X' => r9 = (if szf (Ls A.ra A.ca A.z 10 A.ca) = 0 then FP.dconst0 else FP.ddiv (FP.i2d (i32 (csf (Ls A.ra A.ca A.z 10 A.ca)))) (FP.i2d (i32 (szf (Ls A.ra A.ca A.z 10 A.ca))))) ∧ Zm X' 37 0 = 0 ∧ MInv X' A ∧ Fr Mp X X')) kF := by
  refine con_of (lv := fun G => [(0, .ref (G.2.1 37))]) hfl (by decide +kernel) (fun _ => rfl) (fun _ => Nat.le_of_ble_eq_true rfl) ?_
  intro G J JX CE
  have C := CE.b
  have hLb := Ls_bd (ra := A.ra) (ca := A.ca) hM.ok.t.2.2.1 10 A.ca (by omega)
  have ho := szf_ok (z := (Ls A.ra A.ca A.z 10 A.ca)) (by omega)
  refine r_aload_n C dX6_meanCost_0 rfl rfl ?_
  refine r_iconst (v := 0) C dX6_meanCost_1 (by decide) ?_
  refine pf_RX6_77 C dX6_meanCost_2 ?_
  refine r_aload_n C dX6_meanCost_5 rfl rfl ?_
  refine cl_RX6_146 C (con_X6_solve l hfl (Ym X 37 0 0) hM) dX6_meanCost_6 rfl ⟨Nat.le_of_ble_eq_true rfl, Nat.le_of_ble_eq_true rfl⟩ (by omega) (Nat.le_of_ble_eq_true rfl) (fun X_6 h_6 => ?_)
  obtain ⟨hk, hT, hM2, hF⟩ := h_6
  obtain ⟨t1, t2, t3⟩ := tpS hT hM.ok
  have z0 : Zm X_6 37 0 = 0 := (hF 37 (by omega)).1 0
  have hF0 : Fr Mp X X_6 := (Fr.t1 0).tr (hF.mono (fun k q => by have q : 48 ≤ k ∧ k ≤ 51 := q; show 37 ≤ k; omega))
  refine r_aload_n C dX6_meanCost_9 rfl rfl ?_
  refine gf_RX6_41 C dX6_meanCost_10 ?_
  refine r_iconst (v := 0) C dX6_meanCost_13 (by decide) ?_
  refine r_iald C (0) (by decide) rfl rfl (by decide) dX6_meanCost_14 ?_
  refine r_topi t1 ?_
  refine r_if_ne (tgt := 22) C dX6_meanCost_15 (by decide) (fun c_15 => ?_) (fun c_15 => ?_)
  · -- 22
    have e1 : ¬ szf (Ls A.ra A.ca A.z 10 A.ca) = 0 := fun q => c_15 (by rw [q]; rfl)
    have hn := ddiv_n64 (Pd_i2d (i32 (csf (Ls A.ra A.ca A.z 10 A.ca)))) (Pd_i2d (i32 (szf (Ls A.ra A.ca A.z 10 A.ca)))) (by rw [i32_int ho.1 ho.2]; omega)
    refine r_aload_n C dX6_meanCost_22 rfl rfl ?_
    refine gf_RX6_44 C dX6_meanCost_23 ?_
    refine r_iconst (v := 0) C dX6_meanCost_26 (by decide) ?_
    refine r_iald C (0) (by decide) rfl rfl (by decide) dX6_meanCost_27 ?_
    refine r_topi t2 ?_
    refine r_i2d C dX6_meanCost_28 ?_
    refine r_aload_n C dX6_meanCost_29 rfl rfl ?_
    refine gf_RX6_41 C dX6_meanCost_30 ?_
    refine r_iconst (v := 0) C dX6_meanCost_33 (by decide) ?_
    refine r_iald C (0) (by decide) rfl rfl (by decide) dX6_meanCost_34 ?_
    refine r_topi t1 ?_
    refine r_i2d C dX6_meanCost_35 ?_
    refine r_ddiv C dX6_meanCost_36 hn ?_
    exact r_dret CE rfl dX6_meanCost_37 (Nat.le_of_ble_eq_true rfl) (by first | exact ⟨_, rfl, by rw [if_neg e1], z0, hM2, hF0⟩ | exact ⟨_, rfl, by rw [if_pos e1], z0, hM2, hF0⟩)
  · -- 18
    have e1 : szf (Ls A.ra A.ca A.z 10 A.ca) = 0 := (i32_eq (b := 0) ho (by omega)).mp c_15
    refine r_dconst0 C dX6_meanCost_18 ?_
    refine r_goto (tgt := 37) C dX6_meanCost_19 (by decide) ?_
    exact r_dret CE rfl dX6_meanCost_37 (Nat.le_of_ble_eq_true rfl) (by first | exact ⟨_, rfl, by rw [if_neg e1], z0, hM2, hF0⟩ | exact ⟨_, rfl, by rw [if_pos e1], z0, hM2, hF0⟩)
set_option maxHeartbeats 4000000 in
set_option maxRecDepth 100000 in
/-- X6_columnOf  -/
theorem con_X6_columnOf (l : Launch) (hfl : l.stackTraces = false) {A : DA} {x : Int32} (X : St) (hM : MInv X A) : Con l yX6_columnOf cX6_columnOf 2 (some (FieldType.int)) 7 220 0 (fun G => [.ref (G.2.1 37), .int x]) X (kI (fun r9 X' => (inI x A.R = false → r9 = 0 ∧ Zm X' 37 0 = 1 ∧ MInv X' A) ∧ (∀ r, r < A.R → x = nI r → r9 = cI (kcol A.ra A.ca A.z r (kfree A.ra A.ca A.z r)) ∧ Zm X' 37 0 = 0 ∧ MInv X' A) ∧ Fr Mp X X')) kF := by
  refine con_of (lv := fun G => [(0, .ref (G.2.1 37)), (1, .int x)]) hfl (by decide +kernel) (fun _ => rfl) (fun _ => Nat.le_of_ble_eq_true rfl) ?_
  intro G J JX CE
  have C := CE.b
  have hR10 := hM.ok.R
  have hC10 := hM.ok.C
  refine r_aload_n C dX6_columnOf_0 rfl rfl ?_
  refine r_iconst (v := 0) C dX6_columnOf_1 (by decide) ?_
  refine pf_RX6_77 C dX6_columnOf_2 ?_
  refine r_aload_n C dX6_columnOf_5 rfl rfl ?_
  refine r_iload_n C dX6_columnOf_6 rfl rfl ?_
  refine cl_RX6_87 C (con_X6_isRow l hfl (Ym X 37 0 0) (R := A.R) hM.b.1 hM.ok.R) dX6_columnOf_7 rfl ⟨Nat.le_of_ble_eq_true rfl, Nat.le_of_ble_eq_true rfl⟩ (by omega) (Nat.le_of_ble_eq_true rfl) (fun r_7 X_7 h_7 => ?_)
  obtain ⟨rfl, rfl⟩ := h_7
  refine r_if_ne (tgt := 19) C dX6_columnOf_10 (by decide) (fun c_10 => ?_) (fun c_10 => ?_)
  · -- 19
    have er := bI_1 c_10
    obtain ⟨r, hr, rfl⟩ := inI_t er
    refine r_aload_n C dX6_columnOf_19 rfl rfl ?_
    refine cl_RX6_146 C (con_X6_solve l hfl (Ym X 37 0 0) hM) dX6_columnOf_20 rfl ⟨Nat.le_of_ble_eq_true rfl, Nat.le_of_ble_eq_true rfl⟩ (by omega) (Nat.le_of_ble_eq_true rfl) (fun X_20 h_20 => ?_)
    obtain ⟨hk, hT, hM2, hF⟩ := h_20
    obtain ⟨t1, t2, t3⟩ := tpS hT hM.ok
    have z0 : Zm X_20 37 0 = 0 := (hF 37 (by omega)).1 0
    have hF0 : Fr Mp X X_20 := (Fr.t1 0).tr (hF.mono (fun k q => by have q : 48 ≤ k ∧ k ≤ 51 := q; show 37 ≤ k; omega))
    refine r_aload_n C dX6_columnOf_23 rfl rfl ?_
    refine cl_RX6_149 C (con_X6_choose l hfl _ (p := ((Ls A.ra A.ca A.z 10 A.ca), Bw A.ra A.ca A.z 10 A.ca)) hM2.b.1 hM.ok.R hM.ok.C hk hT (gU_top hM.ok)) dX6_columnOf_24 rfl ⟨Nat.le_of_ble_eq_true rfl, Nat.le_of_ble_eq_true rfl⟩ (by omega) (Nat.le_of_ble_eq_true rfl) (fun X_24 h_24 => ?_)
    obtain ⟨hc, hF2⟩ := h_24
    have hM3 : MInv X_24 A := hM2.fr hF2 (fun k _ _ q => by omega)
    have z3 : Zm X_24 37 0 = 0 := ((hF2 37 (by decide)).1 0).trans z0
    have hF3 : Fr Mp X X_24 := hF0.tr (hF2.mono (fun k q => by show 37 ≤ k; omega))
    refine r_aload_n C dX6_columnOf_27 rfl rfl ?_
    refine gf_RX6_53 C dX6_columnOf_28 ?_
    refine r_iload_n C dX6_columnOf_31 rfl rfl ?_
    refine r_iald C (r) (by decide) rfl rfl (by omega) dX6_columnOf_32 ?_
    refine r_topi (show _ = nI (2 ^ (kcol A.ra A.ca A.z r (kfree A.ra A.ca A.z r))) by rw [← chU_col hM.ok hr]; exact hc r hr) ?_
    refine cl_RX6_134 C (con_X6_columnOfBit l hfl _ (c := (kcol A.ra A.ca A.z r (kfree A.ra A.ca A.z r))) (Nat.lt_succ_of_le (kcol_le _ _ _ _ _))) dX6_columnOf_33 rfl ⟨Nat.le_of_ble_eq_true rfl, Nat.le_of_ble_eq_true rfl⟩ (by omega) (Nat.le_of_ble_eq_true rfl) (fun r_33 X_33 h_33 => ?_)
    obtain ⟨rfl, rfl⟩ := h_33
    exact r_iret CE rfl rfl dX6_columnOf_36 (Nat.le_of_ble_eq_true rfl) ⟨_, rfl, fun q => (by rw [er] at q; cases q), fun q hq e8 => (by rw [← (nI_eq (by omega) (by omega)).mp e8]; exact ⟨rfl, z3, hM3⟩), hF3⟩
  · -- 13
    have e := bI_0 c_10
    refine r_aload_n C dX6_columnOf_13 rfl rfl ?_
    refine r_iconst (v := 1) C dX6_columnOf_14 (by decide) ?_
    refine cl_RX6_98 C (con_X6_fail l hfl _) dX6_columnOf_15 rfl ⟨Nat.le_of_ble_eq_true rfl, Nat.le_of_ble_eq_true rfl⟩ (by omega) (Nat.le_of_ble_eq_true rfl) (fun r_15 X_15 h_15 => ?_)
    obtain ⟨rfl, rfl⟩ := h_15
    exact r_iret CE rfl rfl dX6_columnOf_18 (Nat.le_of_ble_eq_true rfl) ⟨_, rfl, fun _ => ⟨rfl, rfl, hM⟩, fun r hr e8 => (by rw [e8, inI_n (by omega), decide_eq_true hr] at e; cases e), Fr.t2 _ _⟩
set_option maxHeartbeats 4000000 in
set_option maxRecDepth 100000 in
theorem lp_X6_rowOf {l : Launch} {G : Geo} {J : JT} {JX : JXT} {X Y : St} (hfl : l.stackTraces = false) {A : DA} {c : Nat} (hM : MInv X A) (hcc : c < A.C) (hc : ∀ r, r < A.R → Zv Y 52 r = nI (2 ^ gcol (chU A.ra A.ca A.z) (sc A.z) A.R r (gtk (chU A.ra A.ca A.z) (sc A.z) A.R r))) (hM3 : MInv Y A) (z3 : Zm Y 37 0 = 0) (hF3 : Fr Mp X Y) (CE : Cl l RX6 cX6_rowOf 3 (some .int) [] G 7 220 0 (kI (fun r9 X' => (inI (nI c) A.C = false → r9 = 0 ∧ Zm X' 37 0 = 1 ∧ MInv X' A) ∧ (inI (nI c) A.C = true → r9 = rof A.ra A.ca A.z (nI c) 10 ∧ Zm X' 37 0 = 0 ∧ MInv X' A) ∧ Fr Mp X X')) kF J JX) :
    ∀ n r, r + n = A.R → rof A.ra A.ca A.z (nI c) 10 = rof A.ra A.ca A.z (nI c) (10 - r) → J Y 0 29 [(2, .int (nI r)), (0, .ref (G.2.1 37)), (1, .int (nI c))] [] := by
  have C := CE.b
  intro n
  induction n with
  | zero =>
    intro r h hro
    have hC10 := hM.ok.C
    have hR10 := hM.ok.R
    have hr : r = A.R := by omega
    subst hr
    have er : inI (nI c) A.C = true := by rw [inI_n (by omega), decide_eq_true hcc]
    refine r_iload_n C dX6_rowOf_29 rfl rfl ?_
    refine r_aload_n C dX6_rowOf_30 rfl rfl ?_
    refine gf_RX6_81 C dX6_rowOf_31 ?_
    refine r_topi hM3.b.1 ?_
    refine r_icmp_ge (tgt := 57) C dX6_rowOf_34 (by decide) (fun c_34 => ?_) (fun c_34 => absurd ((Int32.le_refl _)) c_34)
    refine r_iconst (v := (-1)) C dX6_rowOf_57 (by decide) ?_
    exact r_iret CE rfl rfl dX6_rowOf_58 (Nat.le_of_ble_eq_true rfl) ⟨_, rfl, fun q => (by rw [er] at q; cases q), fun _ => ⟨by rw [hro, rof_out hM.ok (by omega) _ (Nat.le_refl _)], z3, hM3⟩, hF3⟩
  | succ n ih =>
    intro r h hro
    have hC10 := hM.ok.C
    have hR10 := hM.ok.R
    have hr : r < A.R := by omega
    have er : inI (nI c) A.C = true := by rw [inI_n (by omega), decide_eq_true hcc]
    have hc9 := kcol_le A.ra A.ca A.z r (kfree A.ra A.ca A.z r)
    have hs : rof A.ra A.ca A.z (nI c) (10 - r) = if cI (kcol A.ra A.ca A.z r (kfree A.ra A.ca A.z r)) = nI c then nI r else rof A.ra A.ca A.z (nI c) (10 - (r + 1)) := by
      rw [show 10 - r = (9 - r) + 1 by omega, rof, show 9 - (9 - r) = r by omega, show 10 - (r + 1) = 9 - r by omega]
    refine r_iload_n C dX6_rowOf_29 rfl rfl ?_
    refine r_aload_n C dX6_rowOf_30 rfl rfl ?_
    refine gf_RX6_81 C dX6_rowOf_31 ?_
    refine r_topi hM3.b.1 ?_
    refine r_icmp_ge (tgt := 57) C dX6_rowOf_34 (by decide) (fun c_34 => absurd c_34 ((nI_ge (a := r) (b := A.R) hr (by omega)))) (fun c_34 => ?_)
    refine r_aload_n C dX6_rowOf_37 rfl rfl ?_
    refine gf_RX6_53 C dX6_rowOf_38 ?_
    refine r_iload_n C dX6_rowOf_41 rfl rfl ?_
    refine r_iald C (r) (by decide) rfl rfl (by omega) dX6_rowOf_42 ?_
    refine r_topi (show _ = nI (2 ^ (kcol A.ra A.ca A.z r (kfree A.ra A.ca A.z r))) by rw [← chU_col hM.ok hr]; exact hc r hr) ?_
    refine r_iconst (v := 1) C dX6_rowOf_43 (by decide) ?_
    refine r_iload_n C dX6_rowOf_44 rfl rfl ?_
    refine r_ishl C dX6_rowOf_45 ?_
    refine r_topi (one_shl c (by omega)) ?_
    refine r_icmp_ne (tgt := 51) C dX6_rowOf_46 (by decide) (fun c_46 => ?_) (fun c_46 => ?_)
    · -- 51
      have e9 : ¬ cI (kcol A.ra A.ca A.z r (kfree A.ra A.ca A.z r)) = nI c := fun q => c_46 ((two_inj _ (by omega) c (by omega)).mpr ((cI_eq _ (by omega) c (by omega)).mp q))
      rw [if_neg e9] at hs
      refine r_iinc (v := _) C dX6_rowOf_51 rfl (nI_1 r) ?_
      refine r_goto (tgt := 29) C dX6_rowOf_54 (by decide) ?_
      refine r_sub C (lv' := [(2, .int (nI (r + 1))), (0, .ref (G.2.1 37)), (1, .int (nI c))]) ⟨rfl, rfl, rfl, trivial⟩ ?_
      exact ih (r + 1) (by omega) (hro.trans hs)
    · -- 49
      have e9 : cI (kcol A.ra A.ca A.z r (kfree A.ra A.ca A.z r)) = nI c := (cI_eq _ (by omega) c (by omega)).mpr ((two_inj _ (by omega) c (by omega)).mp c_46)
      rw [if_pos e9] at hs
      refine r_iload_n C dX6_rowOf_49 rfl rfl ?_
      exact r_iret CE rfl rfl dX6_rowOf_50 (Nat.le_of_ble_eq_true rfl) ⟨_, rfl, fun q => (by rw [er] at q; cases q), fun _ => ⟨by rw [hro, hs], z3, hM3⟩, hF3⟩

set_option maxHeartbeats 4000000 in
set_option maxRecDepth 100000 in
/-- X6_rowOf  -/
theorem con_X6_rowOf (l : Launch) (hfl : l.stackTraces = false) {A : DA} {x : Int32} (X : St) (hM : MInv X A) : Con l yX6_rowOf cX6_rowOf 3 (some (FieldType.int)) 7 220 0 (fun G => [.ref (G.2.1 37), .int x]) X (kI (fun r9 X' => (inI x A.C = false → r9 = 0 ∧ Zm X' 37 0 = 1 ∧ MInv X' A) ∧ (inI x A.C = true → r9 = rof A.ra A.ca A.z x 10 ∧ Zm X' 37 0 = 0 ∧ MInv X' A) ∧ Fr Mp X X')) kF := by
  refine con_of (lv := fun G => [(0, .ref (G.2.1 37)), (1, .int x)]) hfl (by decide +kernel) (fun _ => rfl) (fun _ => Nat.le_of_ble_eq_true rfl) ?_
  intro G J JX CE
  have C := CE.b
  have hR10 := hM.ok.R
  have hC10 := hM.ok.C
  refine r_aload_n C dX6_rowOf_0 rfl rfl ?_
  refine r_iconst (v := 0) C dX6_rowOf_1 (by decide) ?_
  refine pf_RX6_77 C dX6_rowOf_2 ?_
  refine r_aload_n C dX6_rowOf_5 rfl rfl ?_
  refine r_iload_n C dX6_rowOf_6 rfl rfl ?_
  refine cl_RX6_91 C (con_X6_isColumn l hfl (Ym X 37 0 0) (R := A.C) hM.b.2.1 hM.ok.C) dX6_rowOf_7 rfl ⟨Nat.le_of_ble_eq_true rfl, Nat.le_of_ble_eq_true rfl⟩ (by omega) (Nat.le_of_ble_eq_true rfl) (fun r_7 X_7 h_7 => ?_)
  obtain ⟨rfl, rfl⟩ := h_7
  refine r_if_ne (tgt := 19) C dX6_rowOf_10 (by decide) (fun c_10 => ?_) (fun c_10 => ?_)
  · -- 19
    have er := bI_1 c_10
    obtain ⟨c, hcc, rfl⟩ := inI_t er
    refine r_aload_n C dX6_rowOf_19 rfl rfl ?_
    refine cl_RX6_146 C (con_X6_solve l hfl (Ym X 37 0 0) hM) dX6_rowOf_20 rfl ⟨Nat.le_of_ble_eq_true rfl, Nat.le_of_ble_eq_true rfl⟩ (by omega) (Nat.le_of_ble_eq_true rfl) (fun X_20 h_20 => ?_)
    obtain ⟨hk, hT, hM2, hF⟩ := h_20
    obtain ⟨t1, t2, t3⟩ := tpS hT hM.ok
    have z0 : Zm X_20 37 0 = 0 := (hF 37 (by omega)).1 0
    have hF0 : Fr Mp X X_20 := (Fr.t1 0).tr (hF.mono (fun k q => by have q : 48 ≤ k ∧ k ≤ 51 := q; show 37 ≤ k; omega))
    refine r_aload_n C dX6_rowOf_23 rfl rfl ?_
    refine cl_RX6_149 C (con_X6_choose l hfl _ (p := ((Ls A.ra A.ca A.z 10 A.ca), Bw A.ra A.ca A.z 10 A.ca)) hM2.b.1 hM.ok.R hM.ok.C hk hT (gU_top hM.ok)) dX6_rowOf_24 rfl ⟨Nat.le_of_ble_eq_true rfl, Nat.le_of_ble_eq_true rfl⟩ (by omega) (Nat.le_of_ble_eq_true rfl) (fun X_24 h_24 => ?_)
    obtain ⟨hc, hF2⟩ := h_24
    have hM3 : MInv X_24 A := hM2.fr hF2 (fun k _ _ q => by omega)
    have z3 : Zm X_24 37 0 = 0 := ((hF2 37 (by decide)).1 0).trans z0
    have hF3 : Fr Mp X X_24 := hF0.tr (hF2.mono (fun k q => by show 37 ≤ k; omega))
    refine r_iconst (v := 0) C dX6_rowOf_27 (by decide) ?_
    refine r_istore_n C dX6_rowOf_28 rfl (by decide) ?_
    refine r_sub C (lv' := [(2, .int (nI 0)), (0, .ref (G.2.1 37)), (1, .int (nI c))]) ⟨rfl, rfl, rfl, trivial⟩ ?_
    exact lp_X6_rowOf hfl hM hcc hc hM3 z3 hF3 CE A.R 0 (Nat.zero_add _) rfl
  · -- 13
    have e := bI_0 c_10
    refine r_aload_n C dX6_rowOf_13 rfl rfl ?_
    refine r_iconst (v := 1) C dX6_rowOf_14 (by decide) ?_
    refine cl_RX6_98 C (con_X6_fail l hfl _) dX6_rowOf_15 rfl ⟨Nat.le_of_ble_eq_true rfl, Nat.le_of_ble_eq_true rfl⟩ (by omega) (Nat.le_of_ble_eq_true rfl) (fun r_15 X_15 h_15 => ?_)
    obtain ⟨rfl, rfl⟩ := h_15
    exact r_iret CE rfl rfl dX6_rowOf_18 (Nat.le_of_ble_eq_true rfl) ⟨_, rfl, fun _ => ⟨rfl, rfl, hM⟩, fun q => (by rw [e] at q; cases q), Fr.t2 _ _⟩
