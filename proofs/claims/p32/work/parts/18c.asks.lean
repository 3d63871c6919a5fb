theorem DInv.zs {X : St} {A : DA} (h : DInv X A) : ∀ k, k < 100 → zok (A.z k) := fun k hk => (h.tb.2.2.2.2 k hk).2
set_option maxHeartbeats 4000000 in
set_option maxRecDepth 100000 in
/-- X5_size  -/
theorem con_X5_size (l : Launch) (hfl : l.stackTraces = false) {A : DA} (X : St) (hD : DInv X A) : Con l yX5_size cX5_size 1 (some (FieldType.int)) 7 210 0 (fun G => [.ref (G.2.1 0)]) X (kI (fun r9 X' => r9 = i32 (szf (Ls A.ra A.ca A.z 10 A.ca)) ∧ DInv X' A ∧ Fr Dp X X')) kF := by
  refine con_of (lv := fun G => [(0, .ref (G.2.1 0))]) hfl (by decide +kernel) (fun _ => rfl) (fun _ => Nat.le_of_ble_eq_true rfl) ?_
  intro G J JX CE
  have C := CE.b
  have hLb := Ls_bd (ra := A.ra) (ca := A.ca) hD.zs 10 A.ca (by omega)
  refine r_aload_n C dX5_size_0 rfl rfl ?_
  refine cl_solved C (con_X5_solved l hfl _ _ hD) dX5_size_1 ⟨Nat.le_of_ble_eq_true rfl, Nat.le_of_ble_eq_true rfl⟩ (by omega) (Nat.le_of_ble_eq_true rfl) (fun X_1 h_1 => ?_)
  obtain ⟨hK, hD2, hF⟩ := h_1
  refine gf_RX5_140 C dX5_size_4 ?_
  refine r_topi hK.2.1 ?_
  refine cl_RX5_143 C (con_X3_sizeOf l hfl _ (z := (Ls A.ra A.ca A.z 10 A.ca)) (by omega)) dX5_size_7 rfl ⟨Nat.le_of_ble_eq_true rfl, Nat.le_of_ble_eq_true rfl⟩ (by omega) (Nat.le_of_ble_eq_true rfl) (fun r_7 X_7 h_7 => ?_)
  obtain ⟨rfl, rfl⟩ := h_7
  exact r_iret CE rfl rfl dX5_size_10 (Nat.le_of_ble_eq_true rfl) ⟨_, rfl, rfl, hD2, hF⟩
set_option maxHeartbeats 4000000 in
set_option maxRecDepth 100000 in
/-- X5_total  -/
theorem con_X5_total (l : Launch) (hfl : l.stackTraces = false) {A : DA} (X : St) (hD : DInv X A) : Con l yX5_total cX5_total 1 (some (FieldType.int)) 7 210 0 (fun G => [.ref (G.2.1 0)]) X (kI (fun r9 X' => r9 = i32 (csf (Ls A.ra A.ca A.z 10 A.ca)) ∧ DInv X' A ∧ Fr Dp X X')) kF := by
  refine con_of (lv := fun G => [(0, .ref (G.2.1 0))]) hfl (by decide +kernel) (fun _ => rfl) (fun _ => Nat.le_of_ble_eq_true rfl) ?_
  intro G J JX CE
  have C := CE.b
  have hLb := Ls_bd (ra := A.ra) (ca := A.ca) hD.zs 10 A.ca (by omega)
  refine r_aload_n C dX5_total_0 rfl rfl ?_
  refine cl_solved C (con_X5_solved l hfl _ _ hD) dX5_total_1 ⟨Nat.le_of_ble_eq_true rfl, Nat.le_of_ble_eq_true rfl⟩ (by omega) (Nat.le_of_ble_eq_true rfl) (fun X_1 h_1 => ?_)
  obtain ⟨hK, hD2, hF⟩ := h_1
  refine gf_RX5_140 C dX5_total_4 ?_
  refine r_topi hK.2.1 ?_
  refine cl_RX5_147 C (con_X3_costOf l hfl _ (z := (Ls A.ra A.ca A.z 10 A.ca)) (by omega)) dX5_total_7 rfl ⟨Nat.le_of_ble_eq_true rfl, Nat.le_of_ble_eq_true rfl⟩ (by omega) (Nat.le_of_ble_eq_true rfl) (fun r_7 X_7 h_7 => ?_)
  obtain ⟨rfl, rfl⟩ := h_7
  exact r_iret CE rfl rfl dX5_total_10 (Nat.le_of_ble_eq_true rfl) ⟨_, rfl, rfl, hD2, hF⟩
set_option maxHeartbeats 4000000 in
set_option maxRecDepth 100000 in
/-- X5_columnOf  -/
theorem con_X5_columnOf (l : Launch) (hfl : l.stackTraces = false) {A : DA} {x : Int32} (X : St) (hD : DInv X A) : Con l yX5_columnOf cX5_columnOf 2 (some (FieldType.int)) 7 210 1 (fun G => [.ref (G.2.1 0), .int x]) X (kI (fun r9 X' => ∃ r, r < A.R ∧ x = nI r ∧ r9 = cI (kcol A.ra A.ca A.z r (kfree A.ra A.ca A.z r)) ∧ DInv X' A ∧ Fr Dp X X')) (fun E X' => E = "java/lang/IndexOutOfBoundsException" ∧ X = X' ∧ inI x A.R = false) := by
  refine con_of (lv := fun G => [(0, .ref (G.2.1 0)), (1, .int x)]) hfl (by decide +kernel) (fun _ => rfl) (fun _ => Nat.le_of_ble_eq_true rfl) ?_
  intro G J JX CE
  have C := CE.b
  refine r_aload_n C dX5_columnOf_0 rfl rfl ?_
  refine r_iload_n C dX5_columnOf_1 rfl rfl ?_
  refine cl_RX5_64 C (con_X5_requireRow l hfl _ hD.R hD.ok.R) dX5_columnOf_2 rfl ⟨Nat.le_of_ble_eq_true rfl, Nat.le_of_ble_eq_true rfl⟩ (by omega) (Nat.le_of_ble_eq_true rfl) (fun E_2 X_2 x_2 => ?_) (fun X_2 h_2 => ?_)
  · -- thrown
    obtain ⟨rfl, rfl, h9⟩ := x_2
    exact r_out CE rfl (Nat.le_of_ble_eq_true rfl) ⟨rfl, rfl, h9⟩
  obtain ⟨rfl, h2⟩ := h_2
  obtain ⟨r, hr, rfl⟩ := inI_t h2
  have hR10 := hD.ok.R
  have hC10 := hD.ok.C
  refine r_aload_n C dX5_columnOf_5 rfl rfl ?_
  refine cl_solved C (con_X5_solved l hfl _ _ hD) dX5_columnOf_6 ⟨Nat.le_of_ble_eq_true rfl, Nat.le_of_ble_eq_true rfl⟩ (by omega) (Nat.le_of_ble_eq_true rfl) (fun X_6 h_6 => ?_)
  obtain ⟨hK, hD2, hF⟩ := h_6
  refine gf_RX5_150 C dX5_columnOf_9 ?_
  refine r_iload_n C dX5_columnOf_12 rfl rfl ?_
  refine r_iald C (r) (gl (by decide)) rfl rfl (by omega) dX5_columnOf_13 ?_
  refine r_topi (hK.2.2 r (by omega)) ?_
  exact r_iret CE rfl rfl dX5_columnOf_14 (Nat.le_of_ble_eq_true rfl) ⟨_, rfl, r, hr, rfl, rfl, hD2, hF⟩
