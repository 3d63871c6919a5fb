set_option maxHeartbeats 4000000 in
set_option maxRecDepth 100000 in
/-- X5_hasBit  -/
theorem con_X5_hasBit (l : Launch) (hfl : l.stackTraces = false) {S i : Nat} (X : St) (hS : S < 2 ^ 31) (hi : i < 31) : Con l yX5_hasBit cX5_hasBit 2 (some (FieldType.boolean)) 0 0 0 (fun _ => [.int (nI S), .int (nI i)]) X (kI (fun r9 X' => r9 = bI (S.testBit i) ∧ X' = X)) kF := by
  refine con_of (lv := fun _ => [(0, .int (nI S)), (1, .int (nI i))]) hfl (by decide +kernel) (fun _ => rfl) (fun _ => Nat.le_of_ble_eq_true rfl) ?_
  intro G J JX CE
  have C := CE.b
  refine r_iload_n C dX5_hasBit_0 rfl rfl ?_
  refine r_iload_n C dX5_hasBit_1 rfl rfl ?_
  refine r_ishr C dX5_hasBit_2 ?_
  refine r_iconst (v := 1) C dX5_hasBit_3 (by decide) ?_
  refine r_iand C dX5_hasBit_4 ?_
  refine r_topi (shr_bit hS hi) ?_
  refine r_if_eq (tgt := 12) C dX5_hasBit_5 (by decide) (fun c_5 => ?_) (fun c_5 => ?_)
  · -- 12
    refine r_iconst (v := 0) C dX5_hasBit_12 (by decide) ?_
    exact r_iret CE rfl rfl dX5_hasBit_13 (Nat.le_of_ble_eq_true rfl) ⟨_, rfl, by first | (rw [bI_0 c_5]; rfl) | (rw [bI_1 c_5]; rfl), rfl⟩
  · -- 8
    refine r_iconst (v := 1) C dX5_hasBit_8 (by decide) ?_
    refine r_goto (tgt := 13) C dX5_hasBit_9 (by decide) ?_
    exact r_iret CE rfl rfl dX5_hasBit_13 (Nat.le_of_ble_eq_true rfl) ⟨_, rfl, by first | (rw [bI_0 c_5]; rfl) | (rw [bI_1 c_5]; rfl), rfl⟩
set_option maxHeartbeats 4000000 in
set_option maxRecDepth 100000 in
/-- X5_withBit  -/
theorem con_X5_withBit (l : Launch) (hfl : l.stackTraces = false) {S i : Nat} {b : Bool} (X : St) (hi : i < 31) : Con l yX5_withBit cX5_withBit 3 (some (FieldType.int)) 0 0 0 (fun _ => [.int (nI S), .int (nI i), .int (bI b)]) X (kI (fun r9 X' => r9 = nI (if b then sb S i else cb S i) ∧ X' = X)) kF := by
  refine con_of (lv := fun _ => [(0, .int (nI S)), (1, .int (nI i)), (2, .int (bI b))]) hfl (by decide +kernel) (fun _ => rfl) (fun _ => Nat.le_of_ble_eq_true rfl) ?_
  intro G J JX CE
  have C := CE.b
  refine r_iload_n C dX5_withBit_0 rfl rfl ?_
  refine r_if_eq (tgt := 12) C dX5_withBit_1 (by decide) (fun c_1 => ?_) (fun c_1 => ?_)
  · -- 12
    refine r_iload_n C dX5_withBit_12 rfl rfl ?_
    refine r_iconst (v := 1) C dX5_withBit_13 (by decide) ?_
    refine r_iload_n C dX5_withBit_14 rfl rfl ?_
    refine r_ishl C dX5_withBit_15 ?_
    refine r_topi (one_shl i hi) ?_
    refine r_iconst (v := (-1)) C dX5_withBit_16 (by decide) ?_
    refine r_ixor C dX5_withBit_17 ?_
    refine r_iand C dX5_withBit_18 ?_
    exact r_iret CE rfl rfl dX5_withBit_19 (Nat.le_of_ble_eq_true rfl) ⟨_, rfl, by first | (rw [bI_1 c_1]; exact zor S (2 ^ i)) | (rw [bI_0 c_1]; exact zandn S (2 ^ i)), rfl⟩
  · -- 4
    refine r_iload_n C dX5_withBit_4 rfl rfl ?_
    refine r_iconst (v := 1) C dX5_withBit_5 (by decide) ?_
    refine r_iload_n C dX5_withBit_6 rfl rfl ?_
    refine r_ishl C dX5_withBit_7 ?_
    refine r_topi (one_shl i hi) ?_
    refine r_ior C dX5_withBit_8 ?_
    refine r_goto (tgt := 19) C dX5_withBit_9 (by decide) ?_
    exact r_iret CE rfl rfl dX5_withBit_19 (Nat.le_of_ble_eq_true rfl) ⟨_, rfl, by first | (rw [bI_1 c_1]; exact zor S (2 ^ i)) | (rw [bI_0 c_1]; exact zandn S (2 ^ i)), rfl⟩
set_option maxHeartbeats 4000000 in
set_option maxRecDepth 100000 in
/-- X4_cell  -/
theorem con_X4_cell (l : Launch) (hfl : l.stackTraces = false) {r c : Nat} (X : St) (hr : r < 10) (hc : c < 10) : Con l yX4_cell cX4_cell 3 (some (FieldType.int)) 0 0 0 (fun G => [.ref (G.2.1 1), .int (nI r), .int (nI c)]) X (kI (fun r9 X' => r9 = Zv X 2 (10 * r + c) ∧ X' = X)) kF := by
  refine con_of (lv := fun G => [(0, .ref (G.2.1 1)), (1, .int (nI r)), (2, .int (nI c))]) hfl (by decide +kernel) (fun _ => rfl) (fun _ => Nat.le_of_ble_eq_true rfl) ?_
  intro G J JX CE
  have C := CE.b
  refine r_aload_n C dX4_cell_0 rfl rfl ?_
  refine gf_RX4_9 C dX4_cell_1 ?_
  refine r_iload_n C dX4_cell_4 rfl rfl ?_
  refine r_bipush (v := 10) C dX4_cell_5 (by decide) ?_
  refine r_imul C dX4_cell_7 ?_
  refine r_iload_n C dX4_cell_8 rfl rfl ?_
  refine r_iadd C dX4_cell_9 ?_
  refine r_iald C (10 * r + c) (by decide) rfl (zix r c) (by omega) dX4_cell_10 ?_
  exact r_iret CE rfl rfl dX4_cell_11 (Nat.le_of_ble_eq_true rfl) ⟨_, rfl, rfl, rfl⟩
