set_option maxHeartbeats 4000000 in
set_option maxRecDepth 100000 in
/-- X5_hasBit  -/
theorem con_X5_hasBit (l : Launch) (hfl : l.stackTraces = false) {S i : Nat} (X : St) (hS : S < 2 ^ 31) (hi : i < 31) : Con l yX5_hasBit cX5_hasBit 2 (some (FieldType.boolean)) 0 0 0 (fun _ => [.int (nI S), .int (nI i)]) X (kI (fun r9 X' => r9 = bI (S.testBit i) ∧ X = X')) kF := by
  refine con_of (lv := fun _ => [(0, .int (nI S)), (1, .int (nI i))]) hfl (by decide +kernel) (fun _ => rfl) (fun _ => Nat.le_of_ble_eq_true rfl) ?_
  intro G J JX CE
  have C := CE.b
  refine r_iload_n C dX5_hasBit_0 rfl rfl ?_
  refine r_iload_n C dX5_hasBit_1 rfl rfl ?_
  refine r_ishr C dX5_hasBit_2 ?_
  refine r_iconst (v := 1) C dX5_hasBit_3 (by decide) ?_
  refine r_iand C dX5_hasBit_4 ?_
  refine r_topi (shr_bit hS hi) ?_
  refine r_if_eq (tgt := 12) C dX5_hasBit_5 (by decide) (fun c_5 => ?_) (fun c_5 => ?_)
  · -- 12
    refine r_iconst (v := 0) C dX5_hasBit_12 (by decide) ?_
    exact r_iret CE rfl rfl dX5_hasBit_13 (Nat.le_of_ble_eq_true rfl) ⟨_, rfl, by first | (rw [bI_0 c_5]; rfl) | (rw [bI_1 c_5]; rfl), rfl⟩
  · -- 8
    refine r_iconst (v := 1) C dX5_hasBit_8 (by decide) ?_
    refine r_goto (tgt := 13) C dX5_hasBit_9 (by decide) ?_
    exact r_iret CE rfl rfl dX5_hasBit_13 (Nat.le_of_ble_eq_true rfl) ⟨_, rfl, by first | (rw [bI_0 c_5]; rfl) | (rw [bI_1 c_5]; rfl), rfl⟩
set_option maxHeartbeats 4000000 in
set_option maxRecDepth 100000 in
/-- X5_withBit  -/
theorem con_X5_withBit (l : Launch) (hfl : l.stackTraces = false) {S i : Nat} {b : Bool} (X : St) (hi : i < 31) : Con l yX5_withBit cX5_withBit 3 (some (FieldType.int)) 0 0 0 (fun _ => [.int (nI S), .int (nI i), .int (bI b)]) X (kI (fun r9 X' => r9 = nI (if b then sb S i else cb S i) ∧ X = X')) kF := by
  refine con_of (lv := fun _ => [(0, .int (nI S)), (1, .int (nI i)), (2, .int (bI b))]) hfl (by decide +kernel) (fun _ => rfl) (fun _ => Nat.le_of_ble_eq_true rfl) ?_
  intro G J JX CE
  have C := CE.b
  refine r_iload_n C dX5_withBit_0 rfl rfl ?_
  refine r_if_eq (tgt := 12) C dX5_withBit_1 (by decide) (fun c_1 => ?_) (fun c_1 => ?_)
  · -- 12
    refine r_iload_n C dX5_withBit_12 rfl rfl ?_
    refine r_iconst (v := 1) C dX5_withBit_13 (by decide) ?_
    refine r_iload_n C dX5_withBit_14 rfl rfl ?_
    refine r_ishl C dX5_withBit_15 ?_
    refine r_topi (one_shl i hi) ?_
    refine r_iconst (v := (-1)) C dX5_withBit_16 (by decide) ?_
    refine r_ixor C dX5_withBit_17 ?_
    refine r_iand C dX5_withBit_18 ?_
    exact r_iret CE rfl rfl dX5_withBit_19 (Nat.le_of_ble_eq_true rfl) ⟨_, rfl, by first | (rw [bI_1 c_1]; exact zor S (2 ^ i)) | (rw [bI_0 c_1]; exact zandn S (2 ^ i)), rfl⟩
  · -- 4
    refine r_iload_n C dX5_withBit_4 rfl rfl ?_
    refine r_iconst (v := 1) C dX5_withBit_5 (by decide) ?_
    refine r_iload_n C dX5_withBit_6 rfl rfl ?_
    refine r_ishl C dX5_withBit_7 ?_
    refine r_topi (one_shl i hi) ?_
    refine r_ior C dX5_withBit_8 ?_
    refine r_goto (tgt := 19) C dX5_withBit_9 (by decide) ?_
    exact r_iret CE rfl rfl dX5_withBit_19 (Nat.le_of_ble_eq_true rfl) ⟨_, rfl, by first | (rw [bI_1 c_1]; exact zor S (2 ^ i)) | (rw [bI_0 c_1]; exact zandn S (2 ^ i)), rfl⟩
set_option maxHeartbeats 4000000 in
set_option maxRecDepth 100000 in
/-- X5_withBit  -/
theorem con_withBit1 (l : Launch) (hfl : l.stackTraces = false) {S i : Nat} (X : St) (hi : i < 31) : Con l yX5_withBit cX5_withBit 3 (some (FieldType.int)) 0 0 0 (fun _ => [.int (nI S), .int (nI i), .int 1]) X (kI (fun r9 X' => r9 = nI (sb S i) ∧ X = X')) kF := by
  refine con_of (lv := fun _ => [(0, .int (nI S)), (1, .int (nI i)), (2, .int 1)]) hfl (by decide +kernel) (fun _ => rfl) (fun _ => Nat.le_of_ble_eq_true rfl) ?_
  intro G J JX CE
  have C := CE.b
  refine r_iload_n C dX5_withBit_0 rfl rfl ?_
  refine r_if_eq (tgt := 12) C dX5_withBit_1 (by decide) (fun c_1 => absurd c_1 ((by decide))) (fun c_1 => ?_)
  refine r_iload_n C dX5_withBit_4 rfl rfl ?_
  refine r_iconst (v := 1) C dX5_withBit_5 (by decide) ?_
  refine r_iload_n C dX5_withBit_6 rfl rfl ?_
  refine r_ishl C dX5_withBit_7 ?_
  refine r_topi (one_shl i hi) ?_
  refine r_ior C dX5_withBit_8 ?_
  refine r_goto (tgt := 19) C dX5_withBit_9 (by decide) ?_
  exact r_iret CE rfl rfl dX5_withBit_19 (Nat.le_of_ble_eq_true rfl) ⟨_, rfl, zor S (2 ^ i), rfl⟩
set_option maxHeartbeats 4000000 in
set_option maxRecDepth 100000 in
/-- X5_withBit  -/
theorem con_withBit0 (l : Launch) (hfl : l.stackTraces = false) {S i : Nat} (X : St) (hi : i < 31) : Con l yX5_withBit cX5_withBit 3 (some (FieldType.int)) 0 0 0 (fun _ => [.int (nI S), .int (nI i), .int 0]) X (kI (fun r9 X' => r9 = nI (cb S i) ∧ X = X')) kF := by
  refine con_of (lv := fun _ => [(0, .int (nI S)), (1, .int (nI i)), (2, .int 0)]) hfl (by decide +kernel) (fun _ => rfl) (fun _ => Nat.le_of_ble_eq_true rfl) ?_
  intro G J JX CE
  have C := CE.b
  refine r_iload_n C dX5_withBit_0 rfl rfl ?_
  refine r_if_eq (tgt := 12) C dX5_withBit_1 (by decide) (fun c_1 => ?_) (fun c_1 => absurd (rfl) c_1)
  refine r_iload_n C dX5_withBit_12 rfl rfl ?_
  refine r_iconst (v := 1) C dX5_withBit_13 (by decide) ?_
  refine r_iload_n C dX5_withBit_14 rfl rfl ?_
  refine r_ishl C dX5_withBit_15 ?_
  refine r_topi (one_shl i hi) ?_
  refine r_iconst (v := (-1)) C dX5_withBit_16 (by decide) ?_
  refine r_ixor C dX5_withBit_17 ?_
  refine r_iand C dX5_withBit_18 ?_
  exact r_iret CE rfl rfl dX5_withBit_19 (Nat.le_of_ble_eq_true rfl) ⟨_, rfl, zandn S (2 ^ i), rfl⟩
set_option maxHeartbeats 4000000 in
set_option maxRecDepth 100000 in
/-- X4_cell  -/
theorem con_X4_cell (l : Launch) (hfl : l.stackTraces = false) {r c : Nat} (X : St) (hr : r < 10) (hc : c < 10) : Con l yX4_cell cX4_cell 3 (some (FieldType.int)) 0 0 0 (fun G => [.ref (G.2.1 1), .int (nI r), .int (nI c)]) X (kI (fun r9 X' => r9 = Zv X 2 (10 * r + c) ∧ X = X')) kF := by
  refine con_of (lv := fun G => [(0, .ref (G.2.1 1)), (1, .int (nI r)), (2, .int (nI c))]) hfl (by decide +kernel) (fun _ => rfl) (fun _ => Nat.le_of_ble_eq_true rfl) ?_
  intro G J JX CE
  have C := CE.b
  refine r_aload_n C dX4_cell_0 rfl rfl ?_
  refine gf_RX4_9 C dX4_cell_1 ?_
  refine r_iload_n C dX4_cell_4 rfl rfl ?_
  refine r_bipush (v := 10) C dX4_cell_5 (by decide) ?_
  refine r_imul C dX4_cell_7 ?_
  refine r_iload_n C dX4_cell_8 rfl rfl ?_
  refine r_iadd C dX4_cell_9 ?_
  refine r_iald C (10 * r + c) (gl (by decide)) rfl (zix r c) (by omega) dX4_cell_10 ?_
  exact r_iret CE rfl rfl dX4_cell_11 (Nat.le_of_ble_eq_true rfl) ⟨_, rfl, rfl, rfl⟩
def usb (X : St) (ra ca r c : Nat) : Bool := ra.testBit r && (ca.testBit c && decide (¬ Zv X 2 (10 * r + c) = 20000))
theorem usb_0 {X : St} {ra ca r c : Nat} (h : ra.testBit r = false ∨ ca.testBit c = false ∨ Zv X 2 (10 * r + c) = 20000) : usb X ra ca r c = false := by
  unfold usb
  rcases h with h | h | h <;> simp [h]
theorem usb_1 {X : St} {ra ca r c : Nat} (h1 : ra.testBit r = true) (h2 : ca.testBit c = true) (h3 : ¬ Zv X 2 (10 * r + c) = 20000) : usb X ra ca r c = true := by
  unfold usb
  simp [h1, h2, h3]
set_option maxHeartbeats 4000000 in
set_option maxRecDepth 100000 in
/-- X4_isUsable  -/
theorem con_X4_isUsable (l : Launch) (hfl : l.stackTraces = false) {r c ra ca : Nat} (X : St) (hr : r < 10) (hc : c < 10) (hra : Zm X 1 3 = nI ra) (hca : Zm X 1 4 = nI ca) (hra2 : ra < 1024) (hca2 : ca < 1024) : Con l yX4_isUsable cX4_isUsable 3 (some (FieldType.boolean)) 1 30 0 (fun G => [.ref (G.2.1 1), .int (nI r), .int (nI c)]) X (kI (fun r9 X' => r9 = bI (usb X ra ca r c) ∧ X = X')) kF := by
  refine con_of (lv := fun G => [(0, .ref (G.2.1 1)), (1, .int (nI r)), (2, .int (nI c))]) hfl (by decide +kernel) (fun _ => rfl) (fun _ => Nat.le_of_ble_eq_true rfl) ?_
  intro G J JX CE
  have C := CE.b
  refine r_aload_n C dX4_isUsable_0 rfl rfl ?_
  refine gf_RX4_21 C dX4_isUsable_1 ?_
  refine r_topi hra ?_
  refine r_iload_n C dX4_isUsable_4 rfl rfl ?_
  refine cl_RX4_38 C (con_X5_hasBit l hfl _ (by omega) (by omega)) dX4_isUsable_5 rfl ⟨Nat.le_of_ble_eq_true rfl, Nat.le_of_ble_eq_true rfl⟩ (by omega) (Nat.le_of_ble_eq_true rfl) (fun r_5 X_5 h_5 => ?_)
  obtain ⟨rfl, rfl⟩ := h_5
  refine r_if_eq (tgt := 38) C dX4_isUsable_8 (by decide) (fun c_8 => ?_) (fun c_8 => ?_)
  · -- 38
    refine r_iconst (v := 0) C dX4_isUsable_38 (by decide) ?_
    exact r_iret CE rfl rfl dX4_isUsable_39 (Nat.le_of_ble_eq_true rfl) ⟨_, rfl, by first | (rw [usb_0 (Or.inr (Or.inr c_31))]; rfl) | (rw [usb_0 (Or.inl (bI_0 c_8))]; rfl) | (rw [usb_0 (Or.inr (Or.inl (bI_0 c_19)))]; rfl) | (rw [usb_1 (bI_1 c_8) (bI_1 c_19) c_31]; rfl), rfl⟩
  · -- 11
    refine r_aload_n C dX4_isUsable_11 rfl rfl ?_
    refine gf_RX4_32 C dX4_isUsable_12 ?_
    refine r_topi hca ?_
    refine r_iload_n C dX4_isUsable_15 rfl rfl ?_
    refine cl_RX4_38 C (con_X5_hasBit l hfl _ (by omega) (by omega)) dX4_isUsable_16 rfl ⟨Nat.le_of_ble_eq_true rfl, Nat.le_of_ble_eq_true rfl⟩ (by omega) (Nat.le_of_ble_eq_true rfl) (fun r_16 X_16 h_16 => ?_)
    obtain ⟨rfl, rfl⟩ := h_16
    refine r_if_eq (tgt := 38) C dX4_isUsable_19 (by decide) (fun c_19 => ?_) (fun c_19 => ?_)
    · -- 38
      refine r_iconst (v := 0) C dX4_isUsable_38 (by decide) ?_
      exact r_iret CE rfl rfl dX4_isUsable_39 (Nat.le_of_ble_eq_true rfl) ⟨_, rfl, by first | (rw [usb_0 (Or.inr (Or.inr c_31))]; rfl) | (rw [usb_0 (Or.inl (bI_0 c_8))]; rfl) | (rw [usb_0 (Or.inr (Or.inl (bI_0 c_19)))]; rfl) | (rw [usb_1 (bI_1 c_8) (bI_1 c_19) c_31]; rfl), rfl⟩
    · -- 22
      refine r_aload_n C dX4_isUsable_22 rfl rfl ?_
      refine r_iload_n C dX4_isUsable_23 rfl rfl ?_
      refine r_iload_n C dX4_isUsable_24 rfl rfl ?_
      refine cl_RX4_42 C (con_X4_cell l hfl _ hr hc) dX4_isUsable_25 rfl ⟨Nat.le_of_ble_eq_true rfl, Nat.le_of_ble_eq_true rfl⟩ (by omega) (Nat.le_of_ble_eq_true rfl) (fun r_25 X_25 h_25 => ?_)
      obtain ⟨rfl, rfl⟩ := h_25
      refine r_sipush (v := 20000) C dX4_isUsable_28 (by decide) ?_
      refine r_icmp_eq (tgt := 38) C dX4_isUsable_31 (by decide) (fun c_31 => ?_) (fun c_31 => ?_)
      · -- 38
        refine r_iconst (v := 0) C dX4_isUsable_38 (by decide) ?_
        exact r_iret CE rfl rfl dX4_isUsable_39 (Nat.le_of_ble_eq_true rfl) ⟨_, rfl, by first | (rw [usb_0 (Or.inr (Or.inr c_31))]; rfl) | (rw [usb_0 (Or.inl (bI_0 c_8))]; rfl) | (rw [usb_0 (Or.inr (Or.inl (bI_0 c_19)))]; rfl) | (rw [usb_1 (bI_1 c_8) (bI_1 c_19) c_31]; rfl), rfl⟩
      · -- 34
        refine r_iconst (v := 1) C dX4_isUsable_34 (by decide) ?_
        refine r_goto (tgt := 39) C dX4_isUsable_35 (by decide) ?_
        exact r_iret CE rfl rfl dX4_isUsable_39 (Nat.le_of_ble_eq_true rfl) ⟨_, rfl, by first | (rw [usb_0 (Or.inr (Or.inr c_31))]; rfl) | (rw [usb_0 (Or.inl (bI_0 c_8))]; rfl) | (rw [usb_0 (Or.inr (Or.inl (bI_0 c_19)))]; rfl) | (rw [usb_1 (bI_1 c_8) (bI_1 c_19) c_31]; rfl), rfl⟩
set_option maxHeartbeats 4000000 in
set_option maxRecDepth 100000 in
theorem lp_X4_usableColumns {l : Launch} {G : Geo} {J : JT} {JX : JXT} {X : St} (hfl : l.stackTraces = false) {r ra ca : Nat} (hr : r < 10) (hra : Zm X 1 3 = nI ra) (hca : Zm X 1 4 = nI ca) (hra2 : ra < 1024) (hca2 : ca < 1024) (CE : Cl l RX4 cX4_usableColumns 4 (some .int) [] G 2 60 0 (kI (fun r9 X' => r9 = nI (mk (usb X ra ca r) 10) ∧ X = X')) kF J JX) :
    ∀ n c, c + n = 10 → J X 0 4 [(2, .int (nI (mk (usb X ra ca r) c))), (3, .int (nI c)), (0, .ref (G.2.1 1)), (1, .int (nI r))] [] := by
  have C := CE.b
  intro n
  induction n with
  | zero =>
    intro c h
    have hc : c = 10 := by omega
    subst hc
    refine r_iload_n C dX4_usableColumns_4 rfl rfl ?_
    refine r_bipush (v := 10) C dX4_usableColumns_5 (by decide) ?_
    refine r_icmp_ge (tgt := 32) C dX4_usableColumns_7 (by decide) (fun c_7 => ?_) (fun c_7 => absurd ((by decide)) c_7)
    refine r_iload_n C dX4_usableColumns_32 rfl rfl ?_
    exact r_iret CE rfl rfl dX4_usableColumns_33 (Nat.le_of_ble_eq_true rfl) ⟨_, rfl, rfl, rfl⟩
  | succ n ih =>
    intro c h
    have hlt : c < 10 := by omega
    refine r_iload_n C dX4_usableColumns_4 rfl rfl ?_
    refine r_bipush (v := 10) C dX4_usableColumns_5 (by decide) ?_
    refine r_icmp_ge (tgt := 32) C dX4_usableColumns_7 (by decide) (fun c_7 => absurd c_7 ((nI_ge (a := c) (b := 10) (by omega) (by decide)))) (fun c_7 => ?_)
    refine r_aload_n C dX4_usableColumns_10 rfl rfl ?_
    refine r_iload_n C dX4_usableColumns_11 rfl rfl ?_
    refine r_iload_n C dX4_usableColumns_12 rfl rfl ?_
    refine cl_RX4_46 C (con_X4_isUsable l hfl _ hr hlt hra hca hra2 hca2) dX4_usableColumns_13 rfl ⟨Nat.le_of_ble_eq_true rfl, Nat.le_of_ble_eq_true rfl⟩ (by omega) (Nat.le_of_ble_eq_true rfl) (fun r_13 X_13 h_13 => ?_)
    obtain ⟨rfl, rfl⟩ := h_13
    refine r_if_eq (tgt := 26) C dX4_usableColumns_16 (by decide) (fun c_16 => ?_) (fun c_16 => ?_)
    · -- 26
      have e : mk (usb X ra ca r) (c + 1) = mk (usb X ra ca r) c := by rw [mk, if_neg (by rw [bI_0 c_16]; decide)]
      refine r_iinc (v := _) C dX4_usableColumns_26 rfl (nI_1 c) ?_
      refine r_goto (tgt := 4) C dX4_usableColumns_29 (by decide) ?_
      refine r_sub C (lv' := [(2, .int (nI (mk (usb X ra ca r) (c + 1)))), (3, .int (nI (c + 1))), (0, .ref (G.2.1 1)), (1, .int (nI r))]) ⟨by first | rfl | (rw [e]; rfl), rfl, rfl, rfl, trivial⟩ ?_
      exact ih (c + 1) (by omega)
    · -- 19
      have e : mk (usb X ra ca r) (c + 1) = sb (mk (usb X ra ca r) c) c := by rw [mk, if_pos (bI_1 c_16)]
      refine r_iload_n C dX4_usableColumns_19 rfl rfl ?_
      refine r_iload_n C dX4_usableColumns_20 rfl rfl ?_
      refine r_iconst (v := 1) C dX4_usableColumns_21 (by decide) ?_
      refine cl_RX4_28 C (con_withBit1 l hfl _ (by omega)) dX4_usableColumns_22 rfl ⟨Nat.le_of_ble_eq_true rfl, Nat.le_of_ble_eq_true rfl⟩ (by omega) (Nat.le_of_ble_eq_true rfl) (fun r_22 X_22 h_22 => ?_)
      obtain ⟨rfl, rfl⟩ := h_22
      refine r_topi (show _ = nI (mk (usb X ra ca r) (c + 1)) by rw [e]) ?_
      refine r_istore_n C dX4_usableColumns_25 rfl (by decide) ?_
      refine r_iinc (v := _) C dX4_usableColumns_26 rfl (nI_1 c) ?_
      refine r_goto (tgt := 4) C dX4_usableColumns_29 (by decide) ?_
      refine r_sub C (lv' := [(2, .int (nI (mk (usb X ra ca r) (c + 1)))), (3, .int (nI (c + 1))), (0, .ref (G.2.1 1)), (1, .int (nI r))]) ⟨by first | rfl | (rw [e]; rfl), rfl, rfl, rfl, trivial⟩ ?_
      exact ih (c + 1) (by omega)

set_option maxHeartbeats 4000000 in
set_option maxRecDepth 100000 in
/-- X4_usableColumns  -/
theorem con_X4_usableColumns (l : Launch) (hfl : l.stackTraces = false) {r ra ca : Nat} (X : St) (hr : r < 10) (hra : Zm X 1 3 = nI ra) (hca : Zm X 1 4 = nI ca) (hra2 : ra < 1024) (hca2 : ca < 1024) : Con l yX4_usableColumns cX4_usableColumns 4 (some (FieldType.int)) 2 60 0 (fun G => [.ref (G.2.1 1), .int (nI r)]) X (kI (fun r9 X' => r9 = nI (mk (usb X ra ca r) 10) ∧ X = X')) kF := by
  refine con_of (lv := fun G => [(0, .ref (G.2.1 1)), (1, .int (nI r))]) hfl (by decide +kernel) (fun _ => rfl) (fun _ => Nat.le_of_ble_eq_true rfl) ?_
  intro G J JX CE
  have C := CE.b
  refine r_iconst (v := 0) C dX4_usableColumns_0 (by decide) ?_
  refine r_istore_n C dX4_usableColumns_1 rfl (by decide) ?_
  refine r_iconst (v := 0) C dX4_usableColumns_2 (by decide) ?_
  refine r_istore_n C dX4_usableColumns_3 rfl (by decide) ?_
  refine r_sub C (lv' := [(2, .int (nI (mk (usb X ra ca r) 0))), (3, .int (nI 0)), (0, .ref (G.2.1 1)), (1, .int (nI r))]) ⟨rfl, rfl, rfl, rfl, trivial⟩ ?_
  exact lp_X4_usableColumns hfl hr hra hca hra2 hca2 CE 10 0 (by omega)
def inC (z : Int) : Bool := decide (-10000 ≤ z) && decide (z ≤ 10000)
theorem inC_0 {z : Int} (h : z < -10000 ∨ 10000 < z) : inC z = false := by
  unfold inC
  rcases h with h | h
  · rw [decide_eq_false (by omega)]; rfl
  · rw [decide_eq_false (p := z ≤ 10000) (by omega), Bool.and_false]
theorem inC_1 {z : Int} (h1 : -10000 ≤ z) (h2 : z ≤ 10000) : inC z = true := by
  unfold inC
  rw [decide_eq_true h1, decide_eq_true h2]; rfl
theorem inC_i {z : Int} (h : inC z = true) : -10000 ≤ z ∧ z ≤ 10000 := by
  unfold inC at h
  simpa using h
set_option maxHeartbeats 4000000 in
set_option maxRecDepth 100000 in
/-- X5_isCost  -/
theorem con_X5_isCost (l : Launch) (hfl : l.stackTraces = false) {z : Int} (X : St) (hz : ok64 z) : Con l yX5_isCost cX5_isCost 2 (some (FieldType.boolean)) 0 0 0 (fun _ => [.long (i64 z)]) X (kI (fun r9 X' => r9 = bI (inC z) ∧ X = X')) kF := by
  refine con_of (lv := fun _ => [(0, .long (i64 z))]) hfl (by decide +kernel) (fun _ => rfl) (fun _ => Nat.le_of_ble_eq_true rfl) ?_
  intro G J JX CE
  have C := CE.b
  refine r_lload_n C dX5_isCost_0 rfl rfl ?_
  refine r_ldc2 C dX5_isCost_1 nk_RX5_243 ?_
  refine r_topl kLm10000 ?_
  refine r_lcmp C dX5_isCost_4 ?_
  refine r_if_lt (tgt := 20) C dX5_isCost_5 (by decide) (fun c_5 => ?_) (fun c_5 => ?_)
  · -- 20
    refine r_iconst (v := 0) C dX5_isCost_20 (by decide) ?_
    exact r_iret CE rfl rfl dX5_isCost_21 (Nat.le_of_ble_eq_true rfl) ⟨_, rfl, by first | (rw [inC_0 (Or.inl ((lcmp_0 (b := -10000) hz (by omega)).mp c_5))]; rfl) | (rw [inC_0 (Or.inr ((lcmp_1 (b := 10000) hz (by omega)).mp c_13))]; rfl) | (rw [inC_1 (Int.not_lt.mp fun q => c_5 ((lcmp_0 (b := -10000) hz (by omega)).mpr q)) (Int.not_lt.mp fun q => c_13 ((lcmp_1 (b := 10000) hz (by omega)).mpr q))]; rfl), rfl⟩
  · -- 8
    refine r_lload_n C dX5_isCost_8 rfl rfl ?_
    refine r_ldc2 C dX5_isCost_9 nk_RX5_245 ?_
    refine r_topl kL10000 ?_
    refine r_lcmp C dX5_isCost_12 ?_
    refine r_if_gt (tgt := 20) C dX5_isCost_13 (by decide) (fun c_13 => ?_) (fun c_13 => ?_)
    · -- 20
      refine r_iconst (v := 0) C dX5_isCost_20 (by decide) ?_
      exact r_iret CE rfl rfl dX5_isCost_21 (Nat.le_of_ble_eq_true rfl) ⟨_, rfl, by first | (rw [inC_0 (Or.inl ((lcmp_0 (b := -10000) hz (by omega)).mp c_5))]; rfl) | (rw [inC_0 (Or.inr ((lcmp_1 (b := 10000) hz (by omega)).mp c_13))]; rfl) | (rw [inC_1 (Int.not_lt.mp fun q => c_5 ((lcmp_0 (b := -10000) hz (by omega)).mpr q)) (Int.not_lt.mp fun q => c_13 ((lcmp_1 (b := 10000) hz (by omega)).mpr q))]; rfl), rfl⟩
    · -- 16
      refine r_iconst (v := 1) C dX5_isCost_16 (by decide) ?_
      refine r_goto (tgt := 21) C dX5_isCost_17 (by decide) ?_
      exact r_iret CE rfl rfl dX5_isCost_21 (Nat.le_of_ble_eq_true rfl) ⟨_, rfl, by first | (rw [inC_0 (Or.inl ((lcmp_0 (b := -10000) hz (by omega)).mp c_5))]; rfl) | (rw [inC_0 (Or.inr ((lcmp_1 (b := 10000) hz (by omega)).mp c_13))]; rfl) | (rw [inC_1 (Int.not_lt.mp fun q => c_5 ((lcmp_0 (b := -10000) hz (by omega)).mpr q)) (Int.not_lt.mp fun q => c_13 ((lcmp_1 (b := 10000) hz (by omega)).mpr q))]; rfl), rfl⟩
/-- size and cost of a score -/
def szf (z : Int) : Int := (500000 - z).tdiv 1000000
def csf (z : Int) : Int := z + szf z * 1000000
theorem szf_ok {z : Int} (hz : -1000000000 ≤ z ∧ z ≤ 1000000000) : ok32 (szf z) := by
  have h : (szf z).natAbs ≤ (500000 - z).natAbs := by
    unfold szf
    rw [Int.natAbs_tdiv]
    exact Nat.div_le_self _ _
  omega
set_option maxHeartbeats 4000000 in
set_option maxRecDepth 100000 in
/-- X3_sizeOf  -/
theorem con_X3_sizeOf (l : Launch) (hfl : l.stackTraces = false) {z : Int} (X : St) (hz : -1000000000 ≤ z ∧ z ≤ 1000000000) : Con l yX3_sizeOf cX3_sizeOf 1 (some (FieldType.int)) 0 0 0 (fun _ => [.int (i32 z)]) X (kI (fun r9 X' => r9 = i32 (szf z) ∧ X = X')) kF := by
  refine con_of (lv := fun _ => [(0, .int (i32 z))]) hfl (by decide +kernel) (fun _ => rfl) (fun _ => Nat.le_of_ble_eq_true rfl) ?_
  intro G J JX CE
  have C := CE.b
  refine r_ldc C dX3_sizeOf_0 nk_RX3_32 ?_
  refine r_topi k500000 ?_
  refine r_iload_n C dX3_sizeOf_2 rfl rfl ?_
  refine r_isub C dX3_sizeOf_3 ?_
  refine r_ldc C dX3_sizeOf_4 nk_RX3_33 ?_
  refine r_topi k1000000 ?_
  refine r_idiv C dX3_sizeOf_6 (by decide) ?_
  exact r_iret CE rfl rfl dX3_sizeOf_7 (Nat.le_of_ble_eq_true rfl) ⟨_, rfl, by
      rw [i32_sub]
      exact i32_div (by omega) (by omega) (szf_ok hz), rfl⟩
set_option maxHeartbeats 4000000 in
set_option maxRecDepth 100000 in
/-- X3_costOf  -/
theorem con_X3_costOf (l : Launch) (hfl : l.stackTraces = false) {z : Int} (X : St) (hz : -1000000000 ≤ z ∧ z ≤ 1000000000) : Con l yX3_costOf cX3_costOf 1 (some (FieldType.int)) 1 30 0 (fun _ => [.int (i32 z)]) X (kI (fun r9 X' => r9 = i32 (csf z) ∧ X = X')) kF := by
  refine con_of (lv := fun _ => [(0, .int (i32 z))]) hfl (by decide +kernel) (fun _ => rfl) (fun _ => Nat.le_of_ble_eq_true rfl) ?_
  intro G J JX CE
  have C := CE.b
  refine r_iload_n C dX3_costOf_0 rfl rfl ?_
  refine r_iload_n C dX3_costOf_1 rfl rfl ?_
  refine cl_RX3_34 C (con_X3_sizeOf l hfl _ hz) dX3_costOf_2 rfl ⟨Nat.le_of_ble_eq_true rfl, Nat.le_of_ble_eq_true rfl⟩ (by omega) (Nat.le_of_ble_eq_true rfl) (fun r_2 X_2 h_2 => ?_)
  obtain ⟨rfl, rfl⟩ := h_2
  refine r_ldc C dX3_costOf_5 nk_RX3_33 ?_
  refine r_topi k1000000 ?_
  refine r_imul C dX3_costOf_7 ?_
  refine r_iadd C dX3_costOf_8 ?_
  exact r_iret CE rfl rfl dX3_costOf_9 (Nat.le_of_ble_eq_true rfl) ⟨_, rfl, by
      rw [i32_mul, i32_add]
      rfl, rfl⟩
set_option maxHeartbeats 4000000 in
set_option maxRecDepth 100000 in
/-- J6_bitCount_0f7a4  -/
theorem con_J6_bitCount_0f7a4 (l : Launch) (hfl : l.stackTraces = false) {n : Nat} (X : St) (hn : n < 1024) : Con l yJ6_bitCount_0f7a4 cJ6_bitCount_0f7a4 1 (some (FieldType.int)) 0 0 0 (fun _ => [.int (nI n)]) X (kI (fun r9 X' => r9 = nI (pop n) ∧ X = X')) kF := by
  refine con_of (lv := fun _ => [(0, .int (nI n))]) hfl (by decide +kernel) (fun _ => rfl) (fun _ => Nat.le_of_ble_eq_true rfl) ?_
  intro G J JX CE
  have C := CE.b
  refine r_iload_n C dJ6_bitCount_0f7a4_0 rfl rfl ?_
  refine r_iload_n C dJ6_bitCount_0f7a4_1 rfl rfl ?_
  refine r_iconst (v := 1) C dJ6_bitCount_0f7a4_2 (by decide) ?_
  refine r_iushr (v := _) C dJ6_bitCount_0f7a4_3 rfl ?_
  refine r_ldcw C dJ6_bitCount_0f7a4_4 nk_RJ6_265 ?_
  refine r_iand C dJ6_bitCount_0f7a4_7 ?_
  refine r_isub C dJ6_bitCount_0f7a4_8 ?_
  refine r_istore_n C dJ6_bitCount_0f7a4_9 rfl (by decide) ?_
  refine r_iload_n C dJ6_bitCount_0f7a4_10 rfl rfl ?_
  refine r_ldcw C dJ6_bitCount_0f7a4_11 nk_RJ6_266 ?_
  refine r_iand C dJ6_bitCount_0f7a4_14 ?_
  refine r_iload_n C dJ6_bitCount_0f7a4_15 rfl rfl ?_
  refine r_iconst (v := 2) C dJ6_bitCount_0f7a4_16 (by decide) ?_
  refine r_iushr (v := _) C dJ6_bitCount_0f7a4_17 rfl ?_
  refine r_ldcw C dJ6_bitCount_0f7a4_18 nk_RJ6_266 ?_
  refine r_iand C dJ6_bitCount_0f7a4_21 ?_
  refine r_iadd C dJ6_bitCount_0f7a4_22 ?_
  refine r_istore_n C dJ6_bitCount_0f7a4_23 rfl (by decide) ?_
  refine r_iload_n C dJ6_bitCount_0f7a4_24 rfl rfl ?_
  refine r_iload_n C dJ6_bitCount_0f7a4_25 rfl rfl ?_
  refine r_iconst (v := 4) C dJ6_bitCount_0f7a4_26 (by decide) ?_
  refine r_iushr (v := _) C dJ6_bitCount_0f7a4_27 rfl ?_
  refine r_iadd C dJ6_bitCount_0f7a4_28 ?_
  refine r_ldcw C dJ6_bitCount_0f7a4_29 nk_RJ6_267 ?_
  refine r_iand C dJ6_bitCount_0f7a4_32 ?_
  refine r_istore_n C dJ6_bitCount_0f7a4_33 rfl (by decide) ?_
  refine r_iload_n C dJ6_bitCount_0f7a4_34 rfl rfl ?_
  refine r_iload_n C dJ6_bitCount_0f7a4_35 rfl rfl ?_
  refine r_bipush (v := 8) C dJ6_bitCount_0f7a4_36 (by decide) ?_
  refine r_iushr (v := _) C dJ6_bitCount_0f7a4_38 rfl ?_
  refine r_iadd C dJ6_bitCount_0f7a4_39 ?_
  refine r_istore_n C dJ6_bitCount_0f7a4_40 rfl (by decide) ?_
  refine r_iload_n C dJ6_bitCount_0f7a4_41 rfl rfl ?_
  refine r_iload_n C dJ6_bitCount_0f7a4_42 rfl rfl ?_
  refine r_bipush (v := 16) C dJ6_bitCount_0f7a4_43 (by decide) ?_
  refine r_iushr (v := _) C dJ6_bitCount_0f7a4_45 rfl ?_
  refine r_iadd C dJ6_bitCount_0f7a4_46 ?_
  refine r_istore_n C dJ6_bitCount_0f7a4_47 rfl (by decide) ?_
  refine r_iload_n C dJ6_bitCount_0f7a4_48 rfl rfl ?_
  refine r_bipush (v := 63) C dJ6_bitCount_0f7a4_49 (by decide) ?_
  refine r_iand C dJ6_bitCount_0f7a4_51 ?_
  exact r_iret CE rfl rfl dJ6_bitCount_0f7a4_52 (Nat.le_of_ble_eq_true rfl) ⟨_, rfl, swar n hn, rfl⟩
set_option maxHeartbeats 4000000 in
set_option maxRecDepth 100000 in
/-- X3_canBeLeft  -/
theorem con_X3_canBeLeft (l : Launch) (hfl : l.stackTraces = false) {A S r : Nat} (X : St) (hA : Zm X 7 2 = nI A) (hA2 : A < 1024) (hS : S < 1024) (hr : r < 100) : Con l yX3_canBeLeft cX3_canBeLeft 3 (some (FieldType.boolean)) 1 30 0 (fun G => [.ref (G.2.1 7), .int (nI S), .int (nI r)]) X (kI (fun r9 X' => r9 = bI (cbl A S r) ∧ X = X')) kF := by
  refine con_of (lv := fun G => [(0, .ref (G.2.1 7)), (1, .int (nI S)), (2, .int (nI r))]) hfl (by decide +kernel) (fun _ => rfl) (fun _ => Nat.le_of_ble_eq_true rfl) ?_
  intro G J JX CE
  have C := CE.b
  have h1 : andn S A < 2 ^ 10 := andn_lt hS
  have h2 : andn A S < 2 ^ 10 := andn_lt hA2
  have h3 := pop_le (andn A S)
  refine r_iload_n C dX3_canBeLeft_0 rfl rfl ?_
  refine r_aload_n C dX3_canBeLeft_1 rfl rfl ?_
  refine gf_RX3_46 C dX3_canBeLeft_2 ?_
  refine r_topi hA ?_
  refine r_iconst (v := (-1)) C dX3_canBeLeft_5 (by decide) ?_
  refine r_ixor C dX3_canBeLeft_6 ?_
  refine r_iand C dX3_canBeLeft_7 ?_
  refine r_topi (zandn S A) ?_
  refine r_if_ne (tgt := 30) C dX3_canBeLeft_8 (by decide) (fun c_8 => ?_) (fun c_8 => ?_)
  · -- 30
    refine r_iconst (v := 0) C dX3_canBeLeft_30 (by decide) ?_
    exact r_iret CE rfl rfl dX3_canBeLeft_31 (Nat.le_of_ble_eq_true rfl) ⟨_, rfl, by first | (unfold cbl; rw [decide_eq_false (fun q => c_8 ((nI_z (by omega)).mpr q))]; rfl) | (unfold cbl; rw [decide_eq_false (p := pop (andn A S) ≤ r) (fun q => absurd c_23 (Int32.not_lt.mpr ((nI_leI (by omega) (by omega)).mpr q))), Bool.and_false]; rfl) | (unfold cbl; rw [decide_eq_true ((nI_z (by omega)).mp c_8), decide_eq_true (p := pop (andn A S) ≤ r) ((nI_leI (by omega) (by omega)).mp (Int32.not_lt.mp c_23))]; rfl), rfl⟩
  · -- 11
    refine r_aload_n C dX3_canBeLeft_11 rfl rfl ?_
    refine gf_RX3_46 C dX3_canBeLeft_12 ?_
    refine r_topi hA ?_
    refine r_iload_n C dX3_canBeLeft_15 rfl rfl ?_
    refine r_iconst (v := (-1)) C dX3_canBeLeft_16 (by decide) ?_
    refine r_ixor C dX3_canBeLeft_17 ?_
    refine r_iand C dX3_canBeLeft_18 ?_
    refine r_topi (zandn A S) ?_
    refine cl_RX3_76 C (con_J6_bitCount_0f7a4 l hfl _ h2) dX3_canBeLeft_19 rfl ⟨Nat.le_of_ble_eq_true rfl, Nat.le_of_ble_eq_true rfl⟩ (by omega) (Nat.le_of_ble_eq_true rfl) (fun r_19 X_19 h_19 => ?_)
    obtain ⟨rfl, rfl⟩ := h_19
    refine r_iload_n C dX3_canBeLeft_22 rfl rfl ?_
    refine r_icmp_gt (tgt := 30) C dX3_canBeLeft_23 (by decide) (fun c_23 => ?_) (fun c_23 => ?_)
    · -- 30
      refine r_iconst (v := 0) C dX3_canBeLeft_30 (by decide) ?_
      exact r_iret CE rfl rfl dX3_canBeLeft_31 (Nat.le_of_ble_eq_true rfl) ⟨_, rfl, by first | (unfold cbl; rw [decide_eq_false (fun q => c_8 ((nI_z (by omega)).mpr q))]; rfl) | (unfold cbl; rw [decide_eq_false (p := pop (andn A S) ≤ r) (fun q => absurd c_23 (Int32.not_lt.mpr ((nI_leI (by omega) (by omega)).mpr q))), Bool.and_false]; rfl) | (unfold cbl; rw [decide_eq_true ((nI_z (by omega)).mp c_8), decide_eq_true (p := pop (andn A S) ≤ r) ((nI_leI (by omega) (by omega)).mp (Int32.not_lt.mp c_23))]; rfl), rfl⟩
    · -- 26
      refine r_iconst (v := 1) C dX3_canBeLeft_26 (by decide) ?_
      refine r_goto (tgt := 31) C dX3_canBeLeft_27 (by decide) ?_
      exact r_iret CE rfl rfl dX3_canBeLeft_31 (Nat.le_of_ble_eq_true rfl) ⟨_, rfl, by first | (unfold cbl; rw [decide_eq_false (fun q => c_8 ((nI_z (by omega)).mpr q))]; rfl) | (unfold cbl; rw [decide_eq_false (p := pop (andn A S) ≤ r) (fun q => absurd c_23 (Int32.not_lt.mpr ((nI_leI (by omega) (by omega)).mpr q))), Bool.and_false]; rfl) | (unfold cbl; rw [decide_eq_true ((nI_z (by omega)).mp c_8), decide_eq_true (p := pop (andn A S) ≤ r) ((nI_leI (by omega) (by omega)).mp (Int32.not_lt.mp c_23))]; rfl), rfl⟩
