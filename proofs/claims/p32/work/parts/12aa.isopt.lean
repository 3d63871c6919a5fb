set_option maxHeartbeats 4000000 in
set_option maxRecDepth 100000 in
/-- X3_isOptimal  -/
theorem con_X3_isOptimal (l : Launch) (hfl : l.stackTraces = false) {r c F ra ca : Nat} {z : Nat → Int} (X : St) (hV : SvR X ra ca z r) (hr : r < 10) (hc : c < 10) (hF : F < 1024) (hb : cbl ca F r = true) : Con l yX3_isOptimal cX3_isOptimal 5 (some (FieldType.boolean)) 1 30 0 (fun G => [.ref (G.2.1 7), .int (nI r), .int (nI c), .int (nI F)]) X (kI (fun r9 X' => r9 = bI (opt ra ca z r c F) ∧ X = X')) kF := by
  refine con_of (lv := fun G => [(0, .ref (G.2.1 7)), (1, .int (nI r)), (2, .int (nI c)), (3, .int (nI F))]) hfl (by decide +kernel) (fun _ => rfl) (fun _ => Nat.le_of_ble_eq_true rfl) ?_
  intro G J JX CE
  have C := CE.b
  obtain ⟨h1, h2, h3, h4, h5, h6⟩ := hV
  have b1 := Ls_bd (ra := ra) (ca := ca) h6 (9 - r) (cb F c) (by omega)
  have b2 := Ls_bd (ra := ra) (ca := ca) h6 (10 - r) F (by omega)
  have b3 := sc_bd h6 hr hc
  refine r_aload_n C dX3_isOptimal_0 rfl rfl ?_
  refine gf_RX3_15 C dX3_isOptimal_1 ?_
  refine r_iload_n C dX3_isOptimal_4 rfl rfl ?_
  refine r_iald C (r) (gl (by decide)) rfl rfl hr dX3_isOptimal_5 ?_
  refine r_topi (h2 r hr) ?_
  refine r_iload_n C dX3_isOptimal_6 rfl rfl ?_
  refine r_iand C dX3_isOptimal_7 ?_
  refine r_topi (zand _ F) ?_
  refine r_iload_n C dX3_isOptimal_8 rfl rfl ?_
  refine cl_RX3_81 C (con_X5_hasBit l hfl _ (Nat.lt_of_le_of_lt Nat.and_le_left (Nat.lt_trans (us_lt ra ca z r) (by decide))) (by omega)) dX3_isOptimal_9 rfl ⟨Nat.le_of_ble_eq_true rfl, Nat.le_of_ble_eq_true rfl⟩ (by omega) (Nat.le_of_ble_eq_true rfl) (fun r_9 X_9 h_9 => ?_)
  obtain ⟨rfl, rfl⟩ := h_9
  refine r_if_ne (tgt := 17) C dX3_isOptimal_12 (by decide) (fun c_12 => ?_) (fun c_12 => ?_)
  · -- 17
    have hbit := bI_1 c_12
    have hbF : F.testBit c = true := by rw [Nat.testBit_and] at hbit; simp at hbit; exact hbit.2
    have hb2 := cbl_cb hc hb hbF
    refine r_aload_n C dX3_isOptimal_17 rfl rfl ?_
    refine gf_RX3_20 C dX3_isOptimal_18 ?_
    refine r_iload_n C dX3_isOptimal_21 rfl rfl ?_
    refine r_iconst (v := 1) C dX3_isOptimal_22 (by decide) ?_
    refine r_iadd C dX3_isOptimal_23 ?_
    refine r_aald C (r + 1) (gl (by decide)) rfl (nI_1 r) (by omega) dX3_isOptimal_24 ?_
    refine r_iload_n C dX3_isOptimal_25 rfl rfl ?_
    refine r_iload_n C dX3_isOptimal_26 rfl rfl ?_
    refine r_iconst (v := 0) C dX3_isOptimal_27 (by decide) ?_
    refine cl_RX3_84 C (con_withBit0 l hfl _ (by omega)) dX3_isOptimal_28 rfl ⟨Nat.le_of_ble_eq_true rfl, Nat.le_of_ble_eq_true rfl⟩ (by omega) (Nat.le_of_ble_eq_true rfl) (fun r_28 X_28 h_28 => ?_)
    obtain ⟨rfl, rfl⟩ := h_28
    refine r_iald C (cb F c) (gl (by omega)) (lay14 (by omega)) rfl (Nat.lt_of_le_of_lt (cb_le F c) hF) dX3_isOptimal_31 ?_
    refine r_topi (h4 (r + 1) _ (by omega) (by omega) (Nat.lt_of_le_of_lt (cb_le F c) hF) hb2) ?_
    refine r_topi (show _ = i32 (Ls ra ca z (9 - r) (cb F c)) by rw [show 10 - (r + 1) = 9 - r by omega]) ?_
    refine r_istore C dX3_isOptimal_32 (by decide) ?_
    refine r_aload_n C dX3_isOptimal_34 rfl rfl ?_
    refine gf_RX3_11 C dX3_isOptimal_35 ?_
    refine r_iload_n C dX3_isOptimal_38 rfl rfl ?_
    refine r_bipush (v := 10) C dX3_isOptimal_39 (by decide) ?_
    refine r_imul C dX3_isOptimal_41 ?_
    refine r_iload_n C dX3_isOptimal_42 rfl rfl ?_
    refine r_iadd C dX3_isOptimal_43 ?_
    refine r_iald C (10 * r + c) (gl (by decide)) rfl (zix r c) (by omega) dX3_isOptimal_44 ?_
    refine r_topi (h3 r c hr hc) ?_
    refine r_iload C dX3_isOptimal_45 rfl ?_
    refine r_iadd C dX3_isOptimal_47 ?_
    refine r_topi (i32_add _ _) ?_
    refine r_aload_n C dX3_isOptimal_48 rfl rfl ?_
    refine gf_RX3_20 C dX3_isOptimal_49 ?_
    refine r_iload_n C dX3_isOptimal_52 rfl rfl ?_
    refine r_aald C (r) (gl (by decide)) rfl rfl (by omega) dX3_isOptimal_53 ?_
    refine r_iload_n C dX3_isOptimal_54 rfl rfl ?_
    refine r_iald C (F) (gl (by omega)) (lay14 (by omega)) rfl hF dX3_isOptimal_55 ?_
    refine r_topi (h4 r F (Nat.le_refl r) (by omega) hF hb) ?_
    refine r_icmp_ne (tgt := 63) C dX3_isOptimal_56 (by decide) (fun c_56 => ?_) (fun c_56 => ?_)
    · -- 63
      have he := fun q => c_56 ((i32_eq (by omega) (by omega)).mpr q)
      refine r_iconst (v := 0) C dX3_isOptimal_63 (by decide) ?_
      exact r_iret CE rfl rfl dX3_isOptimal_64 (Nat.le_of_ble_eq_true rfl) ⟨_, rfl, by unfold opt; rw [hbit]; first | (rw [decide_eq_true he]; rfl) | (rw [decide_eq_false he]; rfl), rfl⟩
    · -- 59
      have he := (i32_eq (by omega) (by omega)).mp c_56
      refine r_iconst (v := 1) C dX3_isOptimal_59 (by decide) ?_
      refine r_goto (tgt := 64) C dX3_isOptimal_60 (by decide) ?_
      exact r_iret CE rfl rfl dX3_isOptimal_64 (Nat.le_of_ble_eq_true rfl) ⟨_, rfl, by unfold opt; rw [hbit]; first | (rw [decide_eq_true he]; rfl) | (rw [decide_eq_false he]; rfl), rfl⟩
  · -- 15
    have hbit := bI_0 c_12
    refine r_iconst (v := 0) C dX3_isOptimal_15 (by decide) ?_
    exact r_iret CE rfl rfl dX3_isOptimal_16 (Nat.le_of_ble_eq_true rfl) ⟨_, rfl, by unfold opt; rw [hbit]; rfl, rfl⟩
