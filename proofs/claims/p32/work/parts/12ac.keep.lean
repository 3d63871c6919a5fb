theorem SvR.up {X : St} {ra ca : Nat} {z : Nat → Int} {r r' : Nat} (h : SvR X ra ca z r) (hr : r ≤ r') : SvR X ra ca z r' := ⟨h.1, h.2.1, h.2.2.1, fun q S h1 h2 h3 h4 => h.2.2.2.1 q S (by omega) h2 h3 h4, h.2.2.2.2.1, h.2.2.2.2.2⟩
theorem SvR.put {X : St} {ra ca : Nat} {z : Nat → Int} {r : Nat} (h : SvR X ra ca z r) {k : Nat} (f : Nat → Int32) (h1 : k ≠ 9) (h2 : k ≠ 8) (h3 : k < 14 ∨ 24 < k) : SvR (Yv X k f) ra ca z r :=
  ⟨h.1, fun r hr => by rw [Zv_Yv, if_neg (Ne.symm h1)]; exact h.2.1 r hr, fun r c hr hc => by rw [Zv_Yv, if_neg (Ne.symm h2)]; exact h.2.2.1 r c hr hc, fun q S g1 g2 g3 g4 => by rw [Zv_Yv, if_neg (by omega)]; exact h.2.2.2.1 q S g1 g2 g3 g4, h.2.2.2.2⟩
theorem SvR.puti {X : St} {ra ca : Nat} {z : Nat → Int} {r : Nat} (h : SvR X ra ca z r) {k j : Nat} (x : Int32) (h1 : ¬ (7 = k ∧ 2 = j)) : SvR (Ym X k j x) ra ca z r :=
  ⟨by rw [Zm_Ym, if_neg h1]; exact h.1, h.2⟩
set_option maxHeartbeats 4000000 in
set_option maxRecDepth 100000 in
theorem lp_X3_keepFirst {l : Launch} {G : Geo} {J : JT} {JX : JXT} {X : St} (hfl : l.stackTraces = false) {ra ca : Nat} {z : Nat → Int} (hV : SvR X ra ca z 0) (CE : Cl l RX3 cX3_keepFirst 4 none [] G 3 90 0 (kV (fun X' => ∃ f, Yv X 12 f = X' ∧ ∀ r, r < 10 → f r = cI (kcol ra ca z r (kfree ra ca z r)))) kF J JX) :
    ∀ n r (f : Nat → Int32), r + n = 10 → (∀ i, i < r → f i = cI (kcol ra ca z i (kfree ra ca z i))) → J (Yv X 12 f) 0 7 [(1, .int (nI (kfree ra ca z r))), (2, .int (nI r)), (0, .ref (G.2.1 7))] [] := by
  have C := CE.b
  intro n
  induction n with
  | zero =>
    intro r f h hf
    have hc : r = 10 := by omega
    subst hc
    refine r_iload_n C dX3_keepFirst_7 rfl rfl ?_
    refine r_bipush (v := 10) C dX3_keepFirst_8 (by decide) ?_
    refine r_icmp_ge (tgt := 45) C dX3_keepFirst_10 (by decide) (fun c_10 => ?_) (fun c_10 => absurd ((by decide)) c_10)
    exact r_vret CE rfl dX3_keepFirst_45 (Nat.le_of_ble_eq_true rfl) ⟨rfl, f, rfl, hf⟩
  | succ n ih =>
    intro r f h hf
    have hr : r < 10 := by omega
    have hcb := kfree_cbl (ra := ra) (ca := ca) (z := z) r (by omega)
    have hlt : kfree ra ca z r < 1024 := Nat.lt_of_le_of_lt (cbl_le hcb) hV.2.2.2.2.1
    have hle := ff_le (fun c => opt ra ca z r c (kfree ra ca z r)) 10
    refine r_iload_n C dX3_keepFirst_7 rfl rfl ?_
    refine r_bipush (v := 10) C dX3_keepFirst_8 (by decide) ?_
    refine r_icmp_ge (tgt := 45) C dX3_keepFirst_10 (by decide) (fun c_10 => absurd c_10 ((nI_ge (a := r) (b := 10) (by omega) (by decide)))) (fun c_10 => ?_)
    refine r_aload_n C dX3_keepFirst_13 rfl rfl ?_
    refine r_iload_n C dX3_keepFirst_14 rfl rfl ?_
    refine r_iload_n C dX3_keepFirst_15 rfl rfl ?_
    refine cl_RX3_93 C (con_X3_firstOptimal l hfl _ ((hV.put f (by decide) (by decide) (by decide)).up (Nat.zero_le r)) hr hlt hcb) dX3_keepFirst_16 rfl ⟨Nat.le_of_ble_eq_true rfl, Nat.le_of_ble_eq_true rfl⟩ (by omega) (Nat.le_of_ble_eq_true rfl) (fun r_16 X_16 h_16 => ?_)
    obtain ⟨rfl, rfl⟩ := h_16
    refine r_istore_n C dX3_keepFirst_19 rfl (by decide) ?_
    refine r_aload_n C dX3_keepFirst_20 rfl rfl ?_
    refine gf_RX3_29 C dX3_keepFirst_21 ?_
    refine r_iload_n C dX3_keepFirst_24 rfl rfl ?_
    refine r_iload_n C dX3_keepFirst_25 rfl rfl ?_
    refine r_iast C (r) (gl (by decide)) rfl rfl hr dX3_keepFirst_26 ?_
    refine r_st (Yv_Yv X 12 f _) ?_
    refine r_iload_n C dX3_keepFirst_27 rfl rfl ?_
    refine r_iconst (v := (-1)) C dX3_keepFirst_28 (by decide) ?_
    refine r_icmp_eq (tgt := 39) C dX3_keepFirst_29 (by decide) (fun c_29 => ?_) (fun c_29 => ?_)
    · -- 39
      have e : kfree ra ca z (r + 1) = kfree ra ca z r := by
        rw [kfree, if_neg]
        intro q
        unfold cI at c_29
        rw [if_pos q] at c_29
        exact absurd c_29 (by intro q9; have h9 := congrArg Int32.toInt q9; rw [nI_toInt (by omega)] at h9; have e9 : (-1 : Int32).toInt = -1 := by decide
                              rw [e9] at h9; omega)
      refine r_iinc (v := _) C dX3_keepFirst_39 rfl (nI_1 r) ?_
      refine r_goto (tgt := 7) C dX3_keepFirst_42 (by decide) ?_
      refine r_sub C (lv' := [(1, .int (nI (kfree ra ca z (r + 1)))), (2, .int (nI (r + 1))), (0, .ref (G.2.1 7))]) ⟨by rw [e]; rfl, rfl, rfl, trivial⟩ ?_
      exact ih (r + 1) _ (by omega) (fun i hi => by unfold upd; rw [Zv_Yv, if_pos rfl]; by_cases e2 : i = r; rw [if_pos e2, e2]; rw [if_neg e2]; exact hf i (by omega))
    · -- 32
      have hq : kcol ra ca z r (kfree ra ca z r) < 10 := by
        rcases Nat.lt_or_ge (kcol ra ca z r (kfree ra ca z r)) 10 with q | q
        · exact q
        · exact absurd (by unfold cI; rw [if_neg (by omega)]) c_29
      have e : kfree ra ca z (r + 1) = cb (kfree ra ca z r) (kcol ra ca z r (kfree ra ca z r)) := by rw [kfree, if_pos hq]
      refine r_iload_n C dX3_keepFirst_32 rfl rfl ?_
      refine r_iload_n C dX3_keepFirst_33 rfl rfl ?_
      refine r_topi (show cI (kcol ra ca z r (kfree ra ca z r)) = nI (kcol ra ca z r (kfree ra ca z r)) by unfold cI; rw [if_pos hq]) ?_
      refine r_iconst (v := 0) C dX3_keepFirst_34 (by decide) ?_
      refine cl_RX3_84 C (con_withBit0 l hfl _ (by omega)) dX3_keepFirst_35 rfl ⟨Nat.le_of_ble_eq_true rfl, Nat.le_of_ble_eq_true rfl⟩ (by omega) (Nat.le_of_ble_eq_true rfl) (fun r_35 X_35 h_35 => ?_)
      obtain ⟨rfl, rfl⟩ := h_35
      refine r_istore_n C dX3_keepFirst_38 rfl (by decide) ?_
      refine r_iinc (v := _) C dX3_keepFirst_39 rfl (nI_1 r) ?_
      refine r_goto (tgt := 7) C dX3_keepFirst_42 (by decide) ?_
      refine r_sub C (lv' := [(1, .int (nI (kfree ra ca z (r + 1)))), (2, .int (nI (r + 1))), (0, .ref (G.2.1 7))]) ⟨by rw [e]; rfl, rfl, rfl, trivial⟩ ?_
      exact ih (r + 1) _ (by omega) (fun i hi => by unfold upd; rw [Zv_Yv, if_pos rfl]; by_cases e2 : i = r; rw [if_pos e2, e2]; rw [if_neg e2]; exact hf i (by omega))

set_option maxHeartbeats 4000000 in
set_option maxRecDepth 100000 in
/-- X3_keepFirst  -/
theorem con_X3_keepFirst (l : Launch) (hfl : l.stackTraces = false) {ra ca : Nat} {z : Nat → Int} (X : St) (hV : SvR X ra ca z 0) : Con l yX3_keepFirst cX3_keepFirst 4 none 3 90 0 (fun G => [.ref (G.2.1 7)]) X (kV (fun X' => ∃ f, Yv X 12 f = X' ∧ ∀ r, r < 10 → f r = cI (kcol ra ca z r (kfree ra ca z r)))) kF := by
  refine con_of (lv := fun G => [(0, .ref (G.2.1 7))]) hfl (by decide +kernel) (fun _ => rfl) (fun _ => Nat.le_of_ble_eq_true rfl) ?_
  intro G J JX CE
  have C := CE.b
  refine r_aload_n C dX3_keepFirst_0 rfl rfl ?_
  refine gf_RX3_46 C dX3_keepFirst_1 ?_
  refine r_topi hV.1 ?_
  refine r_istore_n C dX3_keepFirst_4 rfl (by decide) ?_
  refine r_iconst (v := 0) C dX3_keepFirst_5 (by decide) ?_
  refine r_istore_n C dX3_keepFirst_6 rfl (by decide) ?_
  refine r_sub C (lv' := [(1, .int (nI (kfree ra ca z 0))), (2, .int (nI 0)), (0, .ref (G.2.1 7))]) ⟨rfl, rfl, rfl, trivial⟩ ?_
  refine r_st (Yv_id X 12).symm ?_
  exact lp_X3_keepFirst hfl hV CE 10 0 _ (by omega) (fun i hi => absurd hi (Nat.not_lt_zero i))
