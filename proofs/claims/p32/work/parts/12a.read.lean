theorem usb_us {X : St} {ra ca : Nat} {z : Nat → Int} (hz : ∀ k, k < 100 → Zv X 2 k = i32 (z k) ∧ zok (z k)) {r : Nat} (hr : r < 10) : mk (usb X ra ca r) 10 = us ra ca z r := by
  refine mk_cong 10 fun c hc => ?_
  unfold usb
  have h := hz (10 * r + c) (by omega)
  rw [h.1, decide_eq_decide.mpr (not_congr (i20000 h.2))]
theorem usb_z {X : St} {ra ca : Nat} {z : Nat → Int} (hz : ∀ k, k < 100 → Zv X 2 k = i32 (z k) ∧ zok (z k)) {r c : Nat} (hr : r < 10) (hc : c < 10) : usb X ra ca r c = (us ra ca z r).testBit c := by
  rw [us_bit hc]
  unfold usb
  have h := hz (10 * r + c) (by omega)
  rw [h.1, decide_eq_decide.mpr (not_congr (i20000 h.2))]
def gok (z : Nat → Int) (r c : Nat) (g : Nat → Int32) : Prop := ∀ i j, i < 10 → j < 10 → (i < r ∨ (i = r ∧ j < c)) → g (10 * i + j) = i32 (sc z i j)
theorem gok_put {z : Nat → Int} {r c : Nat} {g : Nat → Int32} (hr : r < 10) (hc : c < 10) (h : gok z r c g) : gok z r (c + 1) (upd g (10 * r + c) (i32 (sc z r c))) := by
  intro i j hi hj hh
  unfold upd
  by_cases e : 10 * i + j = 10 * r + c
  · have e1 : i = r := by omega
    have e2 : j = c := by omega
    rw [if_pos e, e1, e2]
  · rw [if_neg e]
    exact h i j hi hj (by omega)
set_option maxHeartbeats 4000000 in
set_option maxRecDepth 100000 in
theorem lp_X3_read_in {l : Launch} {G : Geo} {J : JT} {JX : JXT} {X : St} (hfl : l.stackTraces = false) {ra ca : Nat} {z : Nat → Int} (hT : TbZ X ra ca z) {r : Nat} (hr : r < 10) (f : Nat → Int32) (hk : ∀ g, gok z r 10 g → J (Yv (Yv (Ym X 7 2 (nI ca)) 9 f) 8 g) 0 61 [(2, .int (nI r)), (0, .ref (G.2.1 7)), (1, .ref (G.2.1 1))] []) (CE : Cl l RX3 cX3_read 4 none [] G 4 120 0 (kV (fun X' => ∃ f g, Yv (Yv (Ym X 7 2 (nI ca)) 9 f) 8 g = X' ∧ (∀ r, r < 10 → f r = nI (us ra ca z r)) ∧ gok z 10 0 g)) kF J JX) :
    ∀ n c (g : Nat → Int32), c + n = 10 → gok z r c g → J (Yv (Yv (Ym X 7 2 (nI ca)) 9 f) 8 g) 0 29 [(3, .int (nI c)), (2, .int (nI r)), (0, .ref (G.2.1 7)), (1, .ref (G.2.1 1))] [] := by
  have C := CE.b
  intro n
  induction n with
  | zero =>
    intro c g h hg
    have hc : c = 10 := by omega
    subst hc
    refine r_iload_n C dX3_read_29 rfl rfl ?_
    refine r_bipush (v := 10) C dX3_read_30 (by decide) ?_
    refine r_icmp_ge (tgt := 61) C dX3_read_32 (by decide) (fun c_32 => ?_) (fun c_32 => absurd ((by decide)) c_32)
    refine r_sub C (lv' := [(2, .int (nI r)), (0, .ref (G.2.1 7)), (1, .ref (G.2.1 1))]) ⟨rfl, rfl, rfl, trivial⟩ ?_
    exact hk g hg
  | succ n ih =>
    intro c g h hg
    have hlt : c < 10 := by omega
    refine r_iload_n C dX3_read_29 rfl rfl ?_
    refine r_bipush (v := 10) C dX3_read_30 (by decide) ?_
    refine r_icmp_ge (tgt := 61) C dX3_read_32 (by decide) (fun c_32 => absurd c_32 ((nI_ge (a := c) (b := 10) (by omega) (by decide)))) (fun c_32 => ?_)
    refine r_aload_n C dX3_read_35 rfl rfl ?_
    refine gf_RX3_11 C dX3_read_36 ?_
    refine r_iload_n C dX3_read_39 rfl rfl ?_
    refine r_bipush (v := 10) C dX3_read_40 (by decide) ?_
    refine r_imul C dX3_read_42 ?_
    refine r_iload_n C dX3_read_43 rfl rfl ?_
    refine r_iadd C dX3_read_44 ?_
    refine r_aload_n C dX3_read_45 rfl rfl ?_
    refine r_iload_n C dX3_read_46 rfl rfl ?_
    refine r_iload_n C dX3_read_47 rfl rfl ?_
    refine cl_RX3_64 C (con_X4_cell l hfl _ hr hlt) dX3_read_48 rfl ⟨Nat.le_of_ble_eq_true rfl, Nat.le_of_ble_eq_true rfl⟩ (by omega) (Nat.le_of_ble_eq_true rfl) (fun r_48 X_48 h_48 => ?_)
    obtain ⟨rfl, rfl⟩ := h_48
    refine r_topi (show _ = i32 (z (10 * r + c)) from (hT.2.2.2.2 (10 * r + c) (by omega)).1) ?_
    refine r_ldc C dX3_read_51 nk_RX3_33 ?_
    refine r_topi k1000000 ?_
    refine r_isub C dX3_read_53 ?_
    refine r_topi (i32_sub _ _) ?_
    refine r_iast C (10 * r + c) (gl (by decide)) rfl (zix r c) (by omega) dX3_read_54 ?_
    refine r_st (show _ = (Yv (Yv (Ym X 7 2 (nI ca)) 9 f) 8 (upd g (10 * r + c) (i32 (sc z r c)))) by rw [Yv_Yv]; rfl) ?_
    refine r_iinc (v := _) C dX3_read_55 rfl (nI_1 c) ?_
    refine r_goto (tgt := 29) C dX3_read_58 (by decide) ?_
    refine r_sub C (lv' := [(3, .int (nI (c + 1))), (2, .int (nI r)), (0, .ref (G.2.1 7)), (1, .ref (G.2.1 1))]) ⟨rfl, rfl, rfl, rfl, trivial⟩ ?_
    exact ih (c + 1) _ (by omega) (gok_put hr hlt hg)

set_option maxHeartbeats 4000000 in
set_option maxRecDepth 100000 in
theorem lp_X3_read {l : Launch} {G : Geo} {J : JT} {JX : JXT} {X : St} (hfl : l.stackTraces = false) {ra ca : Nat} {z : Nat → Int} (hT : TbZ X ra ca z) (CE : Cl l RX3 cX3_read 4 none [] G 4 120 0 (kV (fun X' => ∃ f g, Yv (Yv (Ym X 7 2 (nI ca)) 9 f) 8 g = X' ∧ (∀ r, r < 10 → f r = nI (us ra ca z r)) ∧ gok z 10 0 g)) kF J JX) :
    ∀ n r (f g : Nat → Int32), r + n = 10 → (∀ i, i < r → f i = nI (us ra ca z i)) → gok z r 0 g → J (Yv (Yv (Ym X 7 2 (nI ca)) 9 f) 8 g) 0 10 [(2, .int (nI r)), (0, .ref (G.2.1 7)), (1, .ref (G.2.1 1))] [] := by
  have C := CE.b
  intro n
  induction n with
  | zero =>
    intro r f g h hf hg
    have hc : r = 10 := by omega
    subst hc
    refine r_iload_n C dX3_read_10 rfl rfl ?_
    refine r_bipush (v := 10) C dX3_read_11 (by decide) ?_
    refine r_icmp_ge (tgt := 67) C dX3_read_13 (by decide) (fun c_13 => ?_) (fun c_13 => absurd ((by decide)) c_13)
    exact r_vret CE rfl dX3_read_67 (Nat.le_of_ble_eq_true rfl) ⟨rfl, f, g, rfl, hf, hg⟩
  | succ n ih =>
    intro r f g h hf hg
    have hr : r < 10 := by omega
    refine r_iload_n C dX3_read_10 rfl rfl ?_
    refine r_bipush (v := 10) C dX3_read_11 (by decide) ?_
    refine r_icmp_ge (tgt := 67) C dX3_read_13 (by decide) (fun c_13 => absurd c_13 ((nI_ge (a := r) (b := 10) (by omega) (by decide)))) (fun c_13 => ?_)
    refine r_aload_n C dX3_read_16 rfl rfl ?_
    refine gf_RX3_15 C dX3_read_17 ?_
    refine r_iload_n C dX3_read_20 rfl rfl ?_
    refine r_aload_n C dX3_read_21 rfl rfl ?_
    refine r_iload_n C dX3_read_22 rfl rfl ?_
    refine cl_RX3_61 C (con_X4_usableColumns l hfl _ hr hT.1 hT.2.1 hT.2.2.1 hT.2.2.2.1) dX3_read_23 rfl ⟨Nat.le_of_ble_eq_true rfl, Nat.le_of_ble_eq_true rfl⟩ (by omega) (Nat.le_of_ble_eq_true rfl) (fun r_23 X_23 h_23 => ?_)
    obtain ⟨rfl, rfl⟩ := h_23
    refine r_topi (show _ = nI (us ra ca z r) from congrArg nI (usb_us (X := (Yv (Yv (Ym X 7 2 (nI ca)) 9 f) 8 g)) hT.2.2.2.2 hr)) ?_
    refine r_iast C (r) (gl (by decide)) rfl rfl hr dX3_read_26 ?_
    refine r_st (show _ = (Yv (Yv (Ym X 7 2 (nI ca)) 9 (upd f r (nI (us ra ca z r)))) 8 g) from Yv_mid _ (by decide) _ _ _) ?_
    refine r_iconst (v := 0) C dX3_read_27 (by decide) ?_
    refine r_istore_n C dX3_read_28 rfl (by decide) ?_
    refine r_sub C (lv' := [(3, .int (nI 0)), (2, .int (nI r)), (0, .ref (G.2.1 7)), (1, .ref (G.2.1 1))]) ⟨rfl, rfl, rfl, rfl, trivial⟩ ?_
    refine lp_X3_read_in hfl hT hr _ (fun g9 hg9 => ?_) CE 10 0 g (by omega) hg
    refine r_iinc (v := _) C dX3_read_61 rfl (nI_1 r) ?_
    refine r_goto (tgt := 10) C dX3_read_64 (by decide) ?_
    refine r_sub C (lv' := [(2, .int (nI (r + 1))), (0, .ref (G.2.1 7)), (1, .ref (G.2.1 1))]) ⟨rfl, rfl, rfl, trivial⟩ ?_
    exact ih (r + 1) _ g9 (by omega) (fun i hi => by unfold upd; by_cases e : i = r <;> simp [e]; exact hf i (by omega)) (fun i j hi hj hh => hg9 i j hi hj (by omega))

set_option maxHeartbeats 4000000 in
set_option maxRecDepth 100000 in
/-- X3_read  -/
theorem con_X3_read (l : Launch) (hfl : l.stackTraces = false) {ra ca : Nat} {z : Nat → Int} (X : St) (hT : TbZ X ra ca z) : Con l yX3_read cX3_read 4 none 4 120 0 (fun G => [.ref (G.2.1 7), .ref (G.2.1 1)]) X (kV (fun X' => ∃ f g, Yv (Yv (Ym X 7 2 (nI ca)) 9 f) 8 g = X' ∧ (∀ r, r < 10 → f r = nI (us ra ca z r)) ∧ gok z 10 0 g)) kF := by
  refine con_of (lv := fun G => [(0, .ref (G.2.1 7)), (1, .ref (G.2.1 1))]) hfl (by decide +kernel) (fun _ => rfl) (fun _ => Nat.le_of_ble_eq_true rfl) ?_
  intro G J JX CE
  have C := CE.b
  refine r_aload_n C dX3_read_0 rfl rfl ?_
  refine r_aload_n C dX3_read_1 rfl rfl ?_
  refine gf_RX3_56 C dX3_read_2 ?_
  refine r_topi hT.2.1 ?_
  refine pf_RX3_46 C dX3_read_5 ?_
  refine r_iconst (v := 0) C dX3_read_8 (by decide) ?_
  refine r_istore_n C dX3_read_9 rfl (by decide) ?_
  refine r_sub C (lv' := [(2, .int (nI 0)), (0, .ref (G.2.1 7)), (1, .ref (G.2.1 1))]) ⟨rfl, rfl, rfl, trivial⟩ ?_
  refine r_st (show _ = Yv (Yv (Ym X 7 2 (nI ca)) 9 (Zv (Ym X 7 2 (nI ca)) 9)) 8 (Zv (Yv (Ym X 7 2 (nI ca)) 9 (Zv (Ym X 7 2 (nI ca)) 9)) 8) by rw [Yv_id, Yv_id]) ?_
  exact lp_X3_read hfl hT CE 10 0 _ _ (by omega) (fun i hi => absurd hi (Nat.not_lt_zero i)) (fun i j _ _ hh => by omega)
