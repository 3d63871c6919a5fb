theorem usb_us {X : St} {ra ca : Nat} {z : Nat → Int} (hz : ∀ k, k < 100 → Zv X 2 k = i32 (z k) ∧ zok (z k)) {r : Nat} (hr : r < 10) : mk (usb X ra ca r) 10 = us ra ca z r := by
  refine mk_cong 10 fun c hc => ?_
  unfold usb
  have h := hz (10 * r + c) (by omega)
  rw [h.1, decide_eq_decide.mpr (not_congr (i20000 h.2))]
theorem usb_z {X : St} {ra ca : Nat} {z : Nat → Int} (hz : ∀ k, k < 100 → Zv X 2 k = i32 (z k) ∧ zok (z k)) {r c : Nat} (hr : r < 10) (hc : c < 10) : usb X ra ca r c = (us ra ca z r).testBit c := by
  rw [us_bit hc]
  unfold usb
  have h := hz (10 * r + c) (by omega)
  rw [h.1, decide_eq_decide.mpr (not_congr (i20000 h.2))]
def gok (z : Nat → Int) (r c : Nat) (g : Nat → Int32) : Prop := ∀ i j, i < 10 → j < 10 → (i < r ∨ (i = r ∧ j < c)) → g (10 * i + j) = i32 (sc z i j)
theorem gok_put {z : Nat → Int} {r c : Nat} {g : Nat → Int32} (hr : r < 10) (hc : c < 10) (h : gok z r c g) : gok z r (c + 1) (upd g (10 * r + c) (i32 (sc z r c))) := by
  intro i j hi hj hh
  unfold upd
  by_cases e : 10 * i + j = 10 * r + c
  · have e1 : i = r := by omega
    have e2 : j = c := by omega
    rw [if_pos e, e1, e2]
  · rw [if_neg e]
    exact h i j hi hj (by omega)
set_option maxHeartbeats 4000000 in
set_option maxRecDepth 100000 in
theorem lp_X3_read_in {l : Launch} {G : Geo} {J : JT} {JX : JXT} {X : St} (hfl : l.stackTraces = false) {ra ca : Nat} {z : Nat → Int} (hT : TbZ X ra ca z) {r : Nat} (hr : r < 10) (f : Nat → Int32) (hk : ∀ g, gok z r 10 g → J (Yv (Yv (Ym X 7 2 (nI ca)) 9 f) 8 g) 0 61 [(2, .int (nI r)), (0, .ref (G.2.1 7)), (1, .ref (G.2.1 1))] []) (CE : Cl l RX3 cX3_read 4 none [] G 4 120 0 (kV (fun X' => ∃ f g, Yv (Yv (Ym X 7 2 (nI ca)) 9 f) 8 g = X' ∧ (∀ r, r < 10 → f r = nI (us ra ca z r)) ∧ gok z 10 0 g)) kF J JX) :
    ∀ n c (g : Nat → Int32), c + n = 10 → gok z r c g → J (Yv (Yv (Ym X 7 2 (nI ca)) 9 f) 8 g) 0 29 [(3, .int (nI c)), (2, .int (nI r)), (0, .ref (G.2.1 7)), (1, .ref (G.2.1 1))] [] := by
  have C := CE.b
  intro n
  induction n with
  | zero =>
    intro c g h hg
    have hc : c = 10 := by omega
    subst hc
    refine r_iload_n C dX3_read_29 rfl rfl ?_
    refine r_bipush (v := 10) C dX3_read_30 (by decide) ?_
    refine r_icmp_ge (tgt := 61) C dX3_read_32 (by decide) (fun c_32 => ?_) (fun c_32 => absurd ((by decide)) c_32)
    refine r_sub C (lv' := [(2, .int (nI r)), (0, .ref (G.2.1 7)), (1, .ref (G.2.1 1))]) ⟨rfl, rfl, rfl, trivial⟩ ?_
    exact hk g hg
  | succ n ih =>
    intro c g h hg
    have hlt : c < 10 := by omega
    refine r_iload_n C dX3_read_29 rfl rfl ?_
    refine r_bipush (v := 10) C dX3_read_30 (by decide) ?_
    refine r_icmp_ge (tgt := 61) C dX3_read_32 (by decide) (fun c_32 => absurd c_32 ((nI_ge (a := c) (b := 10) (by omega) (by decide)))) (fun c_32 => ?_)
    refine r_aload_n C dX3_read_35 rfl rfl ?_
    refine gf_RX3_11 C dX3_read_36 ?_
    refine r_iload_n C dX3_read_39 rfl rfl ?_
    refine r_bipush (v := 10) C dX3_read_40 (by decide) ?_
    refine r_imul C dX3_read_42 ?_
    refine r_iload_n C dX3_read_43 rfl rfl ?_
    refine r_iadd C dX3_read_44 ?_
    refine r_aload_n C dX3_read_45 rfl rfl ?_
    refine r_iload_n C dX3_read_46 rfl rfl ?_
    refine r_iload_n C dX3_read_47 rfl rfl ?_
    refine cl_RX3_64 C (con_X4_cell l hfl _ hr hlt) dX3_read_48 rfl ⟨Nat.le_of_ble_eq_true rfl, Nat.le_of_ble_eq_true rfl⟩ (by omega) (Nat.le_of_ble_eq_true rfl) (fun r_48 X_48 h_48 => ?_)
    obtain ⟨rfl, rfl⟩ := h_48
    refine r_topi (show _ = i32 (z (10 * r + c)) from (hT.2.2.2.2 (10 * r + c) (by omega)).1) ?_
    refine r_ldc C dX3_read_51 nk_RX3_33 ?_
    refine r_topi k1000000 ?_
    refine r_isub C dX3_read_53 ?_
    refine r_topi (i32_sub _ _) ?_
    refine r_iast C (10 * r + c) (by decide) rfl (zix r c) (by omega) dX3_read_54 ?_
    refine r_st (show _ = (Yv (Yv (Ym X 7 2 (nI ca)) 9 f) 8 (upd g (10 * r + c) (i32 (sc z r c)))) by rw [Yv_Yv]; rfl) ?_
    refine r_iinc (v := _) C dX3_read_55 rfl (nI_1 c) ?_
    refine r_goto (tgt := 29) C dX3_read_58 (by decide) ?_
    refine r_sub C (lv' := [(3, .int (nI (c + 1))), (2, .int (nI r)), (0, .ref (G.2.1 7)), (1, .ref (G.2.1 1))]) ⟨rfl, rfl, rfl, rfl, trivial⟩ ?_
    exact ih (c + 1) _ (by omega) (gok_put hr hlt hg)

set_option maxHeartbeats 4000000 in
set_option maxRecDepth 100000 in
theorem lp_X3_read {l : Launch} {G : Geo} {J : JT} {JX : JXT} {X : St} (hfl : l.stackTraces = false) {ra ca : Nat} {z : Nat → Int} (hT : TbZ X ra ca z) (CE : Cl l RX3 cX3_read 4 none [] G 4 120 0 (kV (fun X' => ∃ f g, Yv (Yv (Ym X 7 2 (nI ca)) 9 f) 8 g = X' ∧ (∀ r, r < 10 → f r = nI (us ra ca z r)) ∧ gok z 10 0 g)) kF J JX) :
    ∀ n r (f g : Nat → Int32), r + n = 10 → (∀ i, i < r → f i = nI (us ra ca z i)) → gok z r 0 g → J (Yv (Yv (Ym X 7 2 (nI ca)) 9 f) 8 g) 0 10 [(2, .int (nI r)), (0, .ref (G.2.1 7)), (1, .ref (G.2.1 1))] [] := by
  have C := CE.b
  intro n
  induction n with
  | zero =>
    intro r f g h hf hg
    have hc : r = 10 := by omega
    subst hc
    refine r_iload_n C dX3_read_10 rfl rfl ?_
    refine r_bipush (v := 10) C dX3_read_11 (by decide) ?_
    refine r_icmp_ge (tgt := 67) C dX3_read_13 (by decide) (fun c_13 => ?_) (fun c_13 => absurd ((by decide)) c_13)
    exact r_vret CE rfl dX3_read_67 (Nat.le_of_ble_eq_true rfl) ⟨rfl, f, g, rfl, hf, hg⟩
  | succ n ih =>
    intro r f g h hf hg
    have hr : r < 10 := by omega
    refine r_iload_n C dX3_read_10 rfl rfl ?_
    refine r_bipush (v := 10) C dX3_read_11 (by decide) ?_
    refine r_icmp_ge (tgt := 67) C dX3_read_13 (by decide) (fun c_13 => absurd c_13 ((nI_ge (a := r) (b := 10) (by omega) (by decide)))) (fun c_13 => ?_)
    refine r_aload_n C dX3_read_16 rfl rfl ?_
    refine gf_RX3_15 C dX3_read_17 ?_
    refine r_iload_n C dX3_read_20 rfl rfl ?_
    refine r_aload_n C dX3_read_21 rfl rfl ?_
    refine r_iload_n C dX3_read_22 rfl rfl ?_
    refine cl_RX3_61 C (con_X4_usableColumns l hfl _ hr hT.1 hT.2.1 hT.2.2.1 hT.2.2.2.1) dX3_read_23 rfl ⟨Nat.le_of_ble_eq_true rfl, Nat.le_of_ble_eq_true rfl⟩ (by omega) (Nat.le_of_ble_eq_true rfl) (fun r_23 X_23 h_23 => ?_)
    obtain ⟨rfl, rfl⟩ := h_23
    refine r_topi (show _ = nI (us ra ca z r) from congrArg nI (usb_us (X := (Yv (Yv (Ym X 7 2 (nI ca)) 9 f) 8 g)) hT.2.2.2.2 hr)) ?_
    refine r_iast C (r) (by decide) rfl rfl hr dX3_read_26 ?_
    refine r_st (show _ = (Yv (Yv (Ym X 7 2 (nI ca)) 9 (upd f r (nI (us ra ca z r)))) 8 g) from Yv_mid _ (by decide) _ _ _) ?_
    refine r_iconst (v := 0) C dX3_read_27 (by decide) ?_
    refine r_istore_n C dX3_read_28 rfl (by decide) ?_
    refine r_sub C (lv' := [(3, .int (nI 0)), (2, .int (nI r)), (0, .ref (G.2.1 7)), (1, .ref (G.2.1 1))]) ⟨rfl, rfl, rfl, rfl, trivial⟩ ?_
    refine lp_X3_read_in hfl hT hr _ (fun g9 hg9 => ?_) CE 10 0 g (by omega) hg
    refine r_iinc (v := _) C dX3_read_61 rfl (nI_1 r) ?_
    refine r_goto (tgt := 10) C dX3_read_64 (by decide) ?_
    refine r_sub C (lv' := [(2, .int (nI (r + 1))), (0, .ref (G.2.1 7)), (1, .ref (G.2.1 1))]) ⟨rfl, rfl, rfl, trivial⟩ ?_
    exact ih (r + 1) _ g9 (by omega) (fun i hi => by unfold upd; by_cases e : i = r <;> simp [e]; exact hf i (by omega)) (fun i j hi hj hh => hg9 i j hi hj (by omega))

set_option maxHeartbeats 4000000 in
set_option maxRecDepth 100000 in
/-- X3_read  -/
theorem con_X3_read (l : Launch) (hfl : l.stackTraces = false) {ra ca : Nat} {z : Nat → Int} (X : St) (hT : TbZ X ra ca z) : Con l yX3_read cX3_read 4 none 4 120 0 (fun G => [.ref (G.2.1 7), .ref (G.2.1 1)]) X (kV (fun X' => ∃ f g, Yv (Yv (Ym X 7 2 (nI ca)) 9 f) 8 g = X' ∧ (∀ r, r < 10 → f r = nI (us ra ca z r)) ∧ gok z 10 0 g)) kF := by
  refine con_of (lv := fun G => [(0, .ref (G.2.1 7)), (1, .ref (G.2.1 1))]) hfl (by decide +kernel) (fun _ => rfl) (fun _ => Nat.le_of_ble_eq_true rfl) ?_
  intro G J JX CE
  have C := CE.b
  refine r_aload_n C dX3_read_0 rfl rfl ?_
  refine r_aload_n C dX3_read_1 rfl rfl ?_
  refine gf_RX3_56 C dX3_read_2 ?_
  refine r_topi hT.2.1 ?_
  refine pf_RX3_46 C dX3_read_5 ?_
  refine r_iconst (v := 0) C dX3_read_8 (by decide) ?_
  refine r_istore_n C dX3_read_9 rfl (by decide) ?_
  refine r_sub C (lv' := [(2, .int (nI 0)), (0, .ref (G.2.1 7)), (1, .ref (G.2.1 1))]) ⟨rfl, rfl, rfl, trivial⟩ ?_
  refine r_st (show _ = Yv (Yv (Ym X 7 2 (nI ca)) 9 (Zv (Ym X 7 2 (nI ca)) 9)) 8 (Zv (Yv (Ym X 7 2 (nI ca)) 9 (Zv (Ym X 7 2 (nI ca)) 9)) 8) by rw [Yv_id, Yv_id]) ?_
  exact lp_X3_read hfl hT CE 10 0 _ _ (by omega) (fun i hi => absurd hi (Nat.not_lt_zero i)) (fun i j _ _ hh => by omega)
set_option maxHeartbeats 4000000 in
set_option maxRecDepth 100000 in
/-- X3_isOptimal  -/
theorem con_X3_isOptimal (l : Launch) (hfl : l.stackTraces = false) {r c F ra ca : Nat} {z : Nat → Int} (X : St) (hV : SvR X ra ca z r) (hr : r < 10) (hc : c < 10) (hF : F < 1024) (hb : cbl ca F r = true) : Con l yX3_isOptimal cX3_isOptimal 5 (some (FieldType.boolean)) 1 30 0 (fun G => [.ref (G.2.1 7), .int (nI r), .int (nI c), .int (nI F)]) X (kI (fun r9 X' => r9 = bI (opt ra ca z r c F) ∧ X = X')) kF := by
  refine con_of (lv := fun G => [(0, .ref (G.2.1 7)), (1, .int (nI r)), (2, .int (nI c)), (3, .int (nI F))]) hfl (by decide +kernel) (fun _ => rfl) (fun _ => Nat.le_of_ble_eq_true rfl) ?_
  intro G J JX CE
  have C := CE.b
  obtain ⟨h1, h2, h3, h4, h5, h6⟩ := hV
  have b1 := Ls_bd (ra := ra) (ca := ca) h6 (9 - r) (cb F c) (by omega)
  have b2 := Ls_bd (ra := ra) (ca := ca) h6 (10 - r) F (by omega)
  have b3 := sc_bd h6 hr hc
  refine r_aload_n C dX3_isOptimal_0 rfl rfl ?_
  refine gf_RX3_15 C dX3_isOptimal_1 ?_
  refine r_iload_n C dX3_isOptimal_4 rfl rfl ?_
  refine r_iald C (r) (by decide) rfl rfl hr dX3_isOptimal_5 ?_
  refine r_topi (h2 r hr) ?_
  refine r_iload_n C dX3_isOptimal_6 rfl rfl ?_
  refine r_iand C dX3_isOptimal_7 ?_
  refine r_topi (zand _ F) ?_
  refine r_iload_n C dX3_isOptimal_8 rfl rfl ?_
  refine cl_RX3_81 C (con_X5_hasBit l hfl _ (Nat.lt_of_le_of_lt Nat.and_le_left (Nat.lt_trans (us_lt ra ca z r) (by decide))) (by omega)) dX3_isOptimal_9 rfl ⟨Nat.le_of_ble_eq_true rfl, Nat.le_of_ble_eq_true rfl⟩ (by omega) (Nat.le_of_ble_eq_true rfl) (fun r_9 X_9 h_9 => ?_)
  obtain ⟨rfl, rfl⟩ := h_9
  refine r_if_ne (tgt := 17) C dX3_isOptimal_12 (by decide) (fun c_12 => ?_) (fun c_12 => ?_)
  · -- 17
    have hbit := bI_1 c_12
    have hbF : F.testBit c = true := by rw [Nat.testBit_and] at hbit; simp at hbit; exact hbit.2
    have hb2 := cbl_cb hc hb hbF
    refine r_aload_n C dX3_isOptimal_17 rfl rfl ?_
    refine gf_RX3_20 C dX3_isOptimal_18 ?_
    refine r_iload_n C dX3_isOptimal_21 rfl rfl ?_
    refine r_iconst (v := 1) C dX3_isOptimal_22 (by decide) ?_
    refine r_iadd C dX3_isOptimal_23 ?_
    refine r_aald C (r + 1) (by decide) rfl (nI_1 r) (by omega) dX3_isOptimal_24 ?_
    refine r_iload_n C dX3_isOptimal_25 rfl rfl ?_
    refine r_iload_n C dX3_isOptimal_26 rfl rfl ?_
    refine r_iconst (v := 0) C dX3_isOptimal_27 (by decide) ?_
    refine cl_RX3_84 C (con_X5_withBit l hfl _ (b := false) (by omega)) dX3_isOptimal_28 rfl ⟨Nat.le_of_ble_eq_true rfl, Nat.le_of_ble_eq_true rfl⟩ (by omega) (Nat.le_of_ble_eq_true rfl) (fun r_28 X_28 h_28 => ?_)
    obtain ⟨rfl, rfl⟩ := h_28
    refine r_topi (show _ = nI (cb F c) from rfl) ?_
    refine r_iald C (cb F c) (by omega) (lay14 (by omega)) rfl (Nat.lt_of_le_of_lt (cb_le F c) hF) dX3_isOptimal_31 ?_
    refine r_topi (h4 (r + 1) _ (by omega) (by omega) (Nat.lt_of_le_of_lt (cb_le F c) hF) hb2) ?_
    refine r_topi (show _ = i32 (Ls ra ca z (9 - r) (cb F c)) by rw [show 10 - (r + 1) = 9 - r by omega]) ?_
    refine r_istore C dX3_isOptimal_32 (by decide) ?_
    refine r_aload_n C dX3_isOptimal_34 rfl rfl ?_
    refine gf_RX3_11 C dX3_isOptimal_35 ?_
    refine r_iload_n C dX3_isOptimal_38 rfl rfl ?_
    refine r_bipush (v := 10) C dX3_isOptimal_39 (by decide) ?_
    refine r_imul C dX3_isOptimal_41 ?_
    refine r_iload_n C dX3_isOptimal_42 rfl rfl ?_
    refine r_iadd C dX3_isOptimal_43 ?_
    refine r_iald C (10 * r + c) (by decide) rfl (zix r c) (by omega) dX3_isOptimal_44 ?_
    refine r_topi (h3 r c hr hc) ?_
    refine r_iload C dX3_isOptimal_45 rfl ?_
    refine r_iadd C dX3_isOptimal_47 ?_
    refine r_topi (i32_add _ _) ?_
    refine r_aload_n C dX3_isOptimal_48 rfl rfl ?_
    refine gf_RX3_20 C dX3_isOptimal_49 ?_
    refine r_iload_n C dX3_isOptimal_52 rfl rfl ?_
    refine r_aald C (r) (by decide) rfl rfl (by omega) dX3_isOptimal_53 ?_
    refine r_iload_n C dX3_isOptimal_54 rfl rfl ?_
    refine r_iald C (F) (by omega) (lay14 (by omega)) rfl hF dX3_isOptimal_55 ?_
    refine r_topi (h4 r F (Nat.le_refl r) (by omega) hF hb) ?_
    refine r_icmp_ne (tgt := 63) C dX3_isOptimal_56 (by decide) (fun c_56 => ?_) (fun c_56 => ?_)
    · -- 63
      have he := fun q => c_56 ((i32_eq (by omega) (by omega)).mpr q)
      refine r_iconst (v := 0) C dX3_isOptimal_63 (by decide) ?_
      exact r_iret CE rfl rfl dX3_isOptimal_64 (Nat.le_of_ble_eq_true rfl) ⟨_, rfl, by unfold opt; rw [hbit]; first | (rw [decide_eq_true he]; rfl) | (rw [decide_eq_false he]; rfl), rfl⟩
    · -- 59
      have he := (i32_eq (by omega) (by omega)).mp c_56
      refine r_iconst (v := 1) C dX3_isOptimal_59 (by decide) ?_
      refine r_goto (tgt := 64) C dX3_isOptimal_60 (by decide) ?_
      exact r_iret CE rfl rfl dX3_isOptimal_64 (Nat.le_of_ble_eq_true rfl) ⟨_, rfl, by unfold opt; rw [hbit]; first | (rw [decide_eq_true he]; rfl) | (rw [decide_eq_false he]; rfl), rfl⟩
  · -- 15
    have hbit := bI_0 c_12
    refine r_iconst (v := 0) C dX3_isOptimal_15 (by decide) ?_
    exact r_iret CE rfl rfl dX3_isOptimal_16 (Nat.le_of_ble_eq_true rfl) ⟨_, rfl, by unfold opt; rw [hbit]; rfl, rfl⟩
set_option maxHeartbeats 4000000 in
set_option maxRecDepth 100000 in
theorem lp_X3_firstOptimal {l : Launch} {G : Geo} {J : JT} {JX : JXT} {X : St} (hfl : l.stackTraces = false) {r F ra ca : Nat} {z : Nat → Int} (hV : SvR X ra ca z r) (hr : r < 10) (hF : F < 1024) (hb : cbl ca F r = true) (CE : Cl l RX3 cX3_firstOptimal 4 (some .int) [] G 2 60 0 (kI (fun r9 X' => r9 = cI (kcol ra ca z r F) ∧ X = X')) kF J JX) :
    ∀ n c, c + n = 10 → (∀ j, j < c → opt ra ca z r j F = false) → J X 0 2 [(3, .int (nI c)), (0, .ref (G.2.1 7)), (1, .int (nI r)), (2, .int (nI F))] [] := by
  have C := CE.b
  intro n
  induction n with
  | zero =>
    intro c h hn
    have hc : c = 10 := by omega
    subst hc
    refine r_iload_n C dX3_firstOptimal_2 rfl rfl ?_
    refine r_bipush (v := 10) C dX3_firstOptimal_3 (by decide) ?_
    refine r_icmp_ge (tgt := 26) C dX3_firstOptimal_5 (by decide) (fun c_5 => ?_) (fun c_5 => absurd ((by decide)) c_5)
    refine r_iconst (v := (-1)) C dX3_firstOptimal_26 (by decide) ?_
    exact r_iret CE rfl rfl dX3_firstOptimal_27 (Nat.le_of_ble_eq_true rfl) ⟨_, rfl, by unfold kcol; rw [ff_all hn]; rfl, rfl⟩
  | succ n ih =>
    intro c h hn
    have hlt : c < 10 := by omega
    refine r_iload_n C dX3_firstOptimal_2 rfl rfl ?_
    refine r_bipush (v := 10) C dX3_firstOptimal_3 (by decide) ?_
    refine r_icmp_ge (tgt := 26) C dX3_firstOptimal_5 (by decide) (fun c_5 => absurd c_5 ((nI_ge (a := c) (b := 10) (by omega) (by decide)))) (fun c_5 => ?_)
    refine r_aload_n C dX3_firstOptimal_8 rfl rfl ?_
    refine r_iload_n C dX3_firstOptimal_9 rfl rfl ?_
    refine r_iload_n C dX3_firstOptimal_10 rfl rfl ?_
    refine r_iload_n C dX3_firstOptimal_11 rfl rfl ?_
    refine cl_RX3_96 C (con_X3_isOptimal l hfl _ hV hr hlt hF hb) dX3_firstOptimal_12 rfl ⟨Nat.le_of_ble_eq_true rfl, Nat.le_of_ble_eq_true rfl⟩ (by omega) (Nat.le_of_ble_eq_true rfl) (fun r_12 X_12 h_12 => ?_)
    obtain ⟨rfl, rfl⟩ := h_12
    refine r_if_eq (tgt := 20) C dX3_firstOptimal_15 (by decide) (fun c_15 => ?_) (fun c_15 => ?_)
    · -- 20
      have hp := bI_0 c_15
      refine r_iinc (v := _) C dX3_firstOptimal_20 rfl (nI_1 c) ?_
      refine r_goto (tgt := 2) C dX3_firstOptimal_23 (by decide) ?_
      refine r_sub C (lv' := [(3, .int (nI (c + 1))), (0, .ref (G.2.1 7)), (1, .int (nI r)), (2, .int (nI F))]) ⟨rfl, rfl, rfl, rfl, trivial⟩ ?_
      exact ih (c + 1) (by omega) (fun j hj => by rcases Nat.lt_or_ge j c with q | q; exact hn j q; rw [show j = c by omega]; exact hp)
    · -- 18
      have hp := bI_1 c_15
      refine r_iload_n C dX3_firstOptimal_18 rfl rfl ?_
      exact r_iret CE rfl rfl dX3_firstOptimal_19 (Nat.le_of_ble_eq_true rfl) ⟨_, rfl, by unfold kcol; rw [ff_is hlt hn hp]; unfold cI; rw [if_pos hlt], rfl⟩

set_option maxHeartbeats 4000000 in
set_option maxRecDepth 100000 in
/-- X3_firstOptimal  -/
theorem con_X3_firstOptimal (l : Launch) (hfl : l.stackTraces = false) {r F ra ca : Nat} {z : Nat → Int} (X : St) (hV : SvR X ra ca z r) (hr : r < 10) (hF : F < 1024) (hb : cbl ca F r = true) : Con l yX3_firstOptimal cX3_firstOptimal 4 (some (FieldType.int)) 2 60 0 (fun G => [.ref (G.2.1 7), .int (nI r), .int (nI F)]) X (kI (fun r9 X' => r9 = cI (kcol ra ca z r F) ∧ X = X')) kF := by
  refine con_of (lv := fun G => [(0, .ref (G.2.1 7)), (1, .int (nI r)), (2, .int (nI F))]) hfl (by decide +kernel) (fun _ => rfl) (fun _ => Nat.le_of_ble_eq_true rfl) ?_
  intro G J JX CE
  have C := CE.b
  refine r_iconst (v := 0) C dX3_firstOptimal_0 (by decide) ?_
  refine r_istore_n C dX3_firstOptimal_1 rfl (by decide) ?_
  refine r_sub C (lv' := [(3, .int (nI 0)), (0, .ref (G.2.1 7)), (1, .int (nI r)), (2, .int (nI F))]) ⟨rfl, rfl, rfl, rfl, trivial⟩ ?_
  exact lp_X3_firstOptimal hfl hV hr hF hb CE 10 0 (by omega) (fun j hj => absurd hj (Nat.not_lt_zero j))
theorem SvR.up {X : St} {ra ca : Nat} {z : Nat → Int} {r r' : Nat} (h : SvR X ra ca z r) (hr : r ≤ r') : SvR X ra ca z r' := ⟨h.1, h.2.1, h.2.2.1, fun q S h1 h2 h3 h4 => h.2.2.2.1 q S (by omega) h2 h3 h4, h.2.2.2.2.1, h.2.2.2.2.2⟩
theorem SvR.put {X : St} {ra ca : Nat} {z : Nat → Int} {r : Nat} (h : SvR X ra ca z r) {k : Nat} (f : Nat → Int32) (h1 : k ≠ 9) (h2 : k ≠ 8) (h3 : k < 14 ∨ 24 < k) : SvR (Yv X k f) ra ca z r :=
  ⟨h.1, fun r hr => by rw [Zv_Yv, if_neg (Ne.symm h1)]; exact h.2.1 r hr, fun r c hr hc => by rw [Zv_Yv, if_neg (Ne.symm h2)]; exact h.2.2.1 r c hr hc, fun q S g1 g2 g3 g4 => by rw [Zv_Yv, if_neg (by omega)]; exact h.2.2.2.1 q S g1 g2 g3 g4, h.2.2.2.2⟩
theorem SvR.puti {X : St} {ra ca : Nat} {z : Nat → Int} {r : Nat} (h : SvR X ra ca z r) {k j : Nat} (x : Int32) (h1 : ¬ (7 = k ∧ 2 = j)) : SvR (Ym X k j x) ra ca z r :=
  ⟨by rw [Zm_Ym, if_neg h1]; exact h.1, h.2⟩
set_option maxHeartbeats 4000000 in
set_option maxRecDepth 100000 in
theorem lp_X3_keepFirst {l : Launch} {G : Geo} {J : JT} {JX : JXT} {X : St} (hfl : l.stackTraces = false) {ra ca : Nat} {z : Nat → Int} (hV : SvR X ra ca z 0) (CE : Cl l RX3 cX3_keepFirst 4 none [] G 3 90 0 (kV (fun X' => ∃ f, Yv X 12 f = X' ∧ ∀ r, r < 10 → f r = cI (kcol ra ca z r (kfree ra ca z r)))) kF J JX) :
    ∀ n r (f : Nat → Int32), r + n = 10 → (∀ i, i < r → f i = cI (kcol ra ca z i (kfree ra ca z i))) → J (Yv X 12 f) 0 7 [(1, .int (nI (kfree ra ca z r))), (2, .int (nI r)), (0, .ref (G.2.1 7))] [] := by
  have C := CE.b
  intro n
  induction n with
  | zero =>
    intro r f h hf
    have hc : r = 10 := by omega
    subst hc
    refine r_iload_n C dX3_keepFirst_7 rfl rfl ?_
    refine r_bipush (v := 10) C dX3_keepFirst_8 (by decide) ?_
    refine r_icmp_ge (tgt := 45) C dX3_keepFirst_10 (by decide) (fun c_10 => ?_) (fun c_10 => absurd ((by decide)) c_10)
    exact r_vret CE rfl dX3_keepFirst_45 (Nat.le_of_ble_eq_true rfl) ⟨rfl, f, rfl, hf⟩
  | succ n ih =>
    intro r f h hf
    have hr : r < 10 := by omega
    have hcb := kfree_cbl (ra := ra) (ca := ca) (z := z) r (by omega)
    have hlt : kfree ra ca z r < 1024 := Nat.lt_of_le_of_lt (cbl_le hcb) hV.2.2.2.2.1
    have hle := ff_le (fun c => opt ra ca z r c (kfree ra ca z r)) 10
    refine r_iload_n C dX3_keepFirst_7 rfl rfl ?_
    refine r_bipush (v := 10) C dX3_keepFirst_8 (by decide) ?_
    refine r_icmp_ge (tgt := 45) C dX3_keepFirst_10 (by decide) (fun c_10 => absurd c_10 ((nI_ge (a := r) (b := 10) (by omega) (by decide)))) (fun c_10 => ?_)
    refine r_aload_n C dX3_keepFirst_13 rfl rfl ?_
    refine r_iload_n C dX3_keepFirst_14 rfl rfl ?_
    refine r_iload_n C dX3_keepFirst_15 rfl rfl ?_
    refine cl_RX3_93 C (con_X3_firstOptimal l hfl _ ((hV.put f (by decide) (by decide) (by decide)).up (Nat.zero_le r)) hr hlt hcb) dX3_keepFirst_16 rfl ⟨Nat.le_of_ble_eq_true rfl, Nat.le_of_ble_eq_true rfl⟩ (by omega) (Nat.le_of_ble_eq_true rfl) (fun r_16 X_16 h_16 => ?_)
    obtain ⟨rfl, rfl⟩ := h_16
    refine r_istore_n C dX3_keepFirst_19 rfl (by decide) ?_
    refine r_aload_n C dX3_keepFirst_20 rfl rfl ?_
    refine gf_RX3_29 C dX3_keepFirst_21 ?_
    refine r_iload_n C dX3_keepFirst_24 rfl rfl ?_
    refine r_iload_n C dX3_keepFirst_25 rfl rfl ?_
    refine r_iast C (r) (by decide) rfl rfl hr dX3_keepFirst_26 ?_
    refine r_st (Yv_Yv X 12 f _) ?_
    refine r_iload_n C dX3_keepFirst_27 rfl rfl ?_
    refine r_iconst (v := (-1)) C dX3_keepFirst_28 (by decide) ?_
    refine r_icmp_eq (tgt := 39) C dX3_keepFirst_29 (by decide) (fun c_29 => ?_) (fun c_29 => ?_)
    · -- 39
      have e : kfree ra ca z (r + 1) = kfree ra ca z r := by
        rw [kfree, if_neg]
        intro q
        unfold cI at c_29
        rw [if_pos q] at c_29
        exact absurd c_29 (by intro q9; have h9 := congrArg Int32.toInt q9; rw [nI_toInt (by omega)] at h9; have e9 : (-1 : Int32).toInt = -1 := by decide
                              rw [e9] at h9; omega)
      refine r_iinc (v := _) C dX3_keepFirst_39 rfl (nI_1 r) ?_
      refine r_goto (tgt := 7) C dX3_keepFirst_42 (by decide) ?_
      refine r_sub C (lv' := [(1, .int (nI (kfree ra ca z (r + 1)))), (2, .int (nI (r + 1))), (0, .ref (G.2.1 7))]) ⟨by rw [e]; rfl, rfl, rfl, trivial⟩ ?_
      exact ih (r + 1) _ (by omega) (fun i hi => by unfold upd; rw [Zv_Yv, if_pos rfl]; by_cases e2 : i = r; rw [if_pos e2, e2]; rw [if_neg e2]; exact hf i (by omega))
    · -- 32
      have hq : kcol ra ca z r (kfree ra ca z r) < 10 := by
        rcases Nat.lt_or_ge (kcol ra ca z r (kfree ra ca z r)) 10 with q | q
        · exact q
        · exact absurd (by unfold cI; rw [if_neg (by omega)]) c_29
      have e : kfree ra ca z (r + 1) = cb (kfree ra ca z r) (kcol ra ca z r (kfree ra ca z r)) := by rw [kfree, if_pos hq]
      refine r_iload_n C dX3_keepFirst_32 rfl rfl ?_
      refine r_iload_n C dX3_keepFirst_33 rfl rfl ?_
      refine r_topi (show cI (kcol ra ca z r (kfree ra ca z r)) = nI (kcol ra ca z r (kfree ra ca z r)) by unfold cI; rw [if_pos hq]) ?_
      refine r_iconst (v := 0) C dX3_keepFirst_34 (by decide) ?_
      refine cl_RX3_84 C (con_X5_withBit l hfl _ (b := false) (by omega)) dX3_keepFirst_35 rfl ⟨Nat.le_of_ble_eq_true rfl, Nat.le_of_ble_eq_true rfl⟩ (by omega) (Nat.le_of_ble_eq_true rfl) (fun r_35 X_35 h_35 => ?_)
      obtain ⟨rfl, rfl⟩ := h_35
      refine r_topi (show _ = nI (cb (kfree ra ca z r) (kcol ra ca z r (kfree ra ca z r))) from rfl) ?_
      refine r_istore_n C dX3_keepFirst_38 rfl (by decide) ?_
      refine r_iinc (v := _) C dX3_keepFirst_39 rfl (nI_1 r) ?_
      refine r_goto (tgt := 7) C dX3_keepFirst_42 (by decide) ?_
      refine r_sub C (lv' := [(1, .int (nI (kfree ra ca z (r + 1)))), (2, .int (nI (r + 1))), (0, .ref (G.2.1 7))]) ⟨by rw [e]; rfl, rfl, rfl, trivial⟩ ?_
      exact ih (r + 1) _ (by omega) (fun i hi => by unfold upd; rw [Zv_Yv, if_pos rfl]; by_cases e2 : i = r; rw [if_pos e2, e2]; rw [if_neg e2]; exact hf i (by omega))

set_option maxHeartbeats 4000000 in
set_option maxRecDepth 100000 in
/-- X3_keepFirst  -/
theorem con_X3_keepFirst (l : Launch) (hfl : l.stackTraces = false) {ra ca : Nat} {z : Nat → Int} (X : St) (hV : SvR X ra ca z 0) : Con l yX3_keepFirst cX3_keepFirst 4 none 3 90 0 (fun G => [.ref (G.2.1 7)]) X (kV (fun X' => ∃ f, Yv X 12 f = X' ∧ ∀ r, r < 10 → f r = cI (kcol ra ca z r (kfree ra ca z r)))) kF := by
  refine con_of (lv := fun G => [(0, .ref (G.2.1 7))]) hfl (by decide +kernel) (fun _ => rfl) (fun _ => Nat.le_of_ble_eq_true rfl) ?_
  intro G J JX CE
  have C := CE.b
  refine r_aload_n C dX3_keepFirst_0 rfl rfl ?_
  refine gf_RX3_46 C dX3_keepFirst_1 ?_
  refine r_topi hV.1 ?_
  refine r_istore_n C dX3_keepFirst_4 rfl (by decide) ?_
  refine r_iconst (v := 0) C dX3_keepFirst_5 (by decide) ?_
  refine r_istore_n C dX3_keepFirst_6 rfl (by decide) ?_
  refine r_sub C (lv' := [(1, .int (nI (kfree ra ca z 0))), (2, .int (nI 0)), (0, .ref (G.2.1 7))]) ⟨rfl, rfl, rfl, trivial⟩ ?_
  refine r_st (Yv_id X 12).symm ?_
  exact lp_X3_keepFirst hfl hV CE 10 0 _ (by omega) (fun i hi => absurd hi (Nat.not_lt_zero i))
/-- outside the solver nothing has changed; its last row is 0 still -/
def SvO (X X' : St) : Prop := (∀ k j, k ≠ 7 → Zm X' k j = Zm X k j) ∧ (∀ k, (k < 8 ∨ 24 ≤ k) → Zv X' k = Zv X k) ∧ (∀ k, Zu X' k = Zu X k) ∧ (∀ k j, Zf X' k j = Zf X k j)
theorem SvO.rf {X : St} : SvO X X := ⟨fun _ _ _ => rfl, fun _ _ => rfl, fun _ => rfl, fun _ _ => rfl⟩
theorem SvO.tr {X Y Z : St} (h : SvO X Y) (g : SvO Y Z) : SvO X Z := ⟨fun k j hk => (g.1 k j hk).trans (h.1 k j hk), fun k hk => (g.2.1 k hk).trans (h.2.1 k hk), fun k => (g.2.2.1 k).trans (h.2.2.1 k), fun k j => (g.2.2.2 k j).trans (h.2.2.2 k j)⟩
theorem SvO.v {X : St} {k : Nat} (f : Nat → Int32) (h : 8 ≤ k ∧ k < 24) : SvO X (Yv X k f) := ⟨fun _ _ _ => rfl, fun a ha => by rw [Zv_Yv, if_neg (by omega)], fun _ => rfl, fun _ _ => rfl⟩
theorem SvO.m {X : St} {j : Nat} (x : Int32) : SvO X (Ym X 7 j x) := ⟨fun a b ha => by rw [Zm_Ym, if_neg (fun q => ha q.1)], fun _ _ => rfl, fun _ => rfl, fun _ _ => rfl⟩
set_option maxHeartbeats 4000000 in
set_option maxRecDepth 100000 in
theorem lp_X3_solve {l : Launch} {G : Geo} {J : JT} {JX : JXT} {X : St} (hfl : l.stackTraces = false) {ra ca : Nat} {z : Nat → Int} (CE : Cl l RX3 cX3_solve 3 none [] G 5 150 0 (kV (fun X' => SvK X' ra ca z ∧ SvO X X')) kF J JX) :
    ∀ n (Y : St), n ≤ 10 → SvR Y ra ca z n → SvO X Y → J Y 0 8 [(2, .int (dn n)), (0, .ref (G.2.1 7)), (1, .ref (G.2.1 1))] [] := by
  have C := CE.b
  intro n
  induction n with
  | zero =>
    intro Y h hV hO
    refine r_iload_n C dX3_solve_8 rfl rfl ?_
    refine r_if_lt (tgt := 43) C dX3_solve_9 (by decide) (fun c_9 => ?_) (fun c_9 => absurd ((by decide)) c_9)
    refine r_aload_n C dX3_solve_43 rfl rfl ?_
    refine r_aload_n C dX3_solve_44 rfl rfl ?_
    refine gf_RX3_20 C dX3_solve_45 ?_
    refine r_iconst (v := 0) C dX3_solve_48 (by decide) ?_
    refine r_aald C (0) (by decide) rfl rfl (by omega) dX3_solve_49 ?_
    refine r_aload_n C dX3_solve_50 rfl rfl ?_
    refine gf_RX3_46 C dX3_solve_51 ?_
    refine r_topi hV.1 ?_
    refine r_iald C (ca) (by decide) rfl rfl hV.2.2.2.2.1 dX3_solve_54 ?_
    refine r_topi (hV.2.2.2.1 0 ca (Nat.le_refl 0) (by omega) hV.2.2.2.2.1 (cbl_self ca 0)) ?_
    refine pf_RX3_50 C dX3_solve_55 ?_
    refine r_aload_n C dX3_solve_58 rfl rfl ?_
    refine cl_RX3_53 C (con_X3_keepFirst l hfl _ (hV.puti _ (by decide))) dX3_solve_59 rfl ⟨Nat.le_of_ble_eq_true rfl, Nat.le_of_ble_eq_true rfl⟩ (by omega) (Nat.le_of_ble_eq_true rfl) (fun X_59 h_59 => ?_)
    obtain ⟨f9, rfl, hf9⟩ := h_59
    exact r_vret CE rfl dX3_solve_62 (Nat.le_of_ble_eq_true rfl) ⟨rfl, ⟨(hV.puti _ (by decide)).put f9 (by decide) (by decide) (by decide), rfl, hf9⟩, (hO.tr (SvO.m _)).tr (SvO.v f9 (by decide))⟩
  | succ n ih =>
    intro Y h hV hO
    have hnx : ∀ S, S < 1024 → cbl ca S (n + 1) = true → Zv Y (14 + (n + 1)) S = i32 (Ls ra ca z (9 - n) S) ∧ bd 200000000 (Ls ra ca z (9 - n) S) := fun S h1 h2 => by
      have b1 := Ls_bd (ra := ra) (ca := ca) hV.2.2.2.2.2 (9 - n) S (by omega)
      have e1 := hV.2.2.2.1 (n + 1) S (Nat.le_refl _) h h1 h2
      rw [show 10 - (n + 1) = 9 - n by omega] at e1
      exact ⟨e1, by omega⟩
    refine r_iload_n C dX3_solve_8 rfl rfl ?_
    refine r_if_lt (tgt := 43) C dX3_solve_9 (by decide) (fun c_9 => absurd c_9 ((nI_pos (by omega)))) (fun c_9 => ?_)
    refine r_aload_n C dX3_solve_12 rfl rfl ?_
    refine r_iload_n C dX3_solve_13 rfl rfl ?_
    refine r_aload_n C dX3_solve_14 rfl rfl ?_
    refine gf_RX3_15 C dX3_solve_15 ?_
    refine r_iload_n C dX3_solve_18 rfl rfl ?_
    refine r_iald C (n) (by decide) rfl rfl (by omega) dX3_solve_19 ?_
    refine r_topi (hV.2.1 n (by omega)) ?_
    refine r_aload_n C dX3_solve_20 rfl rfl ?_
    refine gf_RX3_20 C dX3_solve_21 ?_
    refine r_iload_n C dX3_solve_24 rfl rfl ?_
    refine r_iconst (v := 1) C dX3_solve_25 (by decide) ?_
    refine r_iadd C dX3_solve_26 ?_
    refine r_aald C (n + 1) (by decide) rfl (nI_1 n) (by omega) dX3_solve_27 ?_
    refine r_aload_n C dX3_solve_28 rfl rfl ?_
    refine gf_RX3_20 C dX3_solve_29 ?_
    refine r_iload_n C dX3_solve_32 rfl rfl ?_
    refine r_aald C (n) (by decide) rfl rfl (by omega) dX3_solve_33 ?_
    refine cl_RX3_42 C (con_X3_fillRow l hfl _ (r := n) (ch := us ra ca z n) (A := ca) (kn := 14 + (n + 1)) (kf := 14 + n) (s := sc z n) (nx := Ls ra ca z (9 - n)) hV.1 hV.2.2.2.2.1 (us_lt _ _ _ _) (by omega) (by omega) (lay14 (by omega)) (by omega) (lay14 (by omega)) (by omega) (Int.le_refl _) (fun c hc _ => ⟨hV.2.2.1 n c (by omega) hc, sc_bd hV.2.2.2.2.2 (by omega) hc⟩) hnx) dX3_solve_34 rfl ⟨Nat.le_of_ble_eq_true rfl, Nat.le_of_ble_eq_true rfl⟩ (by omega) (Nat.le_of_ble_eq_true rfl) (fun X_34 h_34 => ?_)
    subst h_34
    refine r_iinc (v := _) C dX3_solve_37 rfl (dn_step n) ?_
    refine r_goto (tgt := 8) C dX3_solve_40 (by decide) ?_
    refine r_sub C (lv' := [(2, .int (dn n)), (0, .ref (G.2.1 7)), (1, .ref (G.2.1 1))]) ⟨rfl, rfl, rfl, trivial⟩ ?_
    refine ih _ (by omega) ⟨hV.1, fun r hr => by rw [Zv_Yv, if_neg (by omega)]; exact hV.2.1 r hr, fun r c hr hc => by rw [Zv_Yv, if_neg (by omega)]; exact hV.2.2.1 r c hr hc, fun r S h1 h2 h3 h4 => ?_, hV.2.2.2.2⟩ (hO.tr (SvO.v _ (by omega)))
    rw [Zv_Yv]
    by_cases e : r = n
    · subst e
      rw [if_pos rfl, if_pos h4, show 10 - r = (9 - r) + 1 by omega, Ls, show 9 - (9 - r) = r by omega]
    · rw [if_neg (by omega)]
      exact hV.2.2.2.1 r S (by omega) h2 h3 h4

set_option maxHeartbeats 4000000 in
set_option maxRecDepth 100000 in
/-- X3_solve  -/
theorem con_X3_solve (l : Launch) (hfl : l.stackTraces = false) {ra ca : Nat} {z : Nat → Int} (X : St) (hT : TbZ X ra ca z) (h0 : ∀ S, S < 1024 → Zv X 24 S = 0) : Con l yX3_solve cX3_solve 3 none 5 150 0 (fun G => [.ref (G.2.1 7), .ref (G.2.1 1)]) X (kV (fun X' => SvK X' ra ca z ∧ SvO X X')) kF := by
  refine con_of (lv := fun G => [(0, .ref (G.2.1 7)), (1, .ref (G.2.1 1))]) hfl (by decide +kernel) (fun _ => rfl) (fun _ => Nat.le_of_ble_eq_true rfl) ?_
  intro G J JX CE
  have C := CE.b
  refine r_aload_n C dX3_solve_0 rfl rfl ?_
  refine r_aload_n C dX3_solve_1 rfl rfl ?_
  refine cl_RX3_38 C (con_X3_read l hfl _ hT) dX3_solve_2 rfl ⟨Nat.le_of_ble_eq_true rfl, Nat.le_of_ble_eq_true rfl⟩ (by omega) (Nat.le_of_ble_eq_true rfl) (fun X_2 h_2 => ?_)
  obtain ⟨f9, g9, rfl, hf9, hg9⟩ := h_2
  refine r_bipush (v := 9) C dX3_solve_5 (by decide) ?_
  refine r_istore_n C dX3_solve_7 rfl (by decide) ?_
  refine r_sub C (lv' := [(2, .int (dn 10)), (0, .ref (G.2.1 7)), (1, .ref (G.2.1 1))]) ⟨rfl, rfl, rfl, trivial⟩ ?_
  refine lp_X3_solve hfl CE 10 _ (Nat.le_refl _) ⟨rfl, hf9, fun r c hr hc => hg9 r c hr hc (Or.inl hr), fun r S h1 h2 h3 h4 => ?_, hT.2.2.2.1, fun k hk => (hT.2.2.2.2 k hk).2⟩ (((SvO.m _).tr (SvO.v f9 (by decide))).tr (SvO.v g9 (by decide)))
  have e : r = 10 := by omega
  subst e
  exact h0 S h3
