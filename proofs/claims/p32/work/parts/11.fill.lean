set_option maxHeartbeats 4000000 in
set_option maxRecDepth 100000 in
theorem lp_X3_leastFrom {l : Launch} {G : Geo} {J : JT} {JX : JXT} {X : St} (hfl : l.stackTraces = false) {r m S kn : Nat} {s nx : Nat → Int} {B : Int} (hr : r < 10) (hkn : kn < 36) (hln : lay kn = (1, 1024, [])) (hS : S < 1024) (hm : m < 1024) (hB : B ≤ 200000000) (hs : ∀ c, c < 10 → m.testBit c = true → Zv X 8 (10 * r + c) = i32 (s c) ∧ bd 1100000 (s c)) (hn0 : Zv X kn S = i32 (nx S) ∧ bd B (nx S)) (hn : ∀ c, c < 10 → m.testBit c = true → Zv X kn (cb S c) = i32 (nx (cb S c)) ∧ bd B (nx (cb S c))) (CE : Cl l RX3 cX3_leastFrom 8 (some .int) [] G 1 30 0 (kI (fun r9 X' => r9 = i32 (rmin m s nx S) ∧ X = X')) kF J JX) :
    ∀ n c, c + n = 10 → J X 0 9 [(5, .int (i32 (rmf m s nx S c))), (6, .int (nI c)), (0, .ref (G.2.1 7)), (1, .int (nI r)), (2, .int (nI m)), (3, .ref (G.2.1 kn)), (4, .int (nI S))] [] := by
  have C := CE.b
  intro n
  induction n with
  | zero =>
    intro c h
    have hc : c = 10 := by omega
    subst hc
    refine r_iload C dX3_leastFrom_9 rfl ?_
    refine r_bipush (v := 10) C dX3_leastFrom_11 (by decide) ?_
    refine r_icmp_ge (tgt := 65) C dX3_leastFrom_13 (by decide) (fun c_13 => ?_) (fun c_13 => absurd ((by decide)) c_13)
    refine r_iload C dX3_leastFrom_65 rfl ?_
    exact r_iret CE rfl rfl dX3_leastFrom_67 (Nat.le_of_ble_eq_true rfl) ⟨_, rfl, rfl, rfl⟩
  | succ n ih =>
    intro c h
    have hlt : c < 10 := by omega
    refine r_iload C dX3_leastFrom_9 rfl ?_
    refine r_bipush (v := 10) C dX3_leastFrom_11 (by decide) ?_
    refine r_icmp_ge (tgt := 65) C dX3_leastFrom_13 (by decide) (fun c_13 => absurd c_13 ((nI_ge (a := c) (b := 10) (by omega) (by decide)))) (fun c_13 => ?_)
    refine r_iload_n C dX3_leastFrom_16 rfl rfl ?_
    refine r_iload C dX3_leastFrom_17 rfl ?_
    refine cl_RX3_81 C (con_X5_hasBit l hfl _ (by omega) (by omega)) dX3_leastFrom_19 rfl ⟨Nat.le_of_ble_eq_true rfl, Nat.le_of_ble_eq_true rfl⟩ (by omega) (Nat.le_of_ble_eq_true rfl) (fun r_19 X_19 h_19 => ?_)
    obtain ⟨rfl, rfl⟩ := h_19
    refine r_if_eq (tgt := 59) C dX3_leastFrom_22 (by decide) (fun c_22 => ?_) (fun c_22 => ?_)
    · -- 59
      have e : rmf m s nx S (c + 1) = rmf m s nx S c := by rw [rmf, if_neg (by rw [bI_0 c_22]; decide)]
      refine r_iinc (v := _) C dX3_leastFrom_59 rfl (nI_1 c) ?_
      refine r_goto (tgt := 9) C dX3_leastFrom_62 (by decide) ?_
      refine r_sub C (lv' := [(5, .int (i32 (rmf m s nx S (c + 1)))), (6, .int (nI (c + 1))), (0, .ref (G.2.1 7)), (1, .int (nI r)), (2, .int (nI m)), (3, .ref (G.2.1 kn)), (4, .int (nI S))]) ⟨by first | rfl | (rw [e]; rfl), rfl, rfl, rfl, rfl, rfl, rfl, trivial⟩ ?_
      exact ih (c + 1) (by omega)
    · -- 25
      have hb := bI_1 c_22
      have e : rmf m s nx S (c + 1) = min (rmf m s nx S c) (s c + nx (cb S c)) := by rw [rmf, if_pos hb]
      have b1 := rmf_bd hn0.2 (fun c h1 h2 => ⟨(hs c h1 h2).2, (hn c h1 h2).2⟩) c (by omega)
      have b2 := (hs c hlt hb).2
      have b3 := (hn c hlt hb).2
      refine r_aload_n C dX3_leastFrom_25 rfl rfl ?_
      refine r_iload C dX3_leastFrom_26 rfl ?_
      refine r_iload C dX3_leastFrom_28 rfl ?_
      refine r_iconst (v := 0) C dX3_leastFrom_30 (by decide) ?_
      refine cl_RX3_84 C (con_withBit0 l hfl _ (by omega)) dX3_leastFrom_31 rfl ⟨Nat.le_of_ble_eq_true rfl, Nat.le_of_ble_eq_true rfl⟩ (by omega) (Nat.le_of_ble_eq_true rfl) (fun r_31 X_31 h_31 => ?_)
      obtain ⟨rfl, rfl⟩ := h_31
      refine r_iald C (cb S c) (gl hkn) hln rfl (Nat.lt_of_le_of_lt (cb_le S c) hS) dX3_leastFrom_34 ?_
      refine r_topi (hn c hlt hb).1 ?_
      refine r_istore C dX3_leastFrom_35 (by decide) ?_
      refine r_iload C dX3_leastFrom_37 rfl ?_
      refine r_aload_n C dX3_leastFrom_39 rfl rfl ?_
      refine gf_RX3_11 C dX3_leastFrom_40 ?_
      refine r_iload_n C dX3_leastFrom_43 rfl rfl ?_
      refine r_bipush (v := 10) C dX3_leastFrom_44 (by decide) ?_
      refine r_imul C dX3_leastFrom_46 ?_
      refine r_iload C dX3_leastFrom_47 rfl ?_
      refine r_iadd C dX3_leastFrom_49 ?_
      refine r_iald C (10 * r + c) (gl (by decide)) rfl (zix r c) (by omega) dX3_leastFrom_50 ?_
      refine r_topi (hs c hlt hb).1 ?_
      refine r_iload C dX3_leastFrom_51 rfl ?_
      refine r_iadd C dX3_leastFrom_53 ?_
      refine r_topi (i32_add _ _) ?_
      refine r_min C lk_RX3_88 (by decide) (Nat.le_of_ble_eq_true rfl) (by omega) dX3_leastFrom_54 ?_
      refine r_topi (i32_min (by omega) (by omega)) ?_
      refine r_istore C dX3_leastFrom_57 (by decide) ?_
      refine r_iinc (v := _) C dX3_leastFrom_59 rfl (nI_1 c) ?_
      refine r_goto (tgt := 9) C dX3_leastFrom_62 (by decide) ?_
      refine r_sub C (lv' := [(5, .int (i32 (rmf m s nx S (c + 1)))), (6, .int (nI (c + 1))), (0, .ref (G.2.1 7)), (1, .int (nI r)), (2, .int (nI m)), (3, .ref (G.2.1 kn)), (4, .int (nI S))]) ⟨by first | rfl | (rw [e]; rfl), rfl, rfl, rfl, rfl, rfl, rfl, trivial⟩ ?_
      exact ih (c + 1) (by omega)

set_option maxHeartbeats 4000000 in
set_option maxRecDepth 100000 in
/-- X3_leastFrom  -/
theorem con_X3_leastFrom (l : Launch) (hfl : l.stackTraces = false) {r m S kn : Nat} {s nx : Nat → Int} {B : Int} (X : St) (hr : r < 10) (hkn : kn < 36) (hln : lay kn = (1, 1024, [])) (hS : S < 1024) (hm : m < 1024) (hB : B ≤ 200000000) (hs : ∀ c, c < 10 → m.testBit c = true → Zv X 8 (10 * r + c) = i32 (s c) ∧ bd 1100000 (s c)) (hn0 : Zv X kn S = i32 (nx S) ∧ bd B (nx S)) (hn : ∀ c, c < 10 → m.testBit c = true → Zv X kn (cb S c) = i32 (nx (cb S c)) ∧ bd B (nx (cb S c))) : Con l yX3_leastFrom cX3_leastFrom 8 (some (FieldType.int)) 1 30 0 (fun G => [.ref (G.2.1 7), .int (nI r), .int (nI m), .ref (G.2.1 kn), .int (nI S)]) X (kI (fun r9 X' => r9 = i32 (rmin m s nx S) ∧ X = X')) kF := by
  refine con_of (lv := fun G => [(0, .ref (G.2.1 7)), (1, .int (nI r)), (2, .int (nI m)), (3, .ref (G.2.1 kn)), (4, .int (nI S))]) hfl (by decide +kernel) (fun _ => rfl) (fun _ => Nat.le_of_ble_eq_true rfl) ?_
  intro G J JX CE
  have C := CE.b
  refine r_aload_n C dX3_leastFrom_0 rfl rfl ?_
  refine r_iload C dX3_leastFrom_1 rfl ?_
  refine r_iald C (S) (gl hkn) hln rfl hS dX3_leastFrom_3 ?_
  refine r_topi hn0.1 ?_
  refine r_istore C dX3_leastFrom_4 (by decide) ?_
  refine r_iconst (v := 0) C dX3_leastFrom_6 (by decide) ?_
  refine r_istore C dX3_leastFrom_7 (by decide) ?_
  refine r_sub C (lv' := [(5, .int (i32 (rmf m s nx S 0))), (6, .int (nI 0)), (0, .ref (G.2.1 7)), (1, .int (nI r)), (2, .int (nI m)), (3, .ref (G.2.1 kn)), (4, .int (nI S))]) ⟨rfl, rfl, rfl, rfl, rfl, rfl, rfl, trivial⟩ ?_
  exact lp_X3_leastFrom hfl hr hkn hln hS hm hB hs hn0 hn CE 10 0 (by omega)
set_option maxHeartbeats 4000000 in
set_option maxRecDepth 100000 in
theorem lp_X3_fillRow {l : Launch} {G : Geo} {J : JT} {JX : JXT} {X : St} (hfl : l.stackTraces = false) {r ch A kn kf : Nat} {s nx : Nat → Int} {B : Int} (hA : Zm X 7 2 = nI A) (hA2 : A < 1024) (hch : ch < 1024) (hr : r < 10) (hkn : kn < 36) (hln : lay kn = (1, 1024, [])) (hkf : kf < 36) (hlf : lay kf = (1, 1024, [])) (hk8 : kf ≠ 8) (hB : B ≤ 200000000) (hs : ∀ c, c < 10 → ch.testBit c = true → Zv X 8 (10 * r + c) = i32 (s c) ∧ bd 1100000 (s c)) (hnx : ∀ S, S < 1024 → cbl A S (r + 1) = true → Zv X kn S = i32 (nx S) ∧ bd B (nx S)) (CE : Cl l RX3 cX3_fillRow 6 none [] G 3 90 0 (kV (fun X' => Yv X kf (fun S => if cbl A S r then i32 (rmin (ch &&& S) s nx S) else Zv X kf S) = X')) kF J JX) :
    ∀ n, n ≤ A + 1 → J (Yv X kf (flr A r (fun S => i32 (rmin (ch &&& S) s nx S)) (Zv X kf) n)) 0 6 [(5, .int (dn n)), (0, .ref (G.2.1 7)), (1, .int (nI r)), (2, .int (nI ch)), (3, .ref (G.2.1 kn)), (4, .ref (G.2.1 kf))] [] := by
  have C := CE.b
  intro n
  induction n with
  | zero =>
    intro h
    refine r_iload C dX3_fillRow_6 rfl ?_
    refine r_if_lt (tgt := 44) C dX3_fillRow_8 (by decide) (fun c_8 => ?_) (fun c_8 => absurd ((by decide)) c_8)
    exact r_vret CE rfl dX3_fillRow_44 (Nat.le_of_ble_eq_true rfl) ⟨rfl, congrArg (Yv X kf) (funext fun S => by unfold flr; by_cases hb : cbl A S r = true <;> simp [hb])⟩
  | succ n ih =>
    intro h
    have hjA : n ≤ A := by omega
    have hold : ∀ S, S ≤ n → Zv (Yv X kf (flr A r (fun S => i32 (rmin (ch &&& S) s nx S)) (Zv X kf) (n + 1))) kn S = Zv X kn S := fun S hS => by
      rw [Zv_Yv]
      by_cases hk : kn = kf
      · rw [if_pos hk, flr_low (by omega), hk]
      · rw [if_neg hk]
    have h8 : ∀ i, Zv (Yv X kf (flr A r (fun S => i32 (rmin (ch &&& S) s nx S)) (Zv X kf) (n + 1))) 8 i = Zv X 8 i := fun i => by rw [Zv_Yv, if_neg (Ne.symm hk8)]
    refine r_iload C dX3_fillRow_6 rfl ?_
    refine r_if_lt (tgt := 44) C dX3_fillRow_8 (by decide) (fun c_8 => absurd c_8 ((nI_pos (by omega)))) (fun c_8 => ?_)
    refine r_aload_n C dX3_fillRow_11 rfl rfl ?_
    refine r_iload C dX3_fillRow_12 rfl ?_
    refine r_iload_n C dX3_fillRow_14 rfl rfl ?_
    refine cl_RX3_68 C (con_X3_canBeLeft l hfl _ hA hA2 (by omega) (by omega)) dX3_fillRow_15 rfl ⟨Nat.le_of_ble_eq_true rfl, Nat.le_of_ble_eq_true rfl⟩ (by omega) (Nat.le_of_ble_eq_true rfl) (fun r_15 X_15 h_15 => ?_)
    obtain ⟨rfl, rfl⟩ := h_15
    refine r_if_eq (tgt := 38) C dX3_fillRow_18 (by decide) (fun c_18 => ?_) (fun c_18 => ?_)
    · -- 38
      have hcb := bI_0 c_18
      refine r_st (show _ = (Yv X kf (flr A r (fun S => i32 (rmin (ch &&& S) s nx S)) (Zv X kf) n)) from congrArg (Yv X kf) (flr_skip hcb)) ?_
      refine r_iinc (v := _) C dX3_fillRow_38 rfl (dn_step n) ?_
      refine r_goto (tgt := 6) C dX3_fillRow_41 (by decide) ?_
      refine r_sub C (lv' := [(5, .int (dn n)), (0, .ref (G.2.1 7)), (1, .int (nI r)), (2, .int (nI ch)), (3, .ref (G.2.1 kn)), (4, .ref (G.2.1 kf))]) ⟨rfl, rfl, rfl, rfl, rfl, rfl, trivial⟩ ?_
      exact ih (by omega)
    · -- 21
      have hcb := bI_1 c_18
      refine r_aload C dX3_fillRow_21 rfl ?_
      refine r_iload C dX3_fillRow_23 rfl ?_
      refine r_aload_n C dX3_fillRow_25 rfl rfl ?_
      refine r_iload_n C dX3_fillRow_26 rfl rfl ?_
      refine r_iload_n C dX3_fillRow_27 rfl rfl ?_
      refine r_iload C dX3_fillRow_28 rfl ?_
      refine r_iand C dX3_fillRow_30 ?_
      refine r_topi (zand ch n) ?_
      refine r_aload_n C dX3_fillRow_31 rfl rfl ?_
      refine r_iload C dX3_fillRow_32 rfl ?_
      refine cl_RX3_72 C (con_X3_leastFrom l hfl _ (r := r) (m := ch &&& n) (S := n) (kn := kn) (s := s) (nx := nx) (B := B) hr hkn hln (by omega) (Nat.lt_of_le_of_lt Nat.and_le_left hch) hB (fun c h1 h2 => by rw [h8]; exact hs c h1 (by rw [Nat.testBit_and] at h2; simp at h2; exact h2.1)) (by rw [hold n (Nat.le_refl n)]; exact hnx n (by omega) (cbl_mono hcb)) (fun c h1 h2 => by rw [hold _ (cb_le n c)]; exact hnx _ (Nat.lt_of_le_of_lt (cb_le n c) (by omega)) (cbl_cb h1 hcb (by rw [Nat.testBit_and] at h2; simp at h2; exact h2.2)))) dX3_fillRow_34 rfl ⟨Nat.le_of_ble_eq_true rfl, Nat.le_of_ble_eq_true rfl⟩ (by omega) (Nat.le_of_ble_eq_true rfl) (fun r_34 X_34 h_34 => ?_)
      obtain ⟨rfl, rfl⟩ := h_34
      refine r_iast C (n) (gl hkf) hlf rfl (by omega) dX3_fillRow_37 ?_
      refine r_st (show _ = (Yv X kf (flr A r (fun S => i32 (rmin (ch &&& S) s nx S)) (Zv X kf) n)) by rw [Zv_Yv, if_pos rfl, Yv_Yv]; exact congrArg (Yv X kf) (flr_put (V := (fun S => i32 (rmin (ch &&& S) s nx S))) hcb)) ?_
      refine r_iinc (v := _) C dX3_fillRow_38 rfl (dn_step n) ?_
      refine r_goto (tgt := 6) C dX3_fillRow_41 (by decide) ?_
      refine r_sub C (lv' := [(5, .int (dn n)), (0, .ref (G.2.1 7)), (1, .int (nI r)), (2, .int (nI ch)), (3, .ref (G.2.1 kn)), (4, .ref (G.2.1 kf))]) ⟨rfl, rfl, rfl, rfl, rfl, rfl, trivial⟩ ?_
      exact ih (by omega)

set_option maxHeartbeats 4000000 in
set_option maxRecDepth 100000 in
/-- X3_fillRow  -/
theorem con_X3_fillRow (l : Launch) (hfl : l.stackTraces = false) {r ch A kn kf : Nat} {s nx : Nat → Int} {B : Int} (X : St) (hA : Zm X 7 2 = nI A) (hA2 : A < 1024) (hch : ch < 1024) (hr : r < 10) (hkn : kn < 36) (hln : lay kn = (1, 1024, [])) (hkf : kf < 36) (hlf : lay kf = (1, 1024, [])) (hk8 : kf ≠ 8) (hB : B ≤ 200000000) (hs : ∀ c, c < 10 → ch.testBit c = true → Zv X 8 (10 * r + c) = i32 (s c) ∧ bd 1100000 (s c)) (hnx : ∀ S, S < 1024 → cbl A S (r + 1) = true → Zv X kn S = i32 (nx S) ∧ bd B (nx S)) : Con l yX3_fillRow cX3_fillRow 6 none 3 90 0 (fun G => [.ref (G.2.1 7), .int (nI r), .int (nI ch), .ref (G.2.1 kn), .ref (G.2.1 kf)]) X (kV (fun X' => Yv X kf (fun S => if cbl A S r then i32 (rmin (ch &&& S) s nx S) else Zv X kf S) = X')) kF := by
  refine con_of (lv := fun G => [(0, .ref (G.2.1 7)), (1, .int (nI r)), (2, .int (nI ch)), (3, .ref (G.2.1 kn)), (4, .ref (G.2.1 kf))]) hfl (by decide +kernel) (fun _ => rfl) (fun _ => Nat.le_of_ble_eq_true rfl) ?_
  intro G J JX CE
  have C := CE.b
  refine r_aload_n C dX3_fillRow_0 rfl rfl ?_
  refine gf_RX3_46 C dX3_fillRow_1 ?_
  refine r_topi hA ?_
  refine r_istore C dX3_fillRow_4 (by decide) ?_
  refine r_sub C (lv' := [(5, .int (dn (A + 1))), (0, .ref (G.2.1 7)), (1, .int (nI r)), (2, .int (nI ch)), (3, .ref (G.2.1 kn)), (4, .ref (G.2.1 kf))]) ⟨rfl, rfl, rfl, rfl, rfl, rfl, trivial⟩ ?_
  refine r_st (show X = (Yv X kf (flr A r (fun S => i32 (rmin (ch &&& S) s nx S)) (Zv X kf) (A + 1))) by rw [flr_top, Yv_id]) ?_
  exact lp_X3_fillRow hfl hA hA2 hch hr hkn hln hkf hlf hk8 hB hs hnx CE (A + 1) (Nat.le_refl _)
