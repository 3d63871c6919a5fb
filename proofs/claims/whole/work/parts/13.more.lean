theorem csf_ok {z : Int} (hz : -1000000000 ≤ z ∧ z ≤ 1000000000) : ok32 (csf z) := by
  have h : szf z * 1000000 = (500000 - z) - (500000 - z).tmod 1000000 := by
    unfold szf
    have := Int.tmod_add_mul_tdiv (500000 - z) 1000000
    omega
  have h1 := tmod_bounds (a := 500000 - z) (M := 1000000) (by omega)
  unfold csf
  rw [h]
  omega
set_option maxHeartbeats 4000000 in
set_option maxRecDepth 100000 in
theorem lp_X3_extraCostOfSupposed {l : Launch} {G : Geo} {J : JT} {JX : JXT} {X : St} (hfl : l.stackTraces = false) {r0 ra ca : Nat} {z g : Nat → Int} (hV : SvK X ra ca z) (hr : r0 < 10) (hg : ∀ S, S < 1024 → cbl ca S r0 = true → Zv X 10 S = i32 (g S) ∧ bd 110000000 (g S)) (CE : Cl l RX3 cX3_extraCostOfSupposed 3 (some .int) [] G 4 120 0 (kI (fun r9 X' => r9 = i32 (xco (Up ra ca z g r0 r0 ca) (Ls ra ca z 10 ca)) ∧ ∃ f, Yv X 10 f = X')) kF J JX) :
    ∀ n (f : Nat → Int32), n ≤ r0 → (∀ S, S < 1024 → cbl ca S n = true → f S = i32 (Up ra ca z g r0 (r0 - n) S)) → J (Yv X 10 f) 0 4 [(2, .int (dn n)), (0, .ref (G.2.1 7)), (1, .int (nI r0))] [] := by
  have C := CE.b
  intro n
  induction n with
  | zero =>
    intro f h hf
    have hca := hV.1.2.2.2.2.1
    have b1 := Up_bd (ra := ra) (ca := ca) hV.1.2.2.2.2.2 (by omega) (fun S h1 h2 => (hg S h1 h2).2) hca r0 ca (Nat.le_refl _) hca (cbl_self ca _)
    have b2 := Ls_bd (ra := ra) (ca := ca) hV.1.2.2.2.2.2 10 ca (by omega)
    refine r_iload_n C dX3_extraCostOfSupposed_4 rfl rfl ?_
    refine r_if_lt (tgt := 33) C dX3_extraCostOfSupposed_5 (by decide) (fun c_5 => ?_) (fun c_5 => absurd ((by decide)) c_5)
    refine r_aload_n C dX3_extraCostOfSupposed_33 rfl rfl ?_
    refine gf_RX3_23 C dX3_extraCostOfSupposed_34 ?_
    refine r_aload_n C dX3_extraCostOfSupposed_37 rfl rfl ?_
    refine gf_RX3_46 C dX3_extraCostOfSupposed_38 ?_
    refine r_topi hV.1.1 ?_
    refine r_iald C (ca) (by decide) rfl rfl hca dX3_extraCostOfSupposed_41 ?_
    refine r_topi (show _ = i32 (Up ra ca z g r0 r0 ca) from hf ca hca (cbl_self ca 0)) ?_
    refine r_istore_n C dX3_extraCostOfSupposed_42 rfl (by decide) ?_
    refine r_iload_n C dX3_extraCostOfSupposed_43 rfl rfl ?_
    refine cl_RX3_34 C (con_X3_sizeOf l hfl _ (by omega)) dX3_extraCostOfSupposed_44 rfl ⟨Nat.le_of_ble_eq_true rfl, Nat.le_of_ble_eq_true rfl⟩ (by omega) (Nat.le_of_ble_eq_true rfl) (fun r_44 X_44 h_44 => ?_)
    obtain ⟨rfl, rfl⟩ := h_44
    refine r_aload_n C dX3_extraCostOfSupposed_47 rfl rfl ?_
    refine gf_RX3_50 C dX3_extraCostOfSupposed_48 ?_
    refine r_topi hV.2.1 ?_
    refine cl_RX3_34 C (con_X3_sizeOf l hfl _ (by omega)) dX3_extraCostOfSupposed_51 rfl ⟨Nat.le_of_ble_eq_true rfl, Nat.le_of_ble_eq_true rfl⟩ (by omega) (Nat.le_of_ble_eq_true rfl) (fun r_51 X_51 h_51 => ?_)
    obtain ⟨rfl, rfl⟩ := h_51
    refine r_icmp_ne (tgt := 66) C dX3_extraCostOfSupposed_54 (by decide) (fun c_54 => ?_) (fun c_54 => ?_)
    · -- 66
      have hx : ¬ szf (Up ra ca z g r0 r0 ca) = szf (Ls ra ca z 10 ca) := fun q => c_54 (by rw [q])
      refine r_iconst (v := (-1)) C dX3_extraCostOfSupposed_66 (by decide) ?_
      exact r_iret CE rfl rfl dX3_extraCostOfSupposed_67 (Nat.le_of_ble_eq_true rfl) ⟨_, rfl, by first | (unfold xco; rw [if_pos hx]; done) | (unfold xco; rw [if_neg hx]; rfl), f, rfl⟩
    · -- 57
      have hx := (i32_eq (szf_ok (by omega)) (szf_ok (by omega))).mp c_54
      refine r_iload_n C dX3_extraCostOfSupposed_57 rfl rfl ?_
      refine r_aload_n C dX3_extraCostOfSupposed_58 rfl rfl ?_
      refine gf_RX3_50 C dX3_extraCostOfSupposed_59 ?_
      refine r_topi hV.2.1 ?_
      refine r_isub C dX3_extraCostOfSupposed_62 ?_
      refine r_topi (i32_sub _ _) ?_
      refine r_goto (tgt := 67) C dX3_extraCostOfSupposed_63 (by decide) ?_
      exact r_iret CE rfl rfl dX3_extraCostOfSupposed_67 (Nat.le_of_ble_eq_true rfl) ⟨_, rfl, by first | (unfold xco; rw [if_pos hx]; done) | (unfold xco; rw [if_neg hx]; rfl), f, rfl⟩
  | succ n ih =>
    intro f h hf
    have hca := hV.1.2.2.2.2.1
    have hnx : ∀ S, S < 1024 → cbl ca S (n + 1) = true → Zv (Yv X 10 f) 10 S = i32 (Up ra ca z g r0 (r0 - (n + 1)) S) ∧ bd 200000000 (Up ra ca z g r0 (r0 - (n + 1)) S) := fun S h1 h2 => by
      have b1 := Up_bd (ra := ra) (ca := ca) hV.1.2.2.2.2.2 (by omega) (fun S h1 h2 => (hg S h1 h2).2) hca (r0 - (n + 1)) S (by omega) h1 (by rw [show r0 - (r0 - (n + 1)) = n + 1 by omega]; exact h2)
      exact ⟨hf S h1 h2, by omega⟩
    refine r_iload_n C dX3_extraCostOfSupposed_4 rfl rfl ?_
    refine r_if_lt (tgt := 33) C dX3_extraCostOfSupposed_5 (by decide) (fun c_5 => absurd c_5 ((nI_pos (by omega)))) (fun c_5 => ?_)
    refine r_aload_n C dX3_extraCostOfSupposed_8 rfl rfl ?_
    refine r_iload_n C dX3_extraCostOfSupposed_9 rfl rfl ?_
    refine r_aload_n C dX3_extraCostOfSupposed_10 rfl rfl ?_
    refine gf_RX3_15 C dX3_extraCostOfSupposed_11 ?_
    refine r_iload_n C dX3_extraCostOfSupposed_14 rfl rfl ?_
    refine r_iald C (n) (by decide) rfl rfl (by omega) dX3_extraCostOfSupposed_15 ?_
    refine r_topi (hV.1.2.1 n (by omega)) ?_
    refine r_aload_n C dX3_extraCostOfSupposed_16 rfl rfl ?_
    refine gf_RX3_23 C dX3_extraCostOfSupposed_17 ?_
    refine r_aload_n C dX3_extraCostOfSupposed_20 rfl rfl ?_
    refine gf_RX3_23 C dX3_extraCostOfSupposed_21 ?_
    refine cl_RX3_42 C (con_X3_fillRow l hfl _ (r := n) (ch := us ra ca z n) (A := ca) (kn := 10) (kf := 10) (s := sc z n) (nx := Up ra ca z g r0 (r0 - (n + 1))) hV.1.1 hca (us_lt _ _ _ _) (by omega) (by decide) rfl (by decide) rfl (by decide) (Int.le_refl _) (fun c hc _ => ⟨hV.1.2.2.1 n c (by omega) hc, sc_bd hV.1.2.2.2.2.2 (by omega) hc⟩) hnx) dX3_extraCostOfSupposed_24 rfl ⟨Nat.le_of_ble_eq_true rfl, Nat.le_of_ble_eq_true rfl⟩ (by omega) (Nat.le_of_ble_eq_true rfl) (fun X_24 h_24 => ?_)
    subst h_24
    refine r_st (Yv_Yv X 10 f _) ?_
    refine r_iinc (v := _) C dX3_extraCostOfSupposed_27 rfl (dn_step n) ?_
    refine r_goto (tgt := 4) C dX3_extraCostOfSupposed_30 (by decide) ?_
    refine r_sub C (lv' := [(2, .int (dn n)), (0, .ref (G.2.1 7)), (1, .int (nI r0))]) ⟨rfl, rfl, rfl, trivial⟩ ?_
    refine ih _ (by omega) (fun S h1 h2 => ?_)
    rw [if_pos h2, show r0 - n = (r0 - (n + 1)) + 1 by omega, Up, show r0 - ((r0 - (n + 1)) + 1) = n by omega]

set_option maxHeartbeats 4000000 in
set_option maxRecDepth 100000 in
/-- X3_extraCostOfSupposed  -/
theorem con_X3_extraCostOfSupposed (l : Launch) (hfl : l.stackTraces = false) {r0 ra ca : Nat} {z g : Nat → Int} (X : St) (hV : SvK X ra ca z) (hr : r0 < 10) (hg : ∀ S, S < 1024 → cbl ca S r0 = true → Zv X 10 S = i32 (g S) ∧ bd 110000000 (g S)) : Con l yX3_extraCostOfSupposed cX3_extraCostOfSupposed 3 (some (FieldType.int)) 4 120 0 (fun G => [.ref (G.2.1 7), .int (nI r0)]) X (kI (fun r9 X' => r9 = i32 (xco (Up ra ca z g r0 r0 ca) (Ls ra ca z 10 ca)) ∧ ∃ f, Yv X 10 f = X')) kF := by
  refine con_of (lv := fun G => [(0, .ref (G.2.1 7)), (1, .int (nI r0))]) hfl (by decide +kernel) (fun _ => rfl) (fun _ => Nat.le_of_ble_eq_true rfl) ?_
  intro G J JX CE
  have C := CE.b
  refine r_iload_n C dX3_extraCostOfSupposed_0 rfl rfl ?_
  refine r_iconst (v := 1) C dX3_extraCostOfSupposed_1 (by decide) ?_
  refine r_isub C dX3_extraCostOfSupposed_2 ?_
  refine r_topi (show nI r0 - 1 = dn r0 by cases r0 with | zero => decide | succ q => exact nI_pred q) ?_
  refine r_istore_n C dX3_extraCostOfSupposed_3 rfl (by decide) ?_
  refine r_sub C (lv' := [(2, .int (dn r0)), (0, .ref (G.2.1 7)), (1, .int (nI r0))]) ⟨rfl, rfl, rfl, trivial⟩ ?_
  refine r_st (Yv_id X 10).symm ?_
  exact lp_X3_extraCostOfSupposed hfl hV hr hg CE r0 _ (Nat.le_refl _) (fun S h1 h2 => by rw [Nat.sub_self]; exact (hg S h1 h2).1)
/-- row r with no column or one of m -/
def gWo (ra ca : Nat) (z : Nat → Int) (r m : Nat) : Nat → Int := fun S => rmin (m &&& S) (sc z r) (Ls ra ca z (9 - r)) S
/-- row r with column c alone -/
def gWi (ra ca : Nat) (z : Nat → Int) (r c : Nat) : Nat → Int := fun S => if S.testBit c then sc z r c + Ls ra ca z (9 - r) (cb S c) else 100000000
theorem SvK.put {X : St} {ra ca : Nat} {z : Nat → Int} (h : SvK X ra ca z) {k : Nat} (f : Nat → Int32) (h1 : k = 10 ∨ k = 11) : SvK (Yv X k f) ra ca z :=
  ⟨h.1.put f (by omega) (by omega) (by omega), h.2.1, fun r hr => by rw [Zv_Yv, if_neg (by omega)]; exact h.2.2 r hr⟩
set_option maxHeartbeats 4000000 in
set_option maxRecDepth 100000 in
/-- X3_extraCostWithout  -/
theorem con_X3_extraCostWithout (l : Launch) (hfl : l.stackTraces = false) {r c ra ca : Nat} {z : Nat → Int} (X : St) (hV : SvK X ra ca z) (hr : r < 10) (hc : c < 10) : Con l yX3_extraCostWithout cX3_extraCostWithout 3 (some (FieldType.int)) 5 150 0 (fun G => [.ref (G.2.1 7), .int (nI r), .int (nI c)]) X (kI (fun r9 X' => r9 = i32 (xco (Up ra ca z (gWo ra ca z r (cb (us ra ca z r) c)) r r ca) (Ls ra ca z 10 ca)) ∧ ∃ f, Yv X 10 f = X')) kF := by
  refine con_of (lv := fun G => [(0, .ref (G.2.1 7)), (1, .int (nI r)), (2, .int (nI c))]) hfl (by decide +kernel) (fun _ => rfl) (fun _ => Nat.le_of_ble_eq_true rfl) ?_
  intro G J JX CE
  have C := CE.b
  have hz := hV.1.2.2.2.2.2
  have hL : ∀ S, bd 110000000 (Ls ra ca z (9 - r) S) := fun S => by have := Ls_bd (ra := ra) (ca := ca) hz (9 - r) S (by omega); omega
  have hnx : ∀ S, S < 1024 → cbl ca S (r + 1) = true → Zv X (14 + (r + 1)) S = i32 (Ls ra ca z (9 - r) S) ∧ bd 11000000 (Ls ra ca z (9 - r) S) := fun S h1 h2 => by
    have := Ls_bd (ra := ra) (ca := ca) hz (9 - r) S (by omega)
    have e := hV.1.2.2.2.1 (r + 1) S (Nat.zero_le _) (by omega) h1 h2
    rw [show 10 - (r + 1) = 9 - r by omega] at e
    exact ⟨e, by omega⟩
  have hgb : ∀ S, bd 110000000 (gWo ra ca z r (cb (us ra ca z r) c) S) := fun S => by
    have := rmf_bd (m := cb (us ra ca z r) c &&& S) (s := sc z r) (nx := Ls ra ca z (9 - r)) (S := S) (B := 11000000) (by have := Ls_bd (ra := ra) (ca := ca) hz (9 - r) S (by omega); omega) (fun c hc _ => ⟨sc_bd hz hr hc, by have := Ls_bd (ra := ra) (ca := ca) hz (9 - r) (cb S c) (by omega); omega⟩) 10 (Nat.le_refl _)
    have e : gWo ra ca z r (cb (us ra ca z r) c) S = rmf (cb (us ra ca z r) c &&& S) (sc z r) (Ls ra ca z (9 - r)) S 10 := rfl
    rw [e]
    omega
  refine r_aload_n C dX3_extraCostWithout_0 rfl rfl ?_
  refine r_iload_n C dX3_extraCostWithout_1 rfl rfl ?_
  refine r_aload_n C dX3_extraCostWithout_2 rfl rfl ?_
  refine gf_RX3_15 C dX3_extraCostWithout_3 ?_
  refine r_iload_n C dX3_extraCostWithout_6 rfl rfl ?_
  refine r_iald C (r) (by decide) rfl rfl hr dX3_extraCostWithout_7 ?_
  refine r_topi (hV.1.2.1 r hr) ?_
  refine r_iload_n C dX3_extraCostWithout_8 rfl rfl ?_
  refine r_iconst (v := 0) C dX3_extraCostWithout_9 (by decide) ?_
  refine cl_RX3_84 C (con_withBit0 l hfl _ (by omega)) dX3_extraCostWithout_10 rfl ⟨Nat.le_of_ble_eq_true rfl, Nat.le_of_ble_eq_true rfl⟩ (by omega) (Nat.le_of_ble_eq_true rfl) (fun r_10 X_10 h_10 => ?_)
  obtain ⟨rfl, rfl⟩ := h_10
  refine r_aload_n C dX3_extraCostWithout_13 rfl rfl ?_
  refine gf_RX3_20 C dX3_extraCostWithout_14 ?_
  refine r_iload_n C dX3_extraCostWithout_17 rfl rfl ?_
  refine r_iconst (v := 1) C dX3_extraCostWithout_18 (by decide) ?_
  refine r_iadd C dX3_extraCostWithout_19 ?_
  refine r_aald C (r + 1) (by decide) rfl (nI_1 r) (by omega) dX3_extraCostWithout_20 ?_
  refine r_aload_n C dX3_extraCostWithout_21 rfl rfl ?_
  refine gf_RX3_23 C dX3_extraCostWithout_22 ?_
  refine cl_RX3_42 C (con_X3_fillRow l hfl _ (r := r) (ch := cb (us ra ca z r) c) (A := ca) (kn := 14 + (r + 1)) (kf := 10) (s := sc z r) (nx := Ls ra ca z (9 - r)) hV.1.1 hV.1.2.2.2.2.1 (Nat.lt_of_le_of_lt (cb_le _ _) (us_lt _ _ _ _)) hr (by omega) (lay14 (by omega)) (by decide) rfl (by decide) (by decide) (fun c hc _ => ⟨hV.1.2.2.1 r c hr hc, sc_bd hz hr hc⟩) hnx) dX3_extraCostWithout_25 rfl ⟨Nat.le_of_ble_eq_true rfl, Nat.le_of_ble_eq_true rfl⟩ (by omega) (Nat.le_of_ble_eq_true rfl) (fun X_25 h_25 => ?_)
  subst h_25
  refine r_aload_n C dX3_extraCostWithout_28 rfl rfl ?_
  refine r_iload_n C dX3_extraCostWithout_29 rfl rfl ?_
  refine cl_RX3_111 C (con_X3_extraCostOfSupposed l hfl _ (r0 := r) (g := gWo ra ca z r (cb (us ra ca z r) c)) (hV.put _ (Or.inl rfl)) hr (fun S h1 h2 => ⟨by rw [Zv_Yv, if_pos rfl, if_pos h2]; rfl, hgb S⟩)) dX3_extraCostWithout_30 rfl ⟨Nat.le_of_ble_eq_true rfl, Nat.le_of_ble_eq_true rfl⟩ (by omega) (Nat.le_of_ble_eq_true rfl) (fun r_30 X_30 h_30 => ?_)
  obtain ⟨rfl, f9, rfl⟩ := h_30
  exact r_iret CE rfl rfl dX3_extraCostWithout_33 (Nat.le_of_ble_eq_true rfl) ⟨_, rfl, rfl, f9, (Yv_Yv X 10 _ f9).symm⟩
set_option maxHeartbeats 4000000 in
set_option maxRecDepth 100000 in
theorem lp_X3_extraCostWith {l : Launch} {G : Geo} {J : JT} {JX : JXT} {X : St} (hfl : l.stackTraces = false) {r c ra ca : Nat} {z : Nat → Int} (hV : SvK X ra ca z) (hr : r < 10) (hc : c < 10) (CE : Cl l RX3 cX3_extraCostWith 5 (some .int) [] G 5 150 0 (kI (fun r9 X' => r9 = i32 (xco (Up ra ca z (gWi ra ca z r c) r r ca) (Ls ra ca z 10 ca)) ∧ ∃ f, Yv X 10 f = X')) kF J JX) :
    ∀ n (f : Nat → Int32), n ≤ ca + 1 → (∀ S, n ≤ S → S < 1024 → cbl ca S r = true → f S = i32 (gWi ra ca z r c S)) → J (Yv X 10 f) 0 5 [(3, .int (dn n)), (0, .ref (G.2.1 7)), (1, .int (nI r)), (2, .int (nI c))] [] := by
  have C := CE.b
  intro n
  induction n with
  | zero =>
    intro f h hf
    have hz := hV.1.2.2.2.2.2
    have hgb : ∀ S, bd 110000000 (gWi ra ca z r c S) := fun S => by
      have h1 := Ls_bd (ra := ra) (ca := ca) hz (9 - r) (cb S c) (by omega)
      have h2 := sc_bd hz hr hc
      unfold gWi
      split <;> omega
    refine r_iload_n C dX3_extraCostWith_5 rfl rfl ?_
    refine r_if_lt (tgt := 77) C dX3_extraCostWith_6 (by decide) (fun c_6 => ?_) (fun c_6 => absurd ((by decide)) c_6)
    refine r_aload_n C dX3_extraCostWith_77 rfl rfl ?_
    refine r_iload_n C dX3_extraCostWith_78 rfl rfl ?_
    refine cl_RX3_111 C (con_X3_extraCostOfSupposed l hfl _ (r0 := r) (g := gWi ra ca z r c) (hV.put f (Or.inl rfl)) hr (fun S h1 h2 => ⟨hf S (Nat.zero_le _) h1 h2, hgb S⟩)) dX3_extraCostWith_79 rfl ⟨Nat.le_of_ble_eq_true rfl, Nat.le_of_ble_eq_true rfl⟩ (by omega) (Nat.le_of_ble_eq_true rfl) (fun r_79 X_79 h_79 => ?_)
    obtain ⟨rfl, f9, rfl⟩ := h_79
    exact r_iret CE rfl rfl dX3_extraCostWith_82 (Nat.le_of_ble_eq_true rfl) ⟨_, rfl, rfl, f9, (Yv_Yv X 10 f f9).symm⟩
  | succ n ih =>
    intro f h hf
    have hz := hV.1.2.2.2.2.2
    have hca := hV.1.2.2.2.2.1
    have h1 := Ls_bd (ra := ra) (ca := ca) hz (9 - r) (cb n c) (by omega)
    have h2 := sc_bd hz hr hc
    refine r_iload_n C dX3_extraCostWith_5 rfl rfl ?_
    refine r_if_lt (tgt := 77) C dX3_extraCostWith_6 (by decide) (fun c_6 => absurd c_6 ((nI_pos (by omega)))) (fun c_6 => ?_)
    refine r_aload_n C dX3_extraCostWith_9 rfl rfl ?_
    refine gf_RX3_23 C dX3_extraCostWith_10 ?_
    refine r_iload_n C dX3_extraCostWith_13 rfl rfl ?_
    refine r_ldc C dX3_extraCostWith_14 nk_RX3_110 ?_
    refine r_topi k100000000 ?_
    refine r_iast C (n) (by decide) rfl rfl (by omega) dX3_extraCostWith_16 ?_
    refine r_st (Yv_Yv X 10 f _) ?_
    refine r_aload_n C dX3_extraCostWith_17 rfl rfl ?_
    refine r_iload_n C dX3_extraCostWith_18 rfl rfl ?_
    refine r_iload_n C dX3_extraCostWith_19 rfl rfl ?_
    refine cl_RX3_68 C (con_X3_canBeLeft l hfl _ hV.1.1 hca (by omega) (by omega)) dX3_extraCostWith_20 rfl ⟨Nat.le_of_ble_eq_true rfl, Nat.le_of_ble_eq_true rfl⟩ (by omega) (Nat.le_of_ble_eq_true rfl) (fun r_20 X_20 h_20 => ?_)
    obtain ⟨rfl, rfl⟩ := h_20
    refine r_if_eq (tgt := 71) C dX3_extraCostWith_23 (by decide) (fun c_23 => ?_) (fun c_23 => ?_)
    · -- 71
      have hcb := bI_0 c_23
      have hnew : ∀ S, n ≤ S → S < 1024 → cbl ca S r = true → upd (Zv (Yv X 10 f) 10) n (i32 100000000) S = i32 (gWi ra ca z r c S) := fun S g1 g2 g3 => by
        have e : S ≠ n := fun e => by rw [e, hcb] at g3; cases g3
        unfold upd
        rw [if_neg e]
        exact hf S (by omega) g2 g3
      refine r_iinc (v := _) C dX3_extraCostWith_71 rfl (dn_step n) ?_
      refine r_goto (tgt := 5) C dX3_extraCostWith_74 (by decide) ?_
      refine r_sub C (lv' := [(3, .int (dn n)), (0, .ref (G.2.1 7)), (1, .int (nI r)), (2, .int (nI c))]) ⟨rfl, rfl, rfl, rfl, trivial⟩ ?_
      exact ih _ (by omega) hnew
    · -- 26
      have hcb := bI_1 c_23
      refine r_iload_n C dX3_extraCostWith_26 rfl rfl ?_
      refine r_iload_n C dX3_extraCostWith_27 rfl rfl ?_
      refine cl_RX3_81 C (con_X5_hasBit l hfl _ (by omega) (by omega)) dX3_extraCostWith_28 rfl ⟨Nat.le_of_ble_eq_true rfl, Nat.le_of_ble_eq_true rfl⟩ (by omega) (Nat.le_of_ble_eq_true rfl) (fun r_28 X_28 h_28 => ?_)
      obtain ⟨rfl, rfl⟩ := h_28
      refine r_if_eq (tgt := 71) C dX3_extraCostWith_31 (by decide) (fun c_31 => ?_) (fun c_31 => ?_)
      · -- 71
        have hbit := bI_0 c_31
        have hnew : ∀ S, n ≤ S → S < 1024 → cbl ca S r = true → upd (Zv (Yv X 10 f) 10) n (i32 100000000) S = i32 (gWi ra ca z r c S) := fun S g1 g2 g3 => by
          unfold upd
          by_cases e : S = n
          · rw [if_pos e, e]
            unfold gWi
            rw [hbit]
            rfl
          · rw [if_neg e]
            exact hf S (by omega) g2 g3
        refine r_iinc (v := _) C dX3_extraCostWith_71 rfl (dn_step n) ?_
        refine r_goto (tgt := 5) C dX3_extraCostWith_74 (by decide) ?_
        refine r_sub C (lv' := [(3, .int (dn n)), (0, .ref (G.2.1 7)), (1, .int (nI r)), (2, .int (nI c))]) ⟨rfl, rfl, rfl, rfl, trivial⟩ ?_
        exact ih _ (by omega) hnew
      · -- 34
        have hbit := bI_1 c_31
        have hcb2 := cbl_cb hc hcb hbit
        refine r_aload_n C dX3_extraCostWith_34 rfl rfl ?_
        refine gf_RX3_20 C dX3_extraCostWith_35 ?_
        refine r_iload_n C dX3_extraCostWith_38 rfl rfl ?_
        refine r_iconst (v := 1) C dX3_extraCostWith_39 (by decide) ?_
        refine r_iadd C dX3_extraCostWith_40 ?_
        refine r_aald C (r + 1) (by decide) rfl (nI_1 r) (by omega) dX3_extraCostWith_41 ?_
        refine r_iload_n C dX3_extraCostWith_42 rfl rfl ?_
        refine r_iload_n C dX3_extraCostWith_43 rfl rfl ?_
        refine r_iconst (v := 0) C dX3_extraCostWith_44 (by decide) ?_
        refine cl_RX3_84 C (con_withBit0 l hfl _ (by omega)) dX3_extraCostWith_45 rfl ⟨Nat.le_of_ble_eq_true rfl, Nat.le_of_ble_eq_true rfl⟩ (by omega) (Nat.le_of_ble_eq_true rfl) (fun r_45 X_45 h_45 => ?_)
        obtain ⟨rfl, rfl⟩ := h_45
        refine r_iald C (cb n c) (by omega) (lay14 (by omega)) rfl (Nat.lt_of_le_of_lt (cb_le n c) (by omega)) dX3_extraCostWith_48 ?_
        refine r_topi (show _ = i32 (Ls ra ca z (9 - r) (cb n c)) by rw [Zv_Yv, if_neg (by omega), hV.1.2.2.2.1 (r + 1) _ (Nat.zero_le _) (by omega) (Nat.lt_of_le_of_lt (cb_le n c) (by omega)) hcb2, show 10 - (r + 1) = 9 - r by omega]) ?_
        refine r_istore C dX3_extraCostWith_49 (by decide) ?_
        refine r_aload_n C dX3_extraCostWith_51 rfl rfl ?_
        refine gf_RX3_23 C dX3_extraCostWith_52 ?_
        refine r_iload_n C dX3_extraCostWith_55 rfl rfl ?_
        refine r_aload_n C dX3_extraCostWith_56 rfl rfl ?_
        refine gf_RX3_11 C dX3_extraCostWith_57 ?_
        refine r_iload_n C dX3_extraCostWith_60 rfl rfl ?_
        refine r_bipush (v := 10) C dX3_extraCostWith_61 (by decide) ?_
        refine r_imul C dX3_extraCostWith_63 ?_
        refine r_iload_n C dX3_extraCostWith_64 rfl rfl ?_
        refine r_iadd C dX3_extraCostWith_65 ?_
        refine r_iald C (10 * r + c) (by decide) rfl (zix r c) (by omega) dX3_extraCostWith_66 ?_
        refine r_topi (show _ = i32 (sc z r c) from hV.1.2.2.1 r c hr hc) ?_
        refine r_iload C dX3_extraCostWith_67 rfl ?_
        refine r_iadd C dX3_extraCostWith_69 ?_
        refine r_topi (i32_add _ _) ?_
        refine r_iast C (n) (by decide) rfl rfl (by omega) dX3_extraCostWith_70 ?_
        refine r_st (Yv_Yv X 10 _ _) ?_
        have hnew : ∀ S, n ≤ S → S < 1024 → cbl ca S r = true → upd (Zv (Yv X 10 (upd (Zv (Yv X 10 f) 10) n (i32 100000000))) 10) n (i32 (sc z r c + Ls ra ca z (9 - r) (cb n c))) S = i32 (gWi ra ca z r c S) := fun S g1 g2 g3 => by
          unfold upd
          by_cases e : S = n
          · rw [if_pos e, e]
            unfold gWi
            rw [hbit]
            rfl
          · rw [if_neg e, Zv_Yv, if_pos rfl, if_neg e]
            exact hf S (by omega) g2 g3
        refine r_iinc (v := _) C dX3_extraCostWith_71 rfl (dn_step n) ?_
        refine r_goto (tgt := 5) C dX3_extraCostWith_74 (by decide) ?_
        refine r_sub C (lv' := [(3, .int (dn n)), (0, .ref (G.2.1 7)), (1, .int (nI r)), (2, .int (nI c))]) ⟨rfl, rfl, rfl, rfl, trivial⟩ ?_
        exact ih _ (by omega) hnew

set_option maxHeartbeats 4000000 in
set_option maxRecDepth 100000 in
/-- X3_extraCostWith  -/
theorem con_X3_extraCostWith (l : Launch) (hfl : l.stackTraces = false) {r c ra ca : Nat} {z : Nat → Int} (X : St) (hV : SvK X ra ca z) (hr : r < 10) (hc : c < 10) : Con l yX3_extraCostWith cX3_extraCostWith 5 (some (FieldType.int)) 5 150 0 (fun G => [.ref (G.2.1 7), .int (nI r), .int (nI c)]) X (kI (fun r9 X' => r9 = i32 (xco (Up ra ca z (gWi ra ca z r c) r r ca) (Ls ra ca z 10 ca)) ∧ ∃ f, Yv X 10 f = X')) kF := by
  refine con_of (lv := fun G => [(0, .ref (G.2.1 7)), (1, .int (nI r)), (2, .int (nI c))]) hfl (by decide +kernel) (fun _ => rfl) (fun _ => Nat.le_of_ble_eq_true rfl) ?_
  intro G J JX CE
  have C := CE.b
  refine r_aload_n C dX3_extraCostWith_0 rfl rfl ?_
  refine gf_RX3_46 C dX3_extraCostWith_1 ?_
  refine r_topi hV.1.1 ?_
  refine r_istore_n C dX3_extraCostWith_4 rfl (by decide) ?_
  refine r_sub C (lv' := [(3, .int (dn (ca + 1))), (0, .ref (G.2.1 7)), (1, .int (nI r)), (2, .int (nI c))]) ⟨rfl, rfl, rfl, rfl, trivial⟩ ?_
  refine r_st (Yv_id X 10).symm ?_
  exact lp_X3_extraCostWith hfl hV hr hc CE (ca + 1) _ (Nat.le_refl _) (fun S g1 _ g3 => absurd (cbl_le g3) (by omega))
set_option maxHeartbeats 4000000 in
set_option maxRecDepth 100000 in
theorem lp_X3_addTo {l : Launch} {G : Geo} {J : JT} {JX : JXT} {X : St} (hfl : l.stackTraces = false) {R ra ca : Nat} {z : Nat → Int} {d : Int64} (hV : SvK X ra ca z) (hR : R ≤ 10) (CE : Cl l RX3 cX3_addTo 7 (some .long) [] G 2 60 0 (kL (fun r9 X' => r9 = dgf (fun r => cZ (kcol ra ca z r (kfree ra ca z r))) R ((d * 31 + i64 (szf (Ls ra ca z 10 ca))) * 31 + i64 (csf (Ls ra ca z 10 ca))) ∧ X = X')) kF J JX) :
    ∀ n r, r + n = R → J X 0 36 [(4, .long (dgf (fun r => cZ (kcol ra ca z r (kfree ra ca z r))) r ((d * 31 + i64 (szf (Ls ra ca z 10 ca))) * 31 + i64 (csf (Ls ra ca z 10 ca))))), (6, .int (nI r)), (0, .ref (G.2.1 7)), (3, .int (nI R))] [] := by
  have C := CE.b
  intro n
  induction n with
  | zero =>
    intro r h
    have hc : r = R := by omega
    subst hc
    refine r_iload C dX3_addTo_36 rfl ?_
    refine r_iload_n C dX3_addTo_38 rfl rfl ?_
    refine r_icmp_ge (tgt := 72) C dX3_addTo_39 (by decide) (fun c_39 => ?_) (fun c_39 => absurd ((Int32.le_refl _)) c_39)
    refine r_lload C dX3_addTo_72 rfl ?_
    exact r_lret CE rfl dX3_addTo_74 (Nat.le_of_ble_eq_true rfl) ⟨_, rfl, rfl, rfl⟩
  | succ n ih =>
    intro r h
    have hr : r < R := by omega
    refine r_iload C dX3_addTo_36 rfl ?_
    refine r_iload_n C dX3_addTo_38 rfl rfl ?_
    refine r_icmp_ge (tgt := 72) C dX3_addTo_39 (by decide) (fun c_39 => absurd c_39 ((nI_ge (by omega) (by omega)))) (fun c_39 => ?_)
    refine r_iload C dX3_addTo_42 rfl ?_
    refine r_bipush (v := 10) C dX3_addTo_44 (by decide) ?_
    refine r_icmp_ge (tgt := 72) C dX3_addTo_46 (by decide) (fun c_46 => absurd c_46 ((nI_ge (a := r) (b := 10) (by omega) (by decide)))) (fun c_46 => ?_)
    refine r_lload C dX3_addTo_49 rfl ?_
    refine r_ldc2 C dX3_addTo_51 nk_RX3_114 ?_
    refine r_lmul C dX3_addTo_54 ?_
    refine r_aload_n C dX3_addTo_55 rfl rfl ?_
    refine gf_RX3_29 C dX3_addTo_56 ?_
    refine r_iload C dX3_addTo_59 rfl ?_
    refine r_iald C (r) (by decide) rfl rfl (by omega) dX3_addTo_61 ?_
    refine r_topi ((hV.2.2 r (by omega)).trans (cI_z _)) ?_
    refine r_i2l C dX3_addTo_62 ?_
    refine r_topl (i32_long (cZ_ok _)) ?_
    refine r_ladd C dX3_addTo_63 ?_
    refine r_lstore C dX3_addTo_64 (by decide) ?_
    refine r_iinc (v := _) C dX3_addTo_66 rfl (nI_1 r) ?_
    refine r_goto (tgt := 36) C dX3_addTo_69 (by decide) ?_
    refine r_sub C (lv' := [(4, .long (dgf (fun r => cZ (kcol ra ca z r (kfree ra ca z r))) (r + 1) ((d * 31 + i64 (szf (Ls ra ca z 10 ca))) * 31 + i64 (csf (Ls ra ca z 10 ca))))), (6, .int (nI (r + 1))), (0, .ref (G.2.1 7)), (3, .int (nI R))]) ⟨rfl, rfl, rfl, rfl, trivial⟩ ?_
    exact ih (r + 1) (by omega)

set_option maxHeartbeats 4000000 in
set_option maxRecDepth 100000 in
/-- X3_addTo  -/
theorem con_X3_addTo (l : Launch) (hfl : l.stackTraces = false) {R ra ca : Nat} {z : Nat → Int} {d : Int64} (X : St) (hV : SvK X ra ca z) (hR : R ≤ 10) : Con l yX3_addTo cX3_addTo 7 (some (FieldType.long)) 2 60 0 (fun G => [.ref (G.2.1 7), .long d, .int (nI R)]) X (kL (fun r9 X' => r9 = dgf (fun r => cZ (kcol ra ca z r (kfree ra ca z r))) R ((d * 31 + i64 (szf (Ls ra ca z 10 ca))) * 31 + i64 (csf (Ls ra ca z 10 ca))) ∧ X = X')) kF := by
  refine con_of (lv := fun G => [(0, .ref (G.2.1 7)), (1, .long d), (3, .int (nI R))]) hfl (by decide +kernel) (fun _ => rfl) (fun _ => Nat.le_of_ble_eq_true rfl) ?_
  intro G J JX CE
  have C := CE.b
  have b2 := Ls_bd (ra := ra) (ca := ca) hV.1.2.2.2.2.2 10 ca (by omega)
  have hs := szf_ok (z := Ls ra ca z 10 ca) (by omega)
  have hcs := csf_ok (z := Ls ra ca z 10 ca) (by omega)
  refine r_lload_n C dX3_addTo_0 rfl rfl ?_
  refine r_ldc2 C dX3_addTo_1 nk_RX3_114 ?_
  refine r_lmul C dX3_addTo_4 ?_
  refine r_aload_n C dX3_addTo_5 rfl rfl ?_
  refine gf_RX3_50 C dX3_addTo_6 ?_
  refine r_topi hV.2.1 ?_
  refine cl_RX3_34 C (con_X3_sizeOf l hfl _ (by omega)) dX3_addTo_9 rfl ⟨Nat.le_of_ble_eq_true rfl, Nat.le_of_ble_eq_true rfl⟩ (by omega) (Nat.le_of_ble_eq_true rfl) (fun r_9 X_9 h_9 => ?_)
  obtain ⟨rfl, rfl⟩ := h_9
  refine r_i2l C dX3_addTo_12 ?_
  refine r_topl (i32_long hs) ?_
  refine r_ladd C dX3_addTo_13 ?_
  refine r_lstore C dX3_addTo_14 (by decide) ?_
  refine r_lload C dX3_addTo_16 rfl ?_
  refine r_ldc2 C dX3_addTo_18 nk_RX3_114 ?_
  refine r_lmul C dX3_addTo_21 ?_
  refine r_aload_n C dX3_addTo_22 rfl rfl ?_
  refine gf_RX3_50 C dX3_addTo_23 ?_
  refine r_topi hV.2.1 ?_
  refine cl_RX3_116 C (con_X3_costOf l hfl _ (by omega)) dX3_addTo_26 rfl ⟨Nat.le_of_ble_eq_true rfl, Nat.le_of_ble_eq_true rfl⟩ (by omega) (Nat.le_of_ble_eq_true rfl) (fun r_26 X_26 h_26 => ?_)
  obtain ⟨rfl, rfl⟩ := h_26
  refine r_i2l C dX3_addTo_29 ?_
  refine r_topl (i32_long hcs) ?_
  refine r_ladd C dX3_addTo_30 ?_
  refine r_lstore C dX3_addTo_31 (by decide) ?_
  refine r_iconst (v := 0) C dX3_addTo_33 (by decide) ?_
  refine r_istore C dX3_addTo_34 (by decide) ?_
  refine r_sub C (lv' := [(4, .long (dgf (fun r => cZ (kcol ra ca z r (kfree ra ca z r))) 0 ((d * 31 + i64 (szf (Ls ra ca z 10 ca))) * 31 + i64 (csf (Ls ra ca z 10 ca))))), (6, .int (nI 0)), (0, .ref (G.2.1 7)), (3, .int (nI R))]) ⟨rfl, rfl, rfl, rfl, trivial⟩ ?_
  exact lp_X3_addTo hfl hV hR CE R 0 (by omega)
