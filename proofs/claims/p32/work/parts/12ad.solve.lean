/-- outside the solver nothing has changed; its last row is 0 still -/
def SvO (X X' : St) : Prop := (∀ k j, k ≠ 7 → Zm X' k j = Zm X k j) ∧ (∀ k, (k < 8 ∨ 24 ≤ k) → Zv X' k = Zv X k) ∧ (∀ k, Zu X' k = Zu X k) ∧ (∀ k j, Zf X' k j = Zf X k j)
theorem SvO.rf {X : St} : SvO X X := ⟨fun _ _ _ => rfl, fun _ _ => rfl, fun _ => rfl, fun _ _ => rfl⟩
theorem SvO.tr {X Y Z : St} (h : SvO X Y) (g : SvO Y Z) : SvO X Z := ⟨fun k j hk => (g.1 k j hk).trans (h.1 k j hk), fun k hk => (g.2.1 k hk).trans (h.2.1 k hk), fun k => (g.2.2.1 k).trans (h.2.2.1 k), fun k j => (g.2.2.2 k j).trans (h.2.2.2 k j)⟩
theorem SvO.v {X : St} {k : Nat} (f : Nat → Int32) (h : 8 ≤ k ∧ k < 24) : SvO X (Yv X k f) := ⟨fun _ _ _ => rfl, fun a ha => by rw [Zv_Yv, if_neg (by omega)], fun _ => rfl, fun _ _ => rfl⟩
theorem SvO.m {X : St} {j : Nat} (x : Int32) : SvO X (Ym X 7 j x) := ⟨fun a b ha => by rw [Zm_Ym, if_neg (fun q => ha q.1)], fun _ _ => rfl, fun _ => rfl, fun _ _ => rfl⟩
set_option maxHeartbeats 4000000 in
set_option maxRecDepth 100000 in
theorem lp_X3_solve {l : Launch} {G : Geo} {J : JT} {JX : JXT} {X : St} (hfl : l.stackTraces = false) {ra ca : Nat} {z : Nat → Int} (CE : Cl l RX3 cX3_solve 3 none [] G 5 150 0 (kV (fun X' => SvK X' ra ca z ∧ SvO X X')) kF J JX) :
    ∀ n (Y : St), n ≤ 10 → SvR Y ra ca z n → SvO X Y → J Y 0 8 [(2, .int (dn n)), (0, .ref (G.2.1 7)), (1, .ref (G.2.1 1))] [] := by
  have C := CE.b
  intro n
  induction n with
  | zero =>
    intro Y h hV hO
    refine r_iload_n C dX3_solve_8 rfl rfl ?_
    refine r_if_lt (tgt := 43) C dX3_solve_9 (by decide) (fun c_9 => ?_) (fun c_9 => absurd ((by decide)) c_9)
    refine r_aload_n C dX3_solve_43 rfl rfl ?_
    refine r_aload_n C dX3_solve_44 rfl rfl ?_
    refine gf_RX3_20 C dX3_solve_45 ?_
    refine r_iconst (v := 0) C dX3_solve_48 (by decide) ?_
    refine r_aald C (0) (gl (by decide)) rfl rfl (by omega) dX3_solve_49 ?_
    refine r_aload_n C dX3_solve_50 rfl rfl ?_
    refine gf_RX3_46 C dX3_solve_51 ?_
    refine r_topi hV.1 ?_
    refine r_iald C (ca) (gl (by decide)) rfl rfl hV.2.2.2.2.1 dX3_solve_54 ?_
    refine r_topi (hV.2.2.2.1 0 ca (Nat.le_refl 0) (by omega) hV.2.2.2.2.1 (cbl_self ca 0)) ?_
    refine pf_RX3_50 C dX3_solve_55 ?_
    refine r_aload_n C dX3_solve_58 rfl rfl ?_
    refine cl_RX3_53 C (con_X3_keepFirst l hfl _ (hV.puti _ (by decide))) dX3_solve_59 rfl ⟨Nat.le_of_ble_eq_true rfl, Nat.le_of_ble_eq_true rfl⟩ (by omega) (Nat.le_of_ble_eq_true rfl) (fun X_59 h_59 => ?_)
    obtain ⟨f9, rfl, hf9⟩ := h_59
    exact r_vret CE rfl dX3_solve_62 (Nat.le_of_ble_eq_true rfl) ⟨rfl, ⟨(hV.puti _ (by decide)).put f9 (by decide) (by decide) (by decide), rfl, hf9⟩, (hO.tr (SvO.m _)).tr (SvO.v f9 (by decide))⟩
  | succ n ih =>
    intro Y h hV hO
    have hnx : ∀ S, S < 1024 → cbl ca S (n + 1) = true → Zv Y (14 + (n + 1)) S = i32 (Ls ra ca z (9 - n) S) ∧ bd 200000000 (Ls ra ca z (9 - n) S) := fun S h1 h2 => by
      have b1 := Ls_bd (ra := ra) (ca := ca) hV.2.2.2.2.2 (9 - n) S (by omega)
      have e1 := hV.2.2.2.1 (n + 1) S (Nat.le_refl _) h h1 h2
      rw [show 10 - (n + 1) = 9 - n by omega] at e1
      exact ⟨e1, by omega⟩
    refine r_iload_n C dX3_solve_8 rfl rfl ?_
    refine r_if_lt (tgt := 43) C dX3_solve_9 (by decide) (fun c_9 => absurd c_9 ((nI_pos (by omega)))) (fun c_9 => ?_)
    refine r_aload_n C dX3_solve_12 rfl rfl ?_
    refine r_iload_n C dX3_solve_13 rfl rfl ?_
    refine r_aload_n C dX3_solve_14 rfl rfl ?_
    refine gf_RX3_15 C dX3_solve_15 ?_
    refine r_iload_n C dX3_solve_18 rfl rfl ?_
    refine r_iald C (n) (gl (by decide)) rfl rfl (by omega) dX3_solve_19 ?_
    refine r_topi (hV.2.1 n (by omega)) ?_
    refine r_aload_n C dX3_solve_20 rfl rfl ?_
    refine gf_RX3_20 C dX3_solve_21 ?_
    refine r_iload_n C dX3_solve_24 rfl rfl ?_
    refine r_iconst (v := 1) C dX3_solve_25 (by decide) ?_
    refine r_iadd C dX3_solve_26 ?_
    refine r_aald C (n + 1) (gl (by decide)) rfl (nI_1 n) (by omega) dX3_solve_27 ?_
    refine r_aload_n C dX3_solve_28 rfl rfl ?_
    refine gf_RX3_20 C dX3_solve_29 ?_
    refine r_iload_n C dX3_solve_32 rfl rfl ?_
    refine r_aald C (n) (gl (by decide)) rfl rfl (by omega) dX3_solve_33 ?_
    refine cl_RX3_42 C (con_X3_fillRow l hfl _ (r := n) (ch := us ra ca z n) (A := ca) (kn := 14 + (n + 1)) (kf := 14 + n) (s := sc z n) (nx := Ls ra ca z (9 - n)) hV.1 hV.2.2.2.2.1 (us_lt _ _ _ _) (by omega) (by omega) (lay14 (by omega)) (by omega) (lay14 (by omega)) (by omega) (Int.le_refl _) (fun c hc _ => ⟨hV.2.2.1 n c (by omega) hc, sc_bd hV.2.2.2.2.2 (by omega) hc⟩) hnx) dX3_solve_34 rfl ⟨Nat.le_of_ble_eq_true rfl, Nat.le_of_ble_eq_true rfl⟩ (by omega) (Nat.le_of_ble_eq_true rfl) (fun X_34 h_34 => ?_)
    subst h_34
    refine r_iinc (v := _) C dX3_solve_37 rfl (dn_step n) ?_
    refine r_goto (tgt := 8) C dX3_solve_40 (by decide) ?_
    refine r_sub C (lv' := [(2, .int (dn n)), (0, .ref (G.2.1 7)), (1, .ref (G.2.1 1))]) ⟨rfl, rfl, rfl, trivial⟩ ?_
    refine ih _ (by omega) ⟨hV.1, fun r hr => by rw [Zv_Yv, if_neg (by omega)]; exact hV.2.1 r hr, fun r c hr hc => by rw [Zv_Yv, if_neg (by omega)]; exact hV.2.2.1 r c hr hc, fun r S h1 h2 h3 h4 => ?_, hV.2.2.2.2⟩ (hO.tr (SvO.v _ (by omega)))
    rw [Zv_Yv]
    by_cases e : r = n
    · subst e
      rw [if_pos rfl, if_pos h4, show 10 - r = (9 - r) + 1 by omega, Ls, show 9 - (9 - r) = r by omega]
    · rw [if_neg (by omega)]
      exact hV.2.2.2.1 r S (by omega) h2 h3 h4

set_option maxHeartbeats 4000000 in
set_option maxRecDepth 100000 in
/-- X3_solve  -/
theorem con_X3_solve (l : Launch) (hfl : l.stackTraces = false) {ra ca : Nat} {z : Nat → Int} (X : St) (hT : TbZ X ra ca z) (h0 : ∀ S, S < 1024 → Zv X 24 S = 0) : Con l yX3_solve cX3_solve 3 none 5 150 0 (fun G => [.ref (G.2.1 7), .ref (G.2.1 1)]) X (kV (fun X' => SvK X' ra ca z ∧ SvO X X')) kF := by
  refine con_of (lv := fun G => [(0, .ref (G.2.1 7)), (1, .ref (G.2.1 1))]) hfl (by decide +kernel) (fun _ => rfl) (fun _ => Nat.le_of_ble_eq_true rfl) ?_
  intro G J JX CE
  have C := CE.b
  refine r_aload_n C dX3_solve_0 rfl rfl ?_
  refine r_aload_n C dX3_solve_1 rfl rfl ?_
  refine cl_RX3_38 C (con_X3_read l hfl _ hT) dX3_solve_2 rfl ⟨Nat.le_of_ble_eq_true rfl, Nat.le_of_ble_eq_true rfl⟩ (by omega) (Nat.le_of_ble_eq_true rfl) (fun X_2 h_2 => ?_)
  obtain ⟨f9, g9, rfl, hf9, hg9⟩ := h_2
  refine r_bipush (v := 9) C dX3_solve_5 (by decide) ?_
  refine r_istore_n C dX3_solve_7 rfl (by decide) ?_
  refine r_sub C (lv' := [(2, .int (dn 10)), (0, .ref (G.2.1 7)), (1, .ref (G.2.1 1))]) ⟨rfl, rfl, rfl, trivial⟩ ?_
  refine lp_X3_solve hfl CE 10 _ (Nat.le_refl _) ⟨rfl, hf9, fun r c hr hc => hg9 r c hr hc (Or.inl hr), fun r S h1 h2 h3 h4 => ?_, hT.2.2.2.1, fun k hk => (hT.2.2.2.2 k hk).2⟩ (((SvO.m _).tr (SvO.v f9 (by decide))).tr (SvO.v g9 (by decide)))
  have e : r = 10 := by omega
  subst e
  exact h0 S h3
