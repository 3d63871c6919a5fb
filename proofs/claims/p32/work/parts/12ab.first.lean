set_option maxHeartbeats 4000000 in
set_option maxRecDepth 100000 in
theorem lp_X3_firstOptimal {l : Launch} {G : Geo} {J : JT} {JX : JXT} {X : St} (hfl : l.stackTraces = false) {r F ra ca : Nat} {z : Nat → Int} (hV : SvR X ra ca z r) (hr : r < 10) (hF : F < 1024) (hb : cbl ca F r = true) (CE : Cl l RX3 cX3_firstOptimal 4 (some .int) [] G 2 60 0 (kI (fun r9 X' => r9 = cI (kcol ra ca z r F) ∧ X = X')) kF J JX) :
    ∀ n c, c + n = 10 → (∀ j, j < c → opt ra ca z r j F = false) → J X 0 2 [(3, .int (nI c)), (0, .ref (G.2.1 7)), (1, .int (nI r)), (2, .int (nI F))] [] := by
  have C := CE.b
  intro n
  induction n with
  | zero =>
    intro c h hn
    have hc : c = 10 := by omega
    subst hc
    refine r_iload_n C dX3_firstOptimal_2 rfl rfl ?_
    refine r_bipush (v := 10) C dX3_firstOptimal_3 (by decide) ?_
    refine r_icmp_ge (tgt := 26) C dX3_firstOptimal_5 (by decide) (fun c_5 => ?_) (fun c_5 => absurd ((by decide)) c_5)
    refine r_iconst (v := (-1)) C dX3_firstOptimal_26 (by decide) ?_
    exact r_iret CE rfl rfl dX3_firstOptimal_27 (Nat.le_of_ble_eq_true rfl) ⟨_, rfl, by unfold kcol; rw [ff_all hn]; rfl, rfl⟩
  | succ n ih =>
    intro c h hn
    have hlt : c < 10 := by omega
    refine r_iload_n C dX3_firstOptimal_2 rfl rfl ?_
    refine r_bipush (v := 10) C dX3_firstOptimal_3 (by decide) ?_
    refine r_icmp_ge (tgt := 26) C dX3_firstOptimal_5 (by decide) (fun c_5 => absurd c_5 ((nI_ge (a := c) (b := 10) (by omega) (by decide)))) (fun c_5 => ?_)
    refine r_aload_n C dX3_firstOptimal_8 rfl rfl ?_
    refine r_iload_n C dX3_firstOptimal_9 rfl rfl ?_
    refine r_iload_n C dX3_firstOptimal_10 rfl rfl ?_
    refine r_iload_n C dX3_firstOptimal_11 rfl rfl ?_
    refine cl_RX3_96 C (con_X3_isOptimal l hfl _ hV hr hlt hF hb) dX3_firstOptimal_12 rfl ⟨Nat.le_of_ble_eq_true rfl, Nat.le_of_ble_eq_true rfl⟩ (by omega) (Nat.le_of_ble_eq_true rfl) (fun r_12 X_12 h_12 => ?_)
    obtain ⟨rfl, rfl⟩ := h_12
    refine r_if_eq (tgt := 20) C dX3_firstOptimal_15 (by decide) (fun c_15 => ?_) (fun c_15 => ?_)
    · -- 20
      have hp := bI_0 c_15
      refine r_iinc (v := _) C dX3_firstOptimal_20 rfl (nI_1 c) ?_
      refine r_goto (tgt := 2) C dX3_firstOptimal_23 (by decide) ?_
      refine r_sub C (lv' := [(3, .int (nI (c + 1))), (0, .ref (G.2.1 7)), (1, .int (nI r)), (2, .int (nI F))]) ⟨rfl, rfl, rfl, rfl, trivial⟩ ?_
      exact ih (c + 1) (by omega) (fun j hj => by rcases Nat.lt_or_ge j c with q | q; exact hn j q; rw [show j = c by omega]; exact hp)
    · -- 18
      have hp := bI_1 c_15
      refine r_iload_n C dX3_firstOptimal_18 rfl rfl ?_
      exact r_iret CE rfl rfl dX3_firstOptimal_19 (Nat.le_of_ble_eq_true rfl) ⟨_, rfl, by unfold kcol; rw [ff_is hlt hn hp]; unfold cI; rw [if_pos hlt], rfl⟩

set_option maxHeartbeats 4000000 in
set_option maxRecDepth 100000 in
/-- X3_firstOptimal  -/
theorem con_X3_firstOptimal (l : Launch) (hfl : l.stackTraces = false) {r F ra ca : Nat} {z : Nat → Int} (X : St) (hV : SvR X ra ca z r) (hr : r < 10) (hF : F < 1024) (hb : cbl ca F r = true) : Con l yX3_firstOptimal cX3_firstOptimal 4 (some (FieldType.int)) 2 60 0 (fun G => [.ref (G.2.1 7), .int (nI r), .int (nI F)]) X (kI (fun r9 X' => r9 = cI (kcol ra ca z r F) ∧ X = X')) kF := by
  refine con_of (lv := fun G => [(0, .ref (G.2.1 7)), (1, .int (nI r)), (2, .int (nI F))]) hfl (by decide +kernel) (fun _ => rfl) (fun _ => Nat.le_of_ble_eq_true rfl) ?_
  intro G J JX CE
  have C := CE.b
  refine r_iconst (v := 0) C dX3_firstOptimal_0 (by decide) ?_
  refine r_istore_n C dX3_firstOptimal_1 rfl (by decide) ?_
  refine r_sub C (lv' := [(3, .int (nI 0)), (0, .ref (G.2.1 7)), (1, .int (nI r)), (2, .int (nI F))]) ⟨rfl, rfl, rfl, rfl, trivial⟩ ?_
  exact lp_X3_firstOptimal hfl hV hr hF hb CE 10 0 (by omega) (fun j hj => absurd hj (Nat.not_lt_zero j))
