/-! ===== the reference's solver ===== -/
theorem shr2 : ∀ c, c < 11 → ∀ i, i < c + 1 → ((nI (2 ^ c) >>> (nI i &&& 31)) = 1 ↔ i = c) := by decide +kernel
theorem two10 : ∀ c, c < 11 → (nI (2 ^ c) = 1024 ↔ c = 10) := by decide +kernel
set_option maxHeartbeats 4000000 in
set_option maxRecDepth 100000 in
theorem lp_X6_columnOfBit {l : Launch} {G : Geo} {J : JT} {JX : JXT} {X : St} (hfl : l.stackTraces = false) {c : Nat} (hc : c < 11) (CE : Cl l RX6 cX6_columnOfBit 2 (some .int) [] G 0 0 0 (kI (fun r9 X' => r9 = cI c ∧ X = X')) kF J JX) :
    ∀ n i, i + n = c → J X 0 2 [(1, .int (nI i)), (0, .int (nI (2 ^ c)))] [] := by
  have C := CE.b
  intro n
  induction n with
  | zero =>
    intro i h
    have hi : i = c := by omega
    subst hi
    refine r_iload_n C dX6_columnOfBit_2 rfl rfl ?_
    refine r_iload_n C dX6_columnOfBit_3 rfl rfl ?_
    refine r_ishr C dX6_columnOfBit_4 ?_
    refine r_iconst (v := 1) C dX6_columnOfBit_5 (by decide) ?_
    refine r_icmp_eq (tgt := 15) C dX6_columnOfBit_6 (by decide) (fun c_6 => ?_) (fun c_6 => absurd (((shr2 i hc i (by omega)).mpr rfl)) c_6)
    refine r_iload_n C dX6_columnOfBit_15 rfl rfl ?_
    refine r_sipush (v := 1024) C dX6_columnOfBit_16 (by decide) ?_
    refine r_icmp_ne (tgt := 26) C dX6_columnOfBit_19 (by decide) (fun c_19 => ?_) (fun c_19 => ?_)
    · -- 26
      have e : ¬ i = 10 := fun q => c_19 ((two10 i hc).mpr q)
      refine r_iload_n C dX6_columnOfBit_26 rfl rfl ?_
      exact r_iret CE rfl rfl dX6_columnOfBit_27 (Nat.le_of_ble_eq_true rfl) ⟨_, rfl, (by first | (rw [cI, if_pos (by omega)]; done) | (rw [cI, if_neg (by omega)]; done)), rfl⟩
    · -- 22
      have e : i = 10 := (two10 i hc).mp c_19
      refine r_iconst (v := (-1)) C dX6_columnOfBit_22 (by decide) ?_
      refine r_goto (tgt := 27) C dX6_columnOfBit_23 (by decide) ?_
      exact r_iret CE rfl rfl dX6_columnOfBit_27 (Nat.le_of_ble_eq_true rfl) ⟨_, rfl, (by first | (rw [cI, if_pos (by omega)]; done) | (rw [cI, if_neg (by omega)]; done)), rfl⟩
  | succ n ih =>
    intro i h
    refine r_iload_n C dX6_columnOfBit_2 rfl rfl ?_
    refine r_iload_n C dX6_columnOfBit_3 rfl rfl ?_
    refine r_ishr C dX6_columnOfBit_4 ?_
    refine r_iconst (v := 1) C dX6_columnOfBit_5 (by decide) ?_
    refine r_icmp_eq (tgt := 15) C dX6_columnOfBit_6 (by decide) (fun c_6 => absurd c_6 ((fun q => absurd ((shr2 c hc i (by omega)).mp q) (by omega)))) (fun c_6 => ?_)
    refine r_iinc (v := _) C dX6_columnOfBit_9 rfl (nI_1 i) ?_
    refine r_goto (tgt := 2) C dX6_columnOfBit_12 (by decide) ?_
    refine r_sub C (lv' := [(1, .int (nI (i + 1))), (0, .int (nI (2 ^ c)))]) ⟨rfl, rfl, trivial⟩ ?_
    exact ih (i + 1) (by omega)

set_option maxHeartbeats 4000000 in
set_option maxRecDepth 100000 in
/-- X6_columnOfBit  -/
theorem con_X6_columnOfBit (l : Launch) (hfl : l.stackTraces = false) {c : Nat} (X : St) (hc : c < 11) : Con l yX6_columnOfBit cX6_columnOfBit 2 (some (FieldType.int)) 0 0 0 (fun _ => [.int (nI (2 ^ c))]) X (kI (fun r9 X' => r9 = cI c ∧ X = X')) kF := by
  refine con_of (lv := fun _ => [(0, .int (nI (2 ^ c)))]) hfl (by decide +kernel) (fun _ => rfl) (fun _ => Nat.le_of_ble_eq_true rfl) ?_
  intro G J JX CE
  have C := CE.b
  refine r_iconst (v := 0) C dX6_columnOfBit_0 (by decide) ?_
  refine r_istore_n C dX6_columnOfBit_1 rfl (by decide) ?_
  refine r_sub C (lv' := [(1, .int (nI 0)), (0, .int (nI (2 ^ c)))]) ⟨rfl, rfl, trivial⟩ ?_
  exact lp_X6_columnOfBit hfl hc CE c 0 (by omega)
set_option maxHeartbeats 4000000 in
set_option maxRecDepth 100000 in
/-- X6_costOf  -/
theorem con_X6_costOf (l : Launch) (hfl : l.stackTraces = false) {r c : Nat} (X : St) (hr : r < 10) (hc : c < 11) : Con l yX6_costOf cX6_costOf 3 (some (FieldType.int)) 1 30 0 (fun G => [.ref (G.2.1 37), .int (nI r), .int (nI (2 ^ c))]) X (kI (fun r9 X' => r9 = (if c = 10 then 0 else Zv X 41 (10 * r + c)) ∧ X = X')) kF := by
  refine con_of (lv := fun G => [(0, .ref (G.2.1 37)), (1, .int (nI r)), (2, .int (nI (2 ^ c)))]) hfl (by decide +kernel) (fun _ => rfl) (fun _ => Nat.le_of_ble_eq_true rfl) ?_
  intro G J JX CE
  have C := CE.b
  refine r_iload_n C dX6_costOf_0 rfl rfl ?_
  refine r_sipush (v := 1024) C dX6_costOf_1 (by decide) ?_
  refine r_icmp_ne (tgt := 11) C dX6_costOf_4 (by decide) (fun c_4 => ?_) (fun c_4 => ?_)
  · -- 11
    have e : ¬ c = 10 := fun q => c_4 ((two10 c hc).mpr q)
    refine r_aload_n C dX6_costOf_11 rfl rfl ?_
    refine gf_RX6_19 C dX6_costOf_12 ?_
    refine r_bipush (v := 10) C dX6_costOf_15 (by decide) ?_
    refine r_iload_n C dX6_costOf_17 rfl rfl ?_
    refine r_imul C dX6_costOf_18 ?_
    refine r_iload_n C dX6_costOf_19 rfl rfl ?_
    refine cl_RX6_134 C (con_X6_columnOfBit l hfl _ hc) dX6_costOf_20 rfl ⟨Nat.le_of_ble_eq_true rfl, Nat.le_of_ble_eq_true rfl⟩ (by omega) (Nat.le_of_ble_eq_true rfl) (fun r_20 X_20 h_20 => ?_)
    obtain ⟨rfl, rfl⟩ := h_20
    refine r_topi (show _ = nI c by rw [cI, if_pos (by omega)]) ?_
    refine r_iadd C dX6_costOf_23 ?_
    refine r_iald C (10 * r + c) (by decide) rfl (zix' r c) (by omega) dX6_costOf_24 ?_
    exact r_iret CE rfl rfl dX6_costOf_25 (Nat.le_of_ble_eq_true rfl) ⟨_, rfl, (by first | (rw [if_pos e]; done) | (rw [if_neg e]; done)), rfl⟩
  · -- 7
    have e : c = 10 := (two10 c hc).mp c_4
    refine r_iconst (v := 0) C dX6_costOf_7 (by decide) ?_
    refine r_goto (tgt := 25) C dX6_costOf_8 (by decide) ?_
    exact r_iret CE rfl rfl dX6_costOf_25 (Nat.le_of_ble_eq_true rfl) ⟨_, rfl, (by first | (rw [if_pos e]; done) | (rw [if_neg e]; done)), rfl⟩
