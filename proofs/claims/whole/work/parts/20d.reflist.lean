set_option maxHeartbeats 4000000 in
set_option maxRecDepth 100000 in
/-- X6_rankedCost  -/
theorem con_X6_rankedCost (l : Launch) (hfl : l.stackTraces = false) {A : DA} {x : Int32} (X : St) (hM : MInv X A) : Con l yX6_rankedCost cX6_rankedCost 2 (some (FieldType.int)) 1 30 0 (fun G => [.ref (G.2.1 37), .int x]) X (kI (fun r9 X' => (inI x A.rl.length = false → r9 = 0 ∧ Zm X' 37 0 = 1 ∧ MInv X' A) ∧ (∀ (i : Nat) (e : BE), A.rl[i]? = some e → x = nI i → r9 = i32 (csf e.1) ∧ Zm X' 37 0 = 0 ∧ MInv X' A) ∧ Fr Mp X X')) kF := by
  refine con_of (lv := fun G => [(0, .ref (G.2.1 37)), (1, .int x)]) hfl (by decide +kernel) (fun _ => rfl) (fun _ => Nat.le_of_ble_eq_true rfl) ?_
  intro G J JX CE
  have C := CE.b
  have h30 := hM.r.2.1
  refine r_aload_n C dX6_rankedCost_0 rfl rfl ?_
  refine r_iconst (v := 0) C dX6_rankedCost_1 (by decide) ?_
  refine pf_RX6_77 C dX6_rankedCost_2 ?_
  refine r_iload_n C dX6_rankedCost_5 rfl rfl ?_
  refine r_if_lt (tgt := 26) C dX6_rankedCost_6 (by decide) (fun c_6 => ?_) (fun c_6 => ?_)
  · -- 26
    have e : inI x A.rl.length = false := inI_f (by omega) (Or.inl c_6)
    refine r_aload_n C dX6_rankedCost_26 rfl rfl ?_
    refine r_iconst (v := 1) C dX6_rankedCost_27 (by decide) ?_
    refine cl_RX6_98 C (con_X6_fail l hfl _) dX6_rankedCost_28 rfl ⟨Nat.le_of_ble_eq_true rfl, Nat.le_of_ble_eq_true rfl⟩ (by omega) (Nat.le_of_ble_eq_true rfl) (fun r_28 X_28 h_28 => ?_)
    obtain ⟨rfl, rfl⟩ := h_28
    exact r_iret CE rfl rfl dX6_rankedCost_31 (Nat.le_of_ble_eq_true rfl) (by first
    | exact ⟨_, rfl, fun _ => ⟨rfl, rfl, hM⟩, fun i e0 he e9 => (by rw [e9, inI_n (by have := (List.getElem?_eq_some_iff.mp he).1; omega), decide_eq_true (List.getElem?_eq_some_iff.mp he).1] at e; cases e), Fr.t2 _ _⟩
    | exact ⟨_, rfl, fun q => (by rw [e] at q; cases q), fun j e1 he1 e9 => (by
      have hj := (List.getElem?_eq_some_iff.mp he1).1
      have e8 := (nI_eq (by omega) (by omega)).mp e9
      subst e8
      rw [he] at he1
      cases he1
      exact ⟨rfl, rfl, hM⟩), Fr.t1 _⟩)
  · -- 9
    refine r_iload_n C dX6_rankedCost_9 rfl rfl ?_
    refine r_aload_n C dX6_rankedCost_10 rfl rfl ?_
    refine gf_RX6_172 C dX6_rankedCost_11 ?_
    refine r_topi (show _ = nI A.rl.length from hM.r.1) ?_
    refine r_icmp_ge (tgt := 26) C dX6_rankedCost_14 (by decide) (fun c_14 => ?_) (fun c_14 => ?_)
    · -- 26
      have e : inI x A.rl.length = false := inI_f (by omega) (Or.inr (Int32.not_lt.mpr c_14))
      refine r_aload_n C dX6_rankedCost_26 rfl rfl ?_
      refine r_iconst (v := 1) C dX6_rankedCost_27 (by decide) ?_
      refine cl_RX6_98 C (con_X6_fail l hfl _) dX6_rankedCost_28 rfl ⟨Nat.le_of_ble_eq_true rfl, Nat.le_of_ble_eq_true rfl⟩ (by omega) (Nat.le_of_ble_eq_true rfl) (fun r_28 X_28 h_28 => ?_)
      obtain ⟨rfl, rfl⟩ := h_28
      exact r_iret CE rfl rfl dX6_rankedCost_31 (Nat.le_of_ble_eq_true rfl) (by first
    | exact ⟨_, rfl, fun _ => ⟨rfl, rfl, hM⟩, fun i e0 he e9 => (by rw [e9, inI_n (by have := (List.getElem?_eq_some_iff.mp he).1; omega), decide_eq_true (List.getElem?_eq_some_iff.mp he).1] at e; cases e), Fr.t2 _ _⟩
    | exact ⟨_, rfl, fun q => (by rw [e] at q; cases q), fun j e1 he1 e9 => (by
      have hj := (List.getElem?_eq_some_iff.mp he1).1
      have e8 := (nI_eq (by omega) (by omega)).mp e9
      subst e8
      rw [he] at he1
      cases he1
      exact ⟨rfl, rfl, hM⟩), Fr.t1 _⟩)
    · -- 17
      have e := inI_i (n := A.rl.length) (by omega) c_6 (Int32.not_le.mp c_14)
      obtain ⟨i, hi, rfl⟩ := inI_t e
      obtain ⟨e0, he⟩ : ∃ e0 : BE, A.rl[i]? = some e0 := ⟨A.rl[i]'hi, List.getElem?_eq_getElem hi⟩
      have hx := hM.r.2.2 i e0 he
      refine r_aload_n C dX6_rankedCost_17 rfl rfl ?_
      refine gf_RX6_56 C dX6_rankedCost_18 ?_
      refine r_iload_n C dX6_rankedCost_21 rfl rfl ?_
      refine r_iald C (i) (by decide) rfl rfl (by omega) dX6_rankedCost_22 ?_
      refine r_topi (show _ = i32 (csf e0.1) from hx.1) ?_
      refine r_goto (tgt := 31) C dX6_rankedCost_23 (by decide) ?_
      exact r_iret CE rfl rfl dX6_rankedCost_31 (Nat.le_of_ble_eq_true rfl) (by first
    | exact ⟨_, rfl, fun _ => ⟨rfl, rfl, hM⟩, fun i e0 he e9 => (by rw [e9, inI_n (by have := (List.getElem?_eq_some_iff.mp he).1; omega), decide_eq_true (List.getElem?_eq_some_iff.mp he).1] at e; cases e), Fr.t2 _ _⟩
    | exact ⟨_, rfl, fun q => (by rw [e] at q; cases q), fun j e1 he1 e9 => (by
      have hj := (List.getElem?_eq_some_iff.mp he1).1
      have e8 := (nI_eq (by omega) (by omega)).mp e9
      subst e8
      rw [he] at he1
      cases he1
      exact ⟨rfl, rfl, hM⟩), Fr.t1 _⟩)
set_option maxHeartbeats 4000000 in
set_option maxRecDepth 100000 in
/-- X6_rankedColumn  -/
theorem con_X6_rankedColumn (l : Launch) (hfl : l.stackTraces = false) {A : DA} {x y : Int32} (X : St) (hM : MInv X A) : Con l yX6_rankedColumn cX6_rankedColumn 3 (some (FieldType.int)) 2 60 0 (fun G => [.ref (G.2.1 37), .int x, .int y]) X (kI (fun r9 X' => ((inI x A.rl.length && inI y A.R) = false → r9 = 0 ∧ Zm X' 37 0 = 1 ∧ MInv X' A) ∧ (∀ (i : Nat) (e : BE) (r : Nat), A.rl[i]? = some e → r < A.R → x = nI i → y = nI r → r9 = clf e.2.1 r ∧ Zm X' 37 0 = 0 ∧ MInv X' A) ∧ Fr Mp X X')) kF := by
  refine con_of (lv := fun G => [(0, .ref (G.2.1 37)), (1, .int x), (2, .int y)]) hfl (by decide +kernel) (fun _ => rfl) (fun _ => Nat.le_of_ble_eq_true rfl) ?_
  intro G J JX CE
  have C := CE.b
  have h30 := hM.r.2.1
  have hR10 := hM.ok.R
  refine r_aload_n C dX6_rankedColumn_0 rfl rfl ?_
  refine r_iconst (v := 0) C dX6_rankedColumn_1 (by decide) ?_
  refine pf_RX6_77 C dX6_rankedColumn_2 ?_
  refine r_iload_n C dX6_rankedColumn_5 rfl rfl ?_
  refine r_if_lt (tgt := 39) C dX6_rankedColumn_6 (by decide) (fun c_6 => ?_) (fun c_6 => ?_)
  · -- 39
    have e : (inI x A.rl.length && inI y A.R) = false := by rw [inI_f (n := A.rl.length) (by omega) (Or.inl c_6)]; rfl
    refine r_aload_n C dX6_rankedColumn_39 rfl rfl ?_
    refine r_iconst (v := 1) C dX6_rankedColumn_40 (by decide) ?_
    refine cl_RX6_98 C (con_X6_fail l hfl _) dX6_rankedColumn_41 rfl ⟨Nat.le_of_ble_eq_true rfl, Nat.le_of_ble_eq_true rfl⟩ (by omega) (Nat.le_of_ble_eq_true rfl) (fun r_41 X_41 h_41 => ?_)
    obtain ⟨rfl, rfl⟩ := h_41
    exact r_iret CE rfl rfl dX6_rankedColumn_44 (Nat.le_of_ble_eq_true rfl) (by first
    | exact ⟨_, rfl, fun _ => ⟨rfl, rfl, hM⟩, fun i e0 r he hr e8 e9 => (by rw [e8, e9, inI_n (by have := (List.getElem?_eq_some_iff.mp he).1; omega), decide_eq_true (List.getElem?_eq_some_iff.mp he).1, inI_n (by omega), decide_eq_true hr] at e; cases e), Fr.t2 _ _⟩
    | exact ⟨_, rfl, fun q => (by rw [e] at q; cases q), fun k e1 r he1 hr e8 e9 => (by
      have hk := (List.getElem?_eq_some_iff.mp he1).1
      have e6 := (nI_eq (by omega) (by omega)).mp e8
      have e7 := (nI_eq (by omega) (by omega)).mp e9
      subst e6
      subst e7
      rw [he] at he1
      cases he1
      exact ⟨rfl, rfl, hM⟩), Fr.t1 _⟩)
  · -- 9
    refine r_iload_n C dX6_rankedColumn_9 rfl rfl ?_
    refine r_aload_n C dX6_rankedColumn_10 rfl rfl ?_
    refine gf_RX6_172 C dX6_rankedColumn_11 ?_
    refine r_topi (show _ = nI A.rl.length from hM.r.1) ?_
    refine r_icmp_ge (tgt := 39) C dX6_rankedColumn_14 (by decide) (fun c_14 => ?_) (fun c_14 => ?_)
    · -- 39
      have e : (inI x A.rl.length && inI y A.R) = false := by rw [inI_f (n := A.rl.length) (by omega) (Or.inr (Int32.not_lt.mpr c_14))]; rfl
      refine r_aload_n C dX6_rankedColumn_39 rfl rfl ?_
      refine r_iconst (v := 1) C dX6_rankedColumn_40 (by decide) ?_
      refine cl_RX6_98 C (con_X6_fail l hfl _) dX6_rankedColumn_41 rfl ⟨Nat.le_of_ble_eq_true rfl, Nat.le_of_ble_eq_true rfl⟩ (by omega) (Nat.le_of_ble_eq_true rfl) (fun r_41 X_41 h_41 => ?_)
      obtain ⟨rfl, rfl⟩ := h_41
      exact r_iret CE rfl rfl dX6_rankedColumn_44 (Nat.le_of_ble_eq_true rfl) (by first
    | exact ⟨_, rfl, fun _ => ⟨rfl, rfl, hM⟩, fun i e0 r he hr e8 e9 => (by rw [e8, e9, inI_n (by have := (List.getElem?_eq_some_iff.mp he).1; omega), decide_eq_true (List.getElem?_eq_some_iff.mp he).1, inI_n (by omega), decide_eq_true hr] at e; cases e), Fr.t2 _ _⟩
    | exact ⟨_, rfl, fun q => (by rw [e] at q; cases q), fun k e1 r he1 hr e8 e9 => (by
      have hk := (List.getElem?_eq_some_iff.mp he1).1
      have e6 := (nI_eq (by omega) (by omega)).mp e8
      have e7 := (nI_eq (by omega) (by omega)).mp e9
      subst e6
      subst e7
      rw [he] at he1
      cases he1
      exact ⟨rfl, rfl, hM⟩), Fr.t1 _⟩)
    · -- 17
      have ex := inI_i (n := A.rl.length) (by omega) c_6 (Int32.not_le.mp c_14)
      obtain ⟨i, hi, rfl⟩ := inI_t ex
      obtain ⟨e0, he⟩ : ∃ e0 : BE, A.rl[i]? = some e0 := ⟨A.rl[i]'hi, List.getElem?_eq_getElem hi⟩
      have hx := hM.r.2.2 i e0 he
      refine r_aload_n C dX6_rankedColumn_17 rfl rfl ?_
      refine r_iload_n C dX6_rankedColumn_18 rfl rfl ?_
      refine cl_RX6_87 C (con_X6_isRow l hfl (Ym X 37 0 0) (R := A.R) hM.b.1 hM.ok.R) dX6_rankedColumn_19 rfl ⟨Nat.le_of_ble_eq_true rfl, Nat.le_of_ble_eq_true rfl⟩ (by omega) (Nat.le_of_ble_eq_true rfl) (fun r_19 X_19 h_19 => ?_)
      obtain ⟨rfl, rfl⟩ := h_19
      refine r_if_eq (tgt := 39) C dX6_rankedColumn_22 (by decide) (fun c_22 => ?_) (fun c_22 => ?_)
      · -- 39
        have e : (inI (nI i) A.rl.length && inI y A.R) = false := by rw [bI_0 c_22, Bool.and_false]
        refine r_aload_n C dX6_rankedColumn_39 rfl rfl ?_
        refine r_iconst (v := 1) C dX6_rankedColumn_40 (by decide) ?_
        refine cl_RX6_98 C (con_X6_fail l hfl _) dX6_rankedColumn_41 rfl ⟨Nat.le_of_ble_eq_true rfl, Nat.le_of_ble_eq_true rfl⟩ (by omega) (Nat.le_of_ble_eq_true rfl) (fun r_41 X_41 h_41 => ?_)
        obtain ⟨rfl, rfl⟩ := h_41
        exact r_iret CE rfl rfl dX6_rankedColumn_44 (Nat.le_of_ble_eq_true rfl) (by first
    | exact ⟨_, rfl, fun _ => ⟨rfl, rfl, hM⟩, fun i e0 r he hr e8 e9 => (by rw [e8, e9, inI_n (by have := (List.getElem?_eq_some_iff.mp he).1; omega), decide_eq_true (List.getElem?_eq_some_iff.mp he).1, inI_n (by omega), decide_eq_true hr] at e; cases e), Fr.t2 _ _⟩
    | exact ⟨_, rfl, fun q => (by rw [e] at q; cases q), fun k e1 r he1 hr e8 e9 => (by
      have hk := (List.getElem?_eq_some_iff.mp he1).1
      have e6 := (nI_eq (by omega) (by omega)).mp e8
      have e7 := (nI_eq (by omega) (by omega)).mp e9
      subst e6
      subst e7
      rw [he] at he1
      cases he1
      exact ⟨rfl, rfl, hM⟩), Fr.t1 _⟩)
      · -- 25
        have ey := bI_1 c_22
        obtain ⟨j, hj, rfl⟩ := inI_t ey
        have e : (inI (nI i) A.rl.length && inI (nI j) A.R) = true := by rw [ex, ey]; rfl
        refine r_aload_n C dX6_rankedColumn_25 rfl rfl ?_
        refine gf_RX6_59 C dX6_rankedColumn_26 ?_
        refine r_bipush (v := 10) C dX6_rankedColumn_29 (by decide) ?_
        refine r_iload_n C dX6_rankedColumn_31 rfl rfl ?_
        refine r_imul C dX6_rankedColumn_32 ?_
        refine r_iload_n C dX6_rankedColumn_33 rfl rfl ?_
        refine r_iadd C dX6_rankedColumn_34 ?_
        refine r_iald C (10 * i + j) (by decide) rfl (zix' i j) (by omega) dX6_rankedColumn_35 ?_
        refine r_topi (show _ = clf e0.2.1 j from hx.2 j (by omega)) ?_
        refine r_goto (tgt := 44) C dX6_rankedColumn_36 (by decide) ?_
        exact r_iret CE rfl rfl dX6_rankedColumn_44 (Nat.le_of_ble_eq_true rfl) (by first
    | exact ⟨_, rfl, fun _ => ⟨rfl, rfl, hM⟩, fun i e0 r he hr e8 e9 => (by rw [e8, e9, inI_n (by have := (List.getElem?_eq_some_iff.mp he).1; omega), decide_eq_true (List.getElem?_eq_some_iff.mp he).1, inI_n (by omega), decide_eq_true hr] at e; cases e), Fr.t2 _ _⟩
    | exact ⟨_, rfl, fun q => (by rw [e] at q; cases q), fun k e1 r he1 hr e8 e9 => (by
      have hk := (List.getElem?_eq_some_iff.mp he1).1
      have e6 := (nI_eq (by omega) (by omega)).mp e8
      have e7 := (nI_eq (by omega) (by omega)).mp e9
      subst e6
      subst e7
      rw [he] at he1
      cases he1
      exact ⟨rfl, rfl, hM⟩), Fr.t1 _⟩)
