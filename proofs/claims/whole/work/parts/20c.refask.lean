theorem Fr.t1 {X : St} (x : Int32) : Fr Mp X (Ym X 37 0 x) := Fr.m x (by decide)
theorem Fr.t2 {X : St} (x y : Int32) : Fr Mp X (Ym (Ym X 37 0 x) 37 0 y) := (Fr.m x (by decide)).tr (Fr.m y (by decide))
theorem al_i {z : Nat → Int} {k : Nat} : al z k = true ↔ z k ≠ 20000 := by unfold al; simp
theorem al_f {z : Nat → Int} {k : Nat} : al z k = false ↔ z k = 20000 := by unfold al; simp
set_option maxHeartbeats 4000000 in
set_option maxRecDepth 100000 in
/-- X6_rowCount  -/
theorem con_X6_rowCount (l : Launch) (hfl : l.stackTraces = false) {A : DA} (X : St) (hM : MInv X A) : Con l yX6_rowCount cX6_rowCount 1 (some (FieldType.int)) 0 0 0 (fun G => [.ref (G.2.1 37)]) X (kI (fun r9 X' => r9 = nI A.R ∧ Zm X' 37 0 = 0 ∧ MInv X' A ∧ Fr Mp X X')) kF := by
  refine con_of (lv := fun G => [(0, .ref (G.2.1 37))]) hfl (by decide +kernel) (fun _ => rfl) (fun _ => Nat.le_of_ble_eq_true rfl) ?_
  intro G J JX CE
  have C := CE.b
  refine r_aload_n C dX6_rowCount_0 rfl rfl ?_
  refine r_iconst (v := 0) C dX6_rowCount_1 (by decide) ?_
  refine pf_RX6_77 C dX6_rowCount_2 ?_
  refine r_aload_n C dX6_rowCount_5 rfl rfl ?_
  refine gf_RX6_81 C dX6_rowCount_6 ?_
  refine r_topi (show _ = nI A.R from hM.b.1) ?_
  exact r_iret CE rfl rfl dX6_rowCount_9 (Nat.le_of_ble_eq_true rfl) ⟨_, rfl, rfl, rfl, hM, Fr.t1 _⟩
set_option maxHeartbeats 4000000 in
set_option maxRecDepth 100000 in
/-- X6_columnCount  -/
theorem con_X6_columnCount (l : Launch) (hfl : l.stackTraces = false) {A : DA} (X : St) (hM : MInv X A) : Con l yX6_columnCount cX6_columnCount 1 (some (FieldType.int)) 0 0 0 (fun G => [.ref (G.2.1 37)]) X (kI (fun r9 X' => r9 = nI A.C ∧ Zm X' 37 0 = 0 ∧ MInv X' A ∧ Fr Mp X X')) kF := by
  refine con_of (lv := fun G => [(0, .ref (G.2.1 37))]) hfl (by decide +kernel) (fun _ => rfl) (fun _ => Nat.le_of_ble_eq_true rfl) ?_
  intro G J JX CE
  have C := CE.b
  refine r_aload_n C dX6_columnCount_0 rfl rfl ?_
  refine r_iconst (v := 0) C dX6_columnCount_1 (by decide) ?_
  refine pf_RX6_77 C dX6_columnCount_2 ?_
  refine r_aload_n C dX6_columnCount_5 rfl rfl ?_
  refine gf_RX6_84 C dX6_columnCount_6 ?_
  refine r_topi (show _ = nI A.C from hM.b.2.1) ?_
  exact r_iret CE rfl rfl dX6_columnCount_9 (Nat.le_of_ble_eq_true rfl) ⟨_, rfl, rfl, rfl, hM, Fr.t1 _⟩
set_option maxHeartbeats 4000000 in
set_option maxRecDepth 100000 in
/-- X6_isAllowed  -/
theorem con_X6_isAllowed (l : Launch) (hfl : l.stackTraces = false) {A : DA} {x y : Int32} (X : St) (hM : MInv X A) : Con l yX6_isAllowed cX6_isAllowed 3 (some (FieldType.boolean)) 2 60 0 (fun G => [.ref (G.2.1 37), .int x, .int y]) X (kI (fun r9 X' => ((inI x A.R && inI y A.C) = false → r9 = 0 ∧ Zm X' 37 0 = 1 ∧ MInv X' A) ∧ (∀ r c, r < A.R → c < A.C → x = nI r → y = nI c → r9 = bI (al A.z (10 * r + c)) ∧ Zm X' 37 0 = 0 ∧ MInv X' A) ∧ Fr Mp X X')) kF := by
  refine con_of (lv := fun G => [(0, .ref (G.2.1 37)), (1, .int x), (2, .int y)]) hfl (by decide +kernel) (fun _ => rfl) (fun _ => Nat.le_of_ble_eq_true rfl) ?_
  intro G J JX CE
  have C := CE.b
  have hR10 := hM.ok.R
  have hC10 := hM.ok.C
  refine r_aload_n C dX6_isAllowed_0 rfl rfl ?_
  refine r_iconst (v := 0) C dX6_isAllowed_1 (by decide) ?_
  refine pf_RX6_77 C dX6_isAllowed_2 ?_
  refine r_aload_n C dX6_isAllowed_5 rfl rfl ?_
  refine r_iload_n C dX6_isAllowed_6 rfl rfl ?_
  refine r_iload_n C dX6_isAllowed_7 rfl rfl ?_
  refine cl_RX6_105 C (con_X6_isPair l hfl (Ym X 37 0 0) (R := A.R) (C0 := A.C) hM.b.1 hM.ok.R hM.b.2.1 hM.ok.C) dX6_isAllowed_8 rfl ⟨Nat.le_of_ble_eq_true rfl, Nat.le_of_ble_eq_true rfl⟩ (by omega) (Nat.le_of_ble_eq_true rfl) (fun r_8 X_8 h_8 => ?_)
  obtain ⟨rfl, rfl⟩ := h_8
  refine r_if_eq (tgt := 28) C dX6_isAllowed_11 (by decide) (fun c_11 => ?_) (fun c_11 => ?_)
  · -- 28
    have e := bI_0 c_11
    refine r_aload_n C dX6_isAllowed_28 rfl rfl ?_
    refine r_iconst (v := 1) C dX6_isAllowed_29 (by decide) ?_
    refine cl_RX6_102 C (con_X6_failed l hfl _) dX6_isAllowed_30 rfl ⟨Nat.le_of_ble_eq_true rfl, Nat.le_of_ble_eq_true rfl⟩ (by omega) (Nat.le_of_ble_eq_true rfl) (fun r_30 X_30 h_30 => ?_)
    obtain ⟨rfl, rfl⟩ := h_30
    exact r_iret CE rfl (by first | rfl | exact bI_nar _) dX6_isAllowed_33 (Nat.le_of_ble_eq_true rfl) (by first
    | exact ⟨_, rfl, fun _ => ⟨rfl, rfl, hM⟩, fun r c hr hc e8 e9 => (by rw [e8, e9, inI_n (by omega), inI_n (by omega), decide_eq_true hr, decide_eq_true hc] at e; cases e), Fr.t2 _ _⟩
    | exact ⟨_, rfl, fun q => (by rw [e10] at q; cases q), fun r c hr hc e8 e9 => (by rw [← (nI_eq (by omega) (by omega)).mp e8, ← (nI_eq (by omega) (by omega)).mp e9]; exact ⟨rfl, rfl, hM⟩), Fr.t1 _⟩)
  · -- 14
    have ep := bI_1 c_11
    rw [Bool.and_eq_true] at ep
    obtain ⟨i, hi, rfl⟩ := inI_t ep.1
    obtain ⟨j, hj, rfl⟩ := inI_t ep.2
    have e10 : (inI (nI i) A.R && inI (nI j) A.C) = true := by rw [ep.1, ep.2]; rfl
    refine r_aload_n C dX6_isAllowed_14 rfl rfl ?_
    refine gf_RX6_16 C dX6_isAllowed_15 ?_
    refine r_bipush (v := 10) C dX6_isAllowed_18 (by decide) ?_
    refine r_iload_n C dX6_isAllowed_20 rfl rfl ?_
    refine r_imul C dX6_isAllowed_21 ?_
    refine r_iload_n C dX6_isAllowed_22 rfl rfl ?_
    refine r_iadd C dX6_isAllowed_23 ?_
    refine r_zald C (10 * i + j) (by decide) rfl (zix' i j) (by omega) dX6_isAllowed_24 ?_
    refine r_topi (show _ = bI (al A.z (10 * i + j)) from hM.b.2.2.2.2.1 _ (by omega)) ?_
    refine r_goto (tgt := 33) C dX6_isAllowed_25 (by decide) ?_
    exact r_iret CE rfl (by first | rfl | exact bI_nar _) dX6_isAllowed_33 (Nat.le_of_ble_eq_true rfl) (by first
    | exact ⟨_, rfl, fun _ => ⟨rfl, rfl, hM⟩, fun r c hr hc e8 e9 => (by rw [e8, e9, inI_n (by omega), inI_n (by omega), decide_eq_true hr, decide_eq_true hc] at e; cases e), Fr.t2 _ _⟩
    | exact ⟨_, rfl, fun q => (by rw [e10] at q; cases q), fun r c hr hc e8 e9 => (by rw [← (nI_eq (by omega) (by omega)).mp e8, ← (nI_eq (by omega) (by omega)).mp e9]; exact ⟨rfl, rfl, hM⟩), Fr.t1 _⟩)
set_option maxHeartbeats 4000000 in
set_option maxRecDepth 100000 in
/-- X6_cost  -/
theorem con_X6_cost (l : Launch) (hfl : l.stackTraces = false) {A : DA} {x y : Int32} (X : St) (hM : MInv X A) : Con l yX6_cost cX6_cost 3 (some (FieldType.int)) 2 60 0 (fun G => [.ref (G.2.1 37), .int x, .int y]) X (kI (fun r9 X' => ((inI x A.R && inI y A.C) = false → r9 = 0 ∧ Zm X' 37 0 = 1 ∧ MInv X' A) ∧ (∀ r c, r < A.R → c < A.C → x = nI r → y = nI c → (A.z (10 * r + c) = 20000 → r9 = 0 ∧ Zm X' 37 0 = 2 ∧ MInv X' A) ∧ (A.z (10 * r + c) ≠ 20000 → r9 = i32 (A.z (10 * r + c)) ∧ Zm X' 37 0 = 0 ∧ MInv X' A)) ∧ Fr Mp X X')) kF := by
  refine con_of (lv := fun G => [(0, .ref (G.2.1 37)), (1, .int x), (2, .int y)]) hfl (by decide +kernel) (fun _ => rfl) (fun _ => Nat.le_of_ble_eq_true rfl) ?_
  intro G J JX CE
  have C := CE.b
  have hR10 := hM.ok.R
  have hC10 := hM.ok.C
  refine r_aload_n C dX6_cost_0 rfl rfl ?_
  refine r_iconst (v := 0) C dX6_cost_1 (by decide) ?_
  refine pf_RX6_77 C dX6_cost_2 ?_
  refine r_aload_n C dX6_cost_5 rfl rfl ?_
  refine r_iload_n C dX6_cost_6 rfl rfl ?_
  refine r_iload_n C dX6_cost_7 rfl rfl ?_
  refine cl_RX6_105 C (con_X6_isPair l hfl (Ym X 37 0 0) (R := A.R) (C0 := A.C) hM.b.1 hM.ok.R hM.b.2.1 hM.ok.C) dX6_cost_8 rfl ⟨Nat.le_of_ble_eq_true rfl, Nat.le_of_ble_eq_true rfl⟩ (by omega) (Nat.le_of_ble_eq_true rfl) (fun r_8 X_8 h_8 => ?_)
  obtain ⟨rfl, rfl⟩ := h_8
  refine r_if_ne (tgt := 20) C dX6_cost_11 (by decide) (fun c_11 => ?_) (fun c_11 => ?_)
  · -- 20
    have ep := bI_1 c_11
    rw [Bool.and_eq_true] at ep
    obtain ⟨i, hi, rfl⟩ := inI_t ep.1
    obtain ⟨j, hj, rfl⟩ := inI_t ep.2
    have e10 : (inI (nI i) A.R && inI (nI j) A.C) = true := by rw [ep.1, ep.2]; rfl
    refine r_aload_n C dX6_cost_20 rfl rfl ?_
    refine gf_RX6_16 C dX6_cost_21 ?_
    refine r_bipush (v := 10) C dX6_cost_24 (by decide) ?_
    refine r_iload_n C dX6_cost_26 rfl rfl ?_
    refine r_imul C dX6_cost_27 ?_
    refine r_iload_n C dX6_cost_28 rfl rfl ?_
    refine r_iadd C dX6_cost_29 ?_
    refine r_zald C (10 * i + j) (by decide) rfl (zix' i j) (by omega) dX6_cost_30 ?_
    refine r_topi (show _ = bI (al A.z (10 * i + j)) from hM.b.2.2.2.2.1 _ (by omega)) ?_
    refine r_if_eq (tgt := 48) C dX6_cost_31 (by decide) (fun c_31 => ?_) (fun c_31 => ?_)
    · -- 48
      have ea := bI_0 c_31
      have e2 := al_f.mp ea
      refine r_aload_n C dX6_cost_48 rfl rfl ?_
      refine r_iconst (v := 2) C dX6_cost_49 (by decide) ?_
      refine cl_RX6_98 C (con_X6_fail l hfl _) dX6_cost_50 rfl ⟨Nat.le_of_ble_eq_true rfl, Nat.le_of_ble_eq_true rfl⟩ (by omega) (Nat.le_of_ble_eq_true rfl) (fun r_50 X_50 h_50 => ?_)
      obtain ⟨rfl, rfl⟩ := h_50
      exact r_iret CE rfl rfl dX6_cost_53 (Nat.le_of_ble_eq_true rfl) (by first
    | exact ⟨_, rfl, fun q => (by rw [e10] at q; cases q), fun r c hr hc e8 e9 => (by rw [← (nI_eq (by omega) (by omega)).mp e8, ← (nI_eq (by omega) (by omega)).mp e9]; exact ⟨fun _ => ⟨rfl, rfl, hM⟩, fun q => absurd e2 q⟩), Fr.t2 _ _⟩
    | exact ⟨_, rfl, fun q => (by rw [e10] at q; cases q), fun r c hr hc e8 e9 => (by rw [← (nI_eq (by omega) (by omega)).mp e8, ← (nI_eq (by omega) (by omega)).mp e9]; exact ⟨fun q => absurd q e2, fun _ => ⟨rfl, rfl, hM⟩⟩), Fr.t1 _⟩)
    · -- 34
      have ea := bI_1 c_31
      have e2 := al_i.mp ea
      refine r_aload_n C dX6_cost_34 rfl rfl ?_
      refine gf_RX6_19 C dX6_cost_35 ?_
      refine r_bipush (v := 10) C dX6_cost_38 (by decide) ?_
      refine r_iload_n C dX6_cost_40 rfl rfl ?_
      refine r_imul C dX6_cost_41 ?_
      refine r_iload_n C dX6_cost_42 rfl rfl ?_
      refine r_iadd C dX6_cost_43 ?_
      refine r_iald C (10 * i + j) (by decide) rfl (zix' i j) (by omega) dX6_cost_44 ?_
      refine r_topi (show _ = i32 (A.z (10 * i + j)) from hM.b.2.2.2.2.2 _ (by omega) ea) ?_
      refine r_goto (tgt := 53) C dX6_cost_45 (by decide) ?_
      exact r_iret CE rfl rfl dX6_cost_53 (Nat.le_of_ble_eq_true rfl) (by first
    | exact ⟨_, rfl, fun q => (by rw [e10] at q; cases q), fun r c hr hc e8 e9 => (by rw [← (nI_eq (by omega) (by omega)).mp e8, ← (nI_eq (by omega) (by omega)).mp e9]; exact ⟨fun _ => ⟨rfl, rfl, hM⟩, fun q => absurd e2 q⟩), Fr.t2 _ _⟩
    | exact ⟨_, rfl, fun q => (by rw [e10] at q; cases q), fun r c hr hc e8 e9 => (by rw [← (nI_eq (by omega) (by omega)).mp e8, ← (nI_eq (by omega) (by omega)).mp e9]; exact ⟨fun q => absurd q e2, fun _ => ⟨rfl, rfl, hM⟩⟩), Fr.t1 _⟩)
  · -- 14
    have e := bI_0 c_11
    refine r_aload_n C dX6_cost_14 rfl rfl ?_
    refine r_iconst (v := 1) C dX6_cost_15 (by decide) ?_
    refine cl_RX6_98 C (con_X6_fail l hfl _) dX6_cost_16 rfl ⟨Nat.le_of_ble_eq_true rfl, Nat.le_of_ble_eq_true rfl⟩ (by omega) (Nat.le_of_ble_eq_true rfl) (fun r_16 X_16 h_16 => ?_)
    obtain ⟨rfl, rfl⟩ := h_16
    exact r_iret CE rfl rfl dX6_cost_19 (Nat.le_of_ble_eq_true rfl) ⟨_, rfl, fun _ => ⟨rfl, rfl, hM⟩, fun r c hr hc e8 e9 => (by rw [e8, e9, inI_n (by omega), inI_n (by omega), decide_eq_true hr, decide_eq_true hc] at e; cases e), Fr.t2 _ _⟩
theorem shok_ext {z : Nat → Int} {r C : Nat} {x : Int} (h : ∀ c, C ≤ c → c < 10 → z (10 * r + c) = 20000) : ∀ n, n ≤ 10 → C ≤ n → shok z r x n = shok z r x C
  | 0, _, h2 => by rw [show C = 0 by omega]
  | n + 1, h1, h2 => by
    rcases Nat.lt_or_ge n C with g | g
    · rw [show C = n + 1 by omega]
    · rw [shok, shok_ext h n (by omega) g, decide_eq_true (h n g (by omega)), Bool.true_or, Bool.and_true]
theorem alw_ext {z : Nat → Int} {r C : Nat} (h : ∀ c, C ≤ c → c < 10 → z (10 * r + c) = 20000) : ∀ n, n ≤ 10 → C ≤ n → alw z r n = alw z r C
  | 0, _, h2 => by rw [show C = 0 by omega]
  | n + 1, h1, h2 => by
    rcases Nat.lt_or_ge n C with g | g
    · rw [show C = n + 1 by omega]
    · rw [alw, if_pos (h n g (by omega)), alw_ext h n (by omega) g]
theorem al_shz {z : Nat → Int} {r k : Nat} {x : Int} (hs : shok z r x 10 = true) (hk : k < 100) : al (shz z r x) k = al z k := by
  unfold al shz
  split
  · rename_i g
    rcases shok_at 10 hs (k % 10) (by omega) with e | e
    · rw [show 10 * r + k % 10 = k by omega] at e
      exact absurd e g.2
    · rw [show 10 * r + k % 10 = k by omega] at e
      have := inC_i e
      rw [decide_eq_false (by omega), decide_eq_false g.2]
  · rfl
set_option maxHeartbeats 4000000 in
set_option maxRecDepth 100000 in
theorem lp_X6_addToRow2 {l : Launch} {G : Geo} {J : JT} {JX : JXT} {X : St} (hfl : l.stackTraces = false) {A : DA} {r : Nat} {v : Int32} (hM : MInv X A) (hr : r < A.R) (hs : shok A.z r v.toInt 10 = true) (CE : Cl l RX6 cX6_addToRow 5 (some .int) [] G 2 60 0 (kI (fun r9 X' => (inI (nI r) A.R = false → r9 = 0 ∧ Zm X' 37 0 = 1 ∧ MInv X' A) ∧ (∀ q, q < A.R → nI r = nI q → (shok A.z q v.toInt 10 = false → r9 = 0 ∧ Zm X' 37 0 = 2 ∧ MInv X' A) ∧ (shok A.z q v.toInt 10 = true → r9 = nI (alw A.z q 10) ∧ Zm X' 37 0 = 0 ∧ MInv X' (A.tab A.R A.C A.ra A.ca (shz A.z q v.toInt)))) ∧ Fr Mp X X')) kF J JX) :
    ∀ n c (f : Nat → Int32), c + n = A.C → (∀ k, k < 100 → al A.z k = true → f k = if k / 10 = r ∧ k % 10 < c then i32 (shz A.z r v.toInt k) else i32 (A.z k)) → J (Yv (Ym X 37 0 0) 41 f) 0 91 [(4, .int (nI c)), (3, .int (nI (alw A.z r 10))), (0, .ref (G.2.1 37)), (1, .int (nI r)), (2, .int v)] [] := by
  have C := CE.b
  intro n
  induction n with
  | zero =>
    intro c f h hf
    have hc : c = A.C := by omega
    subst hc
    have hR10 := hM.ok.R
    have hMB : MB (Yv (Ym X 37 0 0) 41 f) A.R A.C A.ra A.ca (shz A.z r v.toInt) := by
      refine ⟨hM.b.1, hM.b.2.1, hM.b.2.2.1, hM.b.2.2.2.1, fun k hk => by rw [al_shz hs hk]; exact hM.b.2.2.2.2.1 k hk, fun k hk ha => ?_⟩
      rw [al_shz hs hk] at ha
      show f k = _
      rw [hf k hk ha]
      have hlc : k % 10 < A.C := Nat.lt_of_not_le (fun q => al_i.mp ha (hM.ok.t.2.2.2 k hk (Or.inr q)))
      by_cases e : k / 10 = r
      · rw [if_pos ⟨e, hlc⟩]
      · rw [if_neg (fun q => e q.1)]
        unfold shz
        rw [if_neg (fun q => e q.1)]
    have hF := (Fr.m (X := X) (P := fun k => 37 ≤ k ∧ k ≤ 41) (k := 37) (j := 0) 0 ⟨by omega, by omega⟩).tr (Fr.v (k := 41) f ⟨by omega, by omega⟩)
    refine r_iload C dX6_addToRow_91 rfl ?_
    refine r_aload_n C dX6_addToRow_93 rfl rfl ?_
    refine gf_RX6_84 C dX6_addToRow_94 ?_
    refine r_topi (show _ = nI A.C from hM.b.2.1) ?_
    refine r_icmp_ge (tgt := 137) C dX6_addToRow_97 (by decide) (fun c_97 => ?_) (fun c_97 => absurd ((Int32.le_refl _)) c_97)
    refine r_iload_n C dX6_addToRow_137 rfl rfl ?_
    exact r_iret CE rfl rfl dX6_addToRow_138 (Nat.le_of_ble_eq_true rfl) ⟨_, rfl, fun q => (by rw [inI_n (by omega), decide_eq_true hr] at q; cases q), fun q hq eq => (by
      have e8 := (nI_eq (by omega) (by omega)).mp eq
      subst e8
      exact ⟨fun w => (by rw [hs] at w; cases w), fun _ => ⟨rfl, rfl, hM.tab hF rfl rfl hMB (hM.ok.tb (shz_tok hM.ok.t hs))⟩⟩), hF.mm⟩
  | succ n ih =>
    intro c f h hf
    have hR10 := hM.ok.R
    have hC10 := hM.ok.C
    have hv1 := Int32.le_toInt v
    have hv2 := Int32.toInt_lt v
    have hlt : c < A.C := by omega
    have hal := hM.b.2.2.2.2.1 (10 * r + c) (by omega)
    have hzk := hM.ok.t.2.2.1 (10 * r + c) (by omega)
    refine r_iload C dX6_addToRow_91 rfl ?_
    refine r_aload_n C dX6_addToRow_93 rfl rfl ?_
    refine gf_RX6_84 C dX6_addToRow_94 ?_
    refine r_topi (show _ = nI A.C from hM.b.2.1) ?_
    refine r_icmp_ge (tgt := 137) C dX6_addToRow_97 (by decide) (fun c_97 => absurd c_97 ((nI_ge (a := c) (b := A.C) hlt (by omega)))) (fun c_97 => ?_)
    refine r_aload_n C dX6_addToRow_100 rfl rfl ?_
    refine gf_RX6_16 C dX6_addToRow_101 ?_
    refine r_bipush (v := 10) C dX6_addToRow_104 (by decide) ?_
    refine r_iload_n C dX6_addToRow_106 rfl rfl ?_
    refine r_imul C dX6_addToRow_107 ?_
    refine r_iload C dX6_addToRow_108 rfl ?_
    refine r_iadd C dX6_addToRow_110 ?_
    refine r_zald C (10 * r + c) (by decide) rfl (zix' r c) (by omega) dX6_addToRow_111 ?_
    refine r_topi (show _ = bI (al A.z (10 * r + c)) from hal) ?_
    refine r_if_eq (tgt := 131) C dX6_addToRow_112 (by decide) (fun c_112 => ?_) (fun c_112 => ?_)
    · -- 131
      have ea := bI_0 c_112
      have hf9 : ∀ k, k < 100 → al A.z k = true → f k = if k / 10 = r ∧ k % 10 < c + 1 then i32 (shz A.z r v.toInt k) else i32 (A.z k) := fun k hk ha => by
        rw [hf k hk ha]
        by_cases e2 : k = 10 * r + c
        · rw [e2, ea] at ha; cases ha
        · by_cases e3 : k / 10 = r ∧ k % 10 < c
          · rw [if_pos e3, if_pos (by omega)]
          · rw [if_neg e3, if_neg (by omega)]
      refine r_iinc (v := _) C dX6_addToRow_131 rfl (nI_1 c) ?_
      refine r_goto (tgt := 91) C dX6_addToRow_134 (by decide) ?_
      refine r_sub C (lv' := [(4, .int (nI (c + 1))), (3, .int (nI (alw A.z r 10))), (0, .ref (G.2.1 37)), (1, .int (nI r)), (2, .int v)]) ⟨rfl, rfl, rfl, rfl, rfl, trivial⟩ ?_
      exact ih (c + 1) _ (by omega) hf9
    · -- 115
      have ea := bI_1 c_112
      have hfc : f (10 * r + c) = i32 (A.z (10 * r + c)) := by rw [hf _ (by omega) ea, if_neg (by omega)]
      refine r_aload_n C dX6_addToRow_115 rfl rfl ?_
      refine gf_RX6_19 C dX6_addToRow_116 ?_
      refine r_bipush (v := 10) C dX6_addToRow_119 (by decide) ?_
      refine r_iload_n C dX6_addToRow_121 rfl rfl ?_
      refine r_imul C dX6_addToRow_122 ?_
      refine r_iload C dX6_addToRow_123 rfl ?_
      refine r_iadd C dX6_addToRow_125 ?_
      refine r_dup2 C dX6_addToRow_126 rfl rfl ?_
      refine r_iald C (10 * r + c) (by decide) rfl (zix' r c) (by omega) dX6_addToRow_127 ?_
      refine r_topi (show _ = i32 (A.z (10 * r + c)) from hfc) ?_
      refine r_iload_n C dX6_addToRow_128 rfl rfl ?_
      refine r_iadd C dX6_addToRow_129 ?_
      refine r_topi (show _ = i32 (A.z (10 * r + c) + v.toInt) by rw [← i32_add, ← i32_of]) ?_
      refine r_iast C (10 * r + c) (by decide) rfl (zix' r c) (by omega) dX6_addToRow_130 ?_
      refine r_st (Yv_Yv (Ym X 37 0 0) 41 f _) ?_
      have hf9 : ∀ k, k < 100 → al A.z k = true → upd (Zv (Yv (Ym X 37 0 0) 41 f) 41) (10 * r + c) (i32 (A.z (10 * r + c) + v.toInt)) k = if k / 10 = r ∧ k % 10 < c + 1 then i32 (shz A.z r v.toInt k) else i32 (A.z k) := fun k hk ha => by
        unfold upd
        by_cases e2 : k = 10 * r + c
        · rw [if_pos e2, if_pos (by omega), e2]
          unfold shz
          rw [if_pos ⟨by omega, al_i.mp ea⟩]
        · rw [if_neg e2, Zv_Yv, if_pos rfl, hf k hk ha]
          by_cases e3 : k / 10 = r ∧ k % 10 < c
          · rw [if_pos e3, if_pos (by omega)]
          · rw [if_neg e3, if_neg (by omega)]
      refine r_iinc (v := _) C dX6_addToRow_131 rfl (nI_1 c) ?_
      refine r_goto (tgt := 91) C dX6_addToRow_134 (by decide) ?_
      refine r_sub C (lv' := [(4, .int (nI (c + 1))), (3, .int (nI (alw A.z r 10))), (0, .ref (G.2.1 37)), (1, .int (nI r)), (2, .int v)]) ⟨rfl, rfl, rfl, rfl, rfl, trivial⟩ ?_
      exact ih (c + 1) _ (by omega) hf9

set_option maxHeartbeats 4000000 in
set_option maxRecDepth 100000 in
theorem lp_X6_addToRow1 {l : Launch} {G : Geo} {J : JT} {JX : JXT} {X : St} (hfl : l.stackTraces = false) {A : DA} {r : Nat} {v : Int32} (hM : MInv X A) (hr : r < A.R) (CE : Cl l RX6 cX6_addToRow 5 (some .int) [] G 2 60 0 (kI (fun r9 X' => (inI (nI r) A.R = false → r9 = 0 ∧ Zm X' 37 0 = 1 ∧ MInv X' A) ∧ (∀ q, q < A.R → nI r = nI q → (shok A.z q v.toInt 10 = false → r9 = 0 ∧ Zm X' 37 0 = 2 ∧ MInv X' A) ∧ (shok A.z q v.toInt 10 = true → r9 = nI (alw A.z q 10) ∧ Zm X' 37 0 = 0 ∧ MInv X' (A.tab A.R A.C A.ra A.ca (shz A.z q v.toInt)))) ∧ Fr Mp X X')) kF J JX) :
    ∀ n c, c + n = A.C → shok A.z r v.toInt c = true → J (Ym X 37 0 0) 0 24 [(3, .int (nI (alw A.z r c))), (4, .int (nI c)), (0, .ref (G.2.1 37)), (1, .int (nI r)), (2, .int v)] [] := by
  have C := CE.b
  intro n
  induction n with
  | zero =>
    intro c h hs
    have hc : c = A.C := by omega
    subst hc
    have hR10 := hM.ok.R
    have hout : ∀ c, A.C ≤ c → c < 10 → A.z (10 * r + c) = 20000 := fun c h1 h2 => hM.ok.t.2.2.2 _ (by omega) (Or.inr (by omega))
    have hs10 : shok A.z r v.toInt 10 = true := by rw [shok_ext hout 10 (Nat.le_refl _) hM.ok.C]; exact hs
    have ha10 := alw_ext hout 10 (Nat.le_refl _) hM.ok.C
    refine r_iload C dX6_addToRow_24 rfl ?_
    refine r_aload_n C dX6_addToRow_26 rfl rfl ?_
    refine gf_RX6_84 C dX6_addToRow_27 ?_
    refine r_topi (show _ = nI A.C from hM.b.2.1) ?_
    refine r_icmp_ge (tgt := 88) C dX6_addToRow_30 (by decide) (fun c_30 => ?_) (fun c_30 => absurd ((Int32.le_refl _)) c_30)
    refine r_iconst (v := 0) C dX6_addToRow_88 (by decide) ?_
    refine r_istore C dX6_addToRow_89 (by decide) ?_
    refine r_sub C (lv' := [(4, .int (nI 0)), (3, .int (nI (alw A.z r 10))), (0, .ref (G.2.1 37)), (1, .int (nI r)), (2, .int v)]) ⟨rfl, by rw [ha10]; rfl, rfl, rfl, rfl, trivial⟩ ?_
    refine r_st (Yv_id (Ym X 37 0 0) 41).symm ?_
    exact lp_X6_addToRow2 hfl hM hr hs10 CE A.C 0 _ (by omega) (fun k hk ha => by rw [if_neg (by omega)]; exact hM.b.2.2.2.2.2 k hk ha)
  | succ n ih =>
    intro c h hs
    have hR10 := hM.ok.R
    have hC10 := hM.ok.C
    have hv1 := Int32.le_toInt v
    have hv2 := Int32.toInt_lt v
    have hlt : c < A.C := by omega
    have hal := hM.b.2.2.2.2.1 (10 * r + c) (by omega)
    have hzk := hM.ok.t.2.2.1 (10 * r + c) (by omega)
    refine r_iload C dX6_addToRow_24 rfl ?_
    refine r_aload_n C dX6_addToRow_26 rfl rfl ?_
    refine gf_RX6_84 C dX6_addToRow_27 ?_
    refine r_topi (show _ = nI A.C from hM.b.2.1) ?_
    refine r_icmp_ge (tgt := 88) C dX6_addToRow_30 (by decide) (fun c_30 => absurd c_30 ((nI_ge (a := c) (b := A.C) hlt (by omega)))) (fun c_30 => ?_)
    refine r_aload_n C dX6_addToRow_33 rfl rfl ?_
    refine gf_RX6_16 C dX6_addToRow_34 ?_
    refine r_bipush (v := 10) C dX6_addToRow_37 (by decide) ?_
    refine r_iload_n C dX6_addToRow_39 rfl rfl ?_
    refine r_imul C dX6_addToRow_40 ?_
    refine r_iload C dX6_addToRow_41 rfl ?_
    refine r_iadd C dX6_addToRow_43 ?_
    refine r_zald C (10 * r + c) (by decide) rfl (zix' r c) (by omega) dX6_addToRow_44 ?_
    refine r_topi (show _ = bI (al A.z (10 * r + c)) from hal) ?_
    refine r_if_ne (tgt := 51) C dX6_addToRow_45 (by decide) (fun c_45 => ?_) (fun c_45 => ?_)
    · -- 51
      have ea := bI_1 c_45
      have e := al_i.mp ea
      refine r_aload_n C dX6_addToRow_51 rfl rfl ?_
      refine gf_RX6_19 C dX6_addToRow_52 ?_
      refine r_bipush (v := 10) C dX6_addToRow_55 (by decide) ?_
      refine r_iload_n C dX6_addToRow_57 rfl rfl ?_
      refine r_imul C dX6_addToRow_58 ?_
      refine r_iload C dX6_addToRow_59 rfl ?_
      refine r_iadd C dX6_addToRow_61 ?_
      refine r_iald C (10 * r + c) (by decide) rfl (zix' r c) (by omega) dX6_addToRow_62 ?_
      refine r_topi (show _ = i32 (A.z (10 * r + c)) from hM.b.2.2.2.2.2 _ (by omega) ea) ?_
      refine r_i2l C dX6_addToRow_63 ?_
      refine r_topl (i32_long (by omega)) ?_
      refine r_iload_n C dX6_addToRow_64 rfl rfl ?_
      refine r_i2l C dX6_addToRow_65 ?_
      refine r_topl (x_long v) ?_
      refine r_ladd C dX6_addToRow_66 ?_
      refine r_topl (i64_add _ _) ?_
      refine cl_RX6_109 C (con_X6_isCost l hfl _ (by omega)) dX6_addToRow_67 rfl ⟨Nat.le_of_ble_eq_true rfl, Nat.le_of_ble_eq_true rfl⟩ (by omega) (Nat.le_of_ble_eq_true rfl) (fun r_67 X_67 h_67 => ?_)
      obtain ⟨rfl, rfl⟩ := h_67
      refine r_if_ne (tgt := 79) C dX6_addToRow_70 (by decide) (fun c_70 => ?_) (fun c_70 => ?_)
      · -- 79
        have hs9 : shok A.z r v.toInt (c + 1) = true := by unfold shok; rw [hs, bI_1 c_70]; simp
        have ew : alw A.z r (c + 1) = alw A.z r c + 1 := by rw [alw, if_neg e]
        refine r_iinc (v := _) C dX6_addToRow_79 rfl (show _ = nI (alw A.z r (c + 1)) by rw [ew]; exact nI_1 _) ?_
        refine r_iinc (v := _) C dX6_addToRow_82 rfl (nI_1 c) ?_
        refine r_goto (tgt := 24) C dX6_addToRow_85 (by decide) ?_
        refine r_sub C (lv' := [(3, .int (nI (alw A.z r (c + 1)))), (4, .int (nI (c + 1))), (0, .ref (G.2.1 37)), (1, .int (nI r)), (2, .int v)]) ⟨by first | rfl | (rw [ew]; rfl), rfl, rfl, rfl, rfl, trivial⟩ ?_
        exact ih (c + 1) (by omega) hs9
      · -- 73
        have hsf := shok_stop e (bI_0 c_70) 10 (by omega)
        refine r_aload_n C dX6_addToRow_73 rfl rfl ?_
        refine r_iconst (v := 2) C dX6_addToRow_74 (by decide) ?_
        refine cl_RX6_98 C (con_X6_fail l hfl _) dX6_addToRow_75 rfl ⟨Nat.le_of_ble_eq_true rfl, Nat.le_of_ble_eq_true rfl⟩ (by omega) (Nat.le_of_ble_eq_true rfl) (fun r_75 X_75 h_75 => ?_)
        obtain ⟨rfl, rfl⟩ := h_75
        exact r_iret CE rfl rfl dX6_addToRow_78 (Nat.le_of_ble_eq_true rfl) ⟨_, rfl, fun q => (by rw [inI_n (by omega), decide_eq_true hr] at q; cases q), fun q hq eq => (by
      have e8 := (nI_eq (by omega) (by omega)).mp eq
      subst e8
      exact ⟨fun _ => ⟨rfl, rfl, hM⟩, fun w => (by rw [hsf] at w; cases w)⟩), Fr.t2 _ _⟩
    · -- 48
      have ea := bI_0 c_45
      have e := al_f.mp ea
      have hs9 : shok A.z r v.toInt (c + 1) = true := by unfold shok; rw [hs, decide_eq_true e]; rfl
      have ew : alw A.z r (c + 1) = alw A.z r c := by rw [alw, if_pos e]
      refine r_goto (tgt := 82) C dX6_addToRow_48 (by decide) ?_
      refine r_iinc (v := _) C dX6_addToRow_82 rfl (nI_1 c) ?_
      refine r_goto (tgt := 24) C dX6_addToRow_85 (by decide) ?_
      refine r_sub C (lv' := [(3, .int (nI (alw A.z r (c + 1)))), (4, .int (nI (c + 1))), (0, .ref (G.2.1 37)), (1, .int (nI r)), (2, .int v)]) ⟨by first | rfl | (rw [ew]; rfl), rfl, rfl, rfl, rfl, trivial⟩ ?_
      exact ih (c + 1) (by omega) hs9

set_option maxHeartbeats 4000000 in
set_option maxRecDepth 100000 in
/-- X6_addToRow  -/
theorem con_X6_addToRow (l : Launch) (hfl : l.stackTraces = false) {A : DA} {x v : Int32} (X : St) (hM : MInv X A) : Con l yX6_addToRow cX6_addToRow 5 (some (FieldType.int)) 2 60 0 (fun G => [.ref (G.2.1 37), .int x, .int v]) X (kI (fun r9 X' => (inI x A.R = false → r9 = 0 ∧ Zm X' 37 0 = 1 ∧ MInv X' A) ∧ (∀ r, r < A.R → x = nI r → (shok A.z r v.toInt 10 = false → r9 = 0 ∧ Zm X' 37 0 = 2 ∧ MInv X' A) ∧ (shok A.z r v.toInt 10 = true → r9 = nI (alw A.z r 10) ∧ Zm X' 37 0 = 0 ∧ MInv X' (A.tab A.R A.C A.ra A.ca (shz A.z r v.toInt)))) ∧ Fr Mp X X')) kF := by
  refine con_of (lv := fun G => [(0, .ref (G.2.1 37)), (1, .int x), (2, .int v)]) hfl (by decide +kernel) (fun _ => rfl) (fun _ => Nat.le_of_ble_eq_true rfl) ?_
  intro G J JX CE
  have C := CE.b
  have hR10 := hM.ok.R
  refine r_aload_n C dX6_addToRow_0 rfl rfl ?_
  refine r_iconst (v := 0) C dX6_addToRow_1 (by decide) ?_
  refine pf_RX6_77 C dX6_addToRow_2 ?_
  refine r_aload_n C dX6_addToRow_5 rfl rfl ?_
  refine r_iload_n C dX6_addToRow_6 rfl rfl ?_
  refine cl_RX6_87 C (con_X6_isRow l hfl (Ym X 37 0 0) (R := A.R) hM.b.1 hM.ok.R) dX6_addToRow_7 rfl ⟨Nat.le_of_ble_eq_true rfl, Nat.le_of_ble_eq_true rfl⟩ (by omega) (Nat.le_of_ble_eq_true rfl) (fun r_7 X_7 h_7 => ?_)
  obtain ⟨rfl, rfl⟩ := h_7
  refine r_if_ne (tgt := 19) C dX6_addToRow_10 (by decide) (fun c_10 => ?_) (fun c_10 => ?_)
  · -- 19
    obtain ⟨r, hr, rfl⟩ := inI_t (bI_1 c_10)
    refine r_iconst (v := 0) C dX6_addToRow_19 (by decide) ?_
    refine r_istore_n C dX6_addToRow_20 rfl (by decide) ?_
    refine r_iconst (v := 0) C dX6_addToRow_21 (by decide) ?_
    refine r_istore C dX6_addToRow_22 (by decide) ?_
    refine r_sub C (lv' := [(3, .int (nI (alw A.z r 0))), (4, .int (nI 0)), (0, .ref (G.2.1 37)), (1, .int (nI r)), (2, .int v)]) ⟨rfl, rfl, rfl, rfl, rfl, trivial⟩ ?_
    exact lp_X6_addToRow1 hfl hM hr CE A.C 0 (by omega) rfl
  · -- 13
    have e := bI_0 c_10
    refine r_aload_n C dX6_addToRow_13 rfl rfl ?_
    refine r_iconst (v := 1) C dX6_addToRow_14 (by decide) ?_
    refine cl_RX6_98 C (con_X6_fail l hfl _) dX6_addToRow_15 rfl ⟨Nat.le_of_ble_eq_true rfl, Nat.le_of_ble_eq_true rfl⟩ (by omega) (Nat.le_of_ble_eq_true rfl) (fun r_15 X_15 h_15 => ?_)
    obtain ⟨rfl, rfl⟩ := h_15
    exact r_iret CE rfl rfl dX6_addToRow_18 (Nat.le_of_ble_eq_true rfl) ⟨_, rfl, fun _ => ⟨rfl, rfl, hM⟩, fun r hr e9 => (by rw [e9, inI_n (by omega), decide_eq_true hr] at e; cases e), Fr.t2 _ _⟩
