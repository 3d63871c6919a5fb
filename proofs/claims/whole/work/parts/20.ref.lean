/-! ===== the reference ===== -/
def MB (X : St) (R C a b : Nat) (z : Nat → Int) : Prop := Zm X 37 1 = nI R ∧ Zm X 37 2 = nI C ∧ (∀ k, k < 10 → Zv X 38 k = bI (a.testBit k)) ∧ (∀ k, k < 10 → Zv X 39 k = bI (b.testBit k)) ∧ (∀ k, k < 100 → Zv X 40 k = bI (al z k)) ∧ ∀ k, k < 100 → al z k = true → Zv X 41 k = i32 (z k)
def ML (X : St) (L : List (Nat × Nat × (Nat → Int))) : Prop := ∀ (i : Nat) (x : Nat × Nat × (Nat → Int)), L[i]? = some x → ∃ R C : Nat, Zv X 42 i = nI R ∧ Zv X 43 i = nI C ∧ R ≤ 10 ∧ C ≤ 10 ∧ x.1 < 2 ^ R ∧ x.2.1 < 2 ^ C ∧ (∀ k, k < 10 → Zv X 44 (10 * i + k) = bI (x.1.testBit k)) ∧ (∀ k, k < 10 → Zv X 45 (10 * i + k) = bI (x.2.1.testBit k)) ∧ (∀ k, k < 100 → Zv X 46 (100 * i + k) = bI (al x.2.2 k)) ∧ ∀ k, k < 100 → al x.2.2 k = true → Zv X 47 (100 * i + k) = i32 (x.2.2 k)
def MR (X : St) (L : List BE) : Prop := Zm X 37 19 = nI L.length ∧ L.length ≤ 30 ∧ ∀ (i : Nat) (e : BE), L[i]? = some e → Zv X 53 i = i32 (csf e.1) ∧ ∀ r, r < 10 → Zv X 54 (10 * i + r) = clf e.2.1 r
def MInv (X : St) (A : DA) : Prop := MB X A.R A.C A.ra A.ca A.z ∧ Zm X 37 7 = nI A.lv.length ∧ ML X A.lv ∧ MR X A.rl ∧ AOk A
theorem MInv.b {X : St} {A : DA} (h : MInv X A) : MB X A.R A.C A.ra A.ca A.z := h.1
theorem MInv.n {X : St} {A : DA} (h : MInv X A) : Zm X 37 7 = nI A.lv.length := h.2.1
theorem MInv.l {X : St} {A : DA} (h : MInv X A) : ML X A.lv := h.2.2.1
theorem MInv.r {X : St} {A : DA} (h : MInv X A) : MR X A.rl := h.2.2.2.1
theorem MInv.ok {X : St} {A : DA} (h : MInv X A) : AOk A := h.2.2.2.2
abbrev Mp (k : Nat) : Prop := 37 ≤ k
theorem MInv.th {X : St} {A : DA} (h : MInv X A) (x : Int32) : MInv (Ym X 37 0 x) A := h
theorem Fr.th {X Y : St} (h : Fr Mp X Y) {k j : Nat} (x : Int32) (hk : 37 ≤ k) : Fr Mp X (Ym Y k j x) := h.tr (Fr.m x hk)
/-- the table of the reference has changed -/
theorem MInv.tab {X Y : St} {A : DA} {R C a b : Nat} {z : Nat → Int} (h : MInv X A) (hF : Fr (fun k => 37 ≤ k ∧ k ≤ 41) X Y) (h7 : Zm Y 37 7 = Zm X 37 7) (h19 : Zm Y 37 19 = Zm X 37 19) (hb : MB Y R C a b z) (hok : AOk (A.tab R C a b z)) : MInv Y (A.tab R C a b z) := by
  refine ⟨hb, by rw [h7]; exact h.n, fun i x hx => ?_, ⟨by rw [h19]; exact h.r.1, h.r.2.1, fun i e he => ?_⟩, hok⟩
  · rw [(hF 42 (by omega)).2.1, (hF 43 (by omega)).2.1, (hF 44 (by omega)).2.1, (hF 45 (by omega)).2.1, (hF 46 (by omega)).2.1, (hF 47 (by omega)).2.1]
    exact h.l i x hx
  · rw [(hF 53 (by omega)).2.1, (hF 54 (by omega)).2.1]
    exact h.r.2.2 i e he
theorem b10 {r : Nat} (h : r < 10) : (bI true : Int32) = 1 := rfl
set_option maxHeartbeats 4000000 in
set_option maxRecDepth 100000 in
/-- X6_thrown  -/
theorem con_X6_thrown (l : Launch) (hfl : l.stackTraces = false)  (X : St)  : Con l yX6_thrown cX6_thrown 1 (some (FieldType.int)) 0 0 0 (fun G => [.ref (G.2.1 37)]) X (kI (fun r9 X' => r9 = Zm X 37 0 ∧ X = X')) kF := by
  refine con_of (lv := fun G => [(0, .ref (G.2.1 37))]) hfl (by decide +kernel) (fun _ => rfl) (fun _ => Nat.le_of_ble_eq_true rfl) ?_
  intro G J JX CE
  have C := CE.b
  refine r_aload_n C dX6_thrown_0 rfl rfl ?_
  refine gf_RX6_77 C dX6_thrown_1 ?_
  exact r_iret CE rfl rfl dX6_thrown_4 (Nat.le_of_ble_eq_true rfl) ⟨_, rfl, rfl, rfl⟩
set_option maxHeartbeats 4000000 in
set_option maxRecDepth 100000 in
/-- X6_fail  -/
theorem con_X6_fail (l : Launch) (hfl : l.stackTraces = false) {x : Int32} (X : St)  : Con l yX6_fail cX6_fail 2 (some (FieldType.int)) 0 0 0 (fun G => [.ref (G.2.1 37), .int x]) X (kI (fun r9 X' => r9 = 0 ∧ Ym X 37 0 x = X')) kF := by
  refine con_of (lv := fun G => [(0, .ref (G.2.1 37)), (1, .int x)]) hfl (by decide +kernel) (fun _ => rfl) (fun _ => Nat.le_of_ble_eq_true rfl) ?_
  intro G J JX CE
  have C := CE.b
  refine r_aload_n C dX6_fail_0 rfl rfl ?_
  refine r_iload_n C dX6_fail_1 rfl rfl ?_
  refine pf_RX6_77 C dX6_fail_2 ?_
  refine r_iconst (v := 0) C dX6_fail_5 (by decide) ?_
  exact r_iret CE rfl rfl dX6_fail_6 (Nat.le_of_ble_eq_true rfl) ⟨_, rfl, rfl, rfl⟩
set_option maxHeartbeats 4000000 in
set_option maxRecDepth 100000 in
/-- X6_failed  -/
theorem con_X6_failed (l : Launch) (hfl : l.stackTraces = false) {x : Int32} (X : St)  : Con l yX6_failed cX6_failed 2 (some (FieldType.boolean)) 0 0 0 (fun G => [.ref (G.2.1 37), .int x]) X (kI (fun r9 X' => r9 = 0 ∧ Ym X 37 0 x = X')) kF := by
  refine con_of (lv := fun G => [(0, .ref (G.2.1 37)), (1, .int x)]) hfl (by decide +kernel) (fun _ => rfl) (fun _ => Nat.le_of_ble_eq_true rfl) ?_
  intro G J JX CE
  have C := CE.b
  refine r_aload_n C dX6_failed_0 rfl rfl ?_
  refine r_iload_n C dX6_failed_1 rfl rfl ?_
  refine pf_RX6_77 C dX6_failed_2 ?_
  refine r_iconst (v := 0) C dX6_failed_5 (by decide) ?_
  exact r_iret CE rfl rfl dX6_failed_6 (Nat.le_of_ble_eq_true rfl) ⟨_, rfl, rfl, rfl⟩
set_option maxHeartbeats 4000000 in
set_option maxRecDepth 100000 in
/-- X6_isRow  -/
theorem con_X6_isRow (l : Launch) (hfl : l.stackTraces = false) {R : Nat} {x : Int32} (X : St) (hR : Zm X 37 1 = nI R) (hR2 : R ≤ 10) : Con l yX6_isRow cX6_isRow 2 (some (FieldType.boolean)) 0 0 0 (fun G => [.ref (G.2.1 37), .int x]) X (kI (fun r9 X' => r9 = bI (inI x R) ∧ X = X')) kF := by
  refine con_of (lv := fun G => [(0, .ref (G.2.1 37)), (1, .int x)]) hfl (by decide +kernel) (fun _ => rfl) (fun _ => Nat.le_of_ble_eq_true rfl) ?_
  intro G J JX CE
  have C := CE.b
  refine r_iload_n C dX6_isRow_0 rfl rfl ?_
  refine r_if_lt (tgt := 16) C dX6_isRow_1 (by decide) (fun c_1 => ?_) (fun c_1 => ?_)
  · -- 16
    have e : inI x R = false := inI_f (by omega) (Or.inl c_1)
    refine r_iconst (v := 0) C dX6_isRow_16 (by decide) ?_
    exact r_iret CE rfl rfl dX6_isRow_17 (Nat.le_of_ble_eq_true rfl) ⟨_, rfl, by rw [e]; rfl, rfl⟩
  · -- 4
    refine r_iload_n C dX6_isRow_4 rfl rfl ?_
    refine r_aload_n C dX6_isRow_5 rfl rfl ?_
    refine gf_RX6_81 C dX6_isRow_6 ?_
    refine r_topi hR ?_
    refine r_icmp_ge (tgt := 16) C dX6_isRow_9 (by decide) (fun c_9 => ?_) (fun c_9 => ?_)
    · -- 16
      have e : inI x R = false := inI_f (by omega) (Or.inr (Int32.not_lt.mpr c_9))
      refine r_iconst (v := 0) C dX6_isRow_16 (by decide) ?_
      exact r_iret CE rfl rfl dX6_isRow_17 (Nat.le_of_ble_eq_true rfl) ⟨_, rfl, by rw [e]; rfl, rfl⟩
    · -- 12
      have e : inI x R = true := inI_i (by omega) c_1 (Int32.not_le.mp c_9)
      refine r_iconst (v := 1) C dX6_isRow_12 (by decide) ?_
      refine r_goto (tgt := 17) C dX6_isRow_13 (by decide) ?_
      exact r_iret CE rfl rfl dX6_isRow_17 (Nat.le_of_ble_eq_true rfl) ⟨_, rfl, by rw [e]; rfl, rfl⟩
set_option maxHeartbeats 4000000 in
set_option maxRecDepth 100000 in
/-- X6_isColumn  -/
theorem con_X6_isColumn (l : Launch) (hfl : l.stackTraces = false) {R : Nat} {x : Int32} (X : St) (hR : Zm X 37 2 = nI R) (hR2 : R ≤ 10) : Con l yX6_isColumn cX6_isColumn 2 (some (FieldType.boolean)) 0 0 0 (fun G => [.ref (G.2.1 37), .int x]) X (kI (fun r9 X' => r9 = bI (inI x R) ∧ X = X')) kF := by
  refine con_of (lv := fun G => [(0, .ref (G.2.1 37)), (1, .int x)]) hfl (by decide +kernel) (fun _ => rfl) (fun _ => Nat.le_of_ble_eq_true rfl) ?_
  intro G J JX CE
  have C := CE.b
  refine r_iload_n C dX6_isColumn_0 rfl rfl ?_
  refine r_if_lt (tgt := 16) C dX6_isColumn_1 (by decide) (fun c_1 => ?_) (fun c_1 => ?_)
  · -- 16
    have e : inI x R = false := inI_f (by omega) (Or.inl c_1)
    refine r_iconst (v := 0) C dX6_isColumn_16 (by decide) ?_
    exact r_iret CE rfl rfl dX6_isColumn_17 (Nat.le_of_ble_eq_true rfl) ⟨_, rfl, by rw [e]; rfl, rfl⟩
  · -- 4
    refine r_iload_n C dX6_isColumn_4 rfl rfl ?_
    refine r_aload_n C dX6_isColumn_5 rfl rfl ?_
    refine gf_RX6_84 C dX6_isColumn_6 ?_
    refine r_topi hR ?_
    refine r_icmp_ge (tgt := 16) C dX6_isColumn_9 (by decide) (fun c_9 => ?_) (fun c_9 => ?_)
    · -- 16
      have e : inI x R = false := inI_f (by omega) (Or.inr (Int32.not_lt.mpr c_9))
      refine r_iconst (v := 0) C dX6_isColumn_16 (by decide) ?_
      exact r_iret CE rfl rfl dX6_isColumn_17 (Nat.le_of_ble_eq_true rfl) ⟨_, rfl, by rw [e]; rfl, rfl⟩
    · -- 12
      have e : inI x R = true := inI_i (by omega) c_1 (Int32.not_le.mp c_9)
      refine r_iconst (v := 1) C dX6_isColumn_12 (by decide) ?_
      refine r_goto (tgt := 17) C dX6_isColumn_13 (by decide) ?_
      exact r_iret CE rfl rfl dX6_isColumn_17 (Nat.le_of_ble_eq_true rfl) ⟨_, rfl, by rw [e]; rfl, rfl⟩
set_option maxHeartbeats 4000000 in
set_option maxRecDepth 100000 in
/-- X6_isPair  -/
theorem con_X6_isPair (l : Launch) (hfl : l.stackTraces = false) {R C0 : Nat} {x y : Int32} (X : St) (hR : Zm X 37 1 = nI R) (hR2 : R ≤ 10) (hC : Zm X 37 2 = nI C0) (hC2 : C0 ≤ 10) : Con l yX6_isPair cX6_isPair 3 (some (FieldType.boolean)) 1 30 0 (fun G => [.ref (G.2.1 37), .int x, .int y]) X (kI (fun r9 X' => r9 = bI (inI x R && inI y C0) ∧ X = X')) kF := by
  refine con_of (lv := fun G => [(0, .ref (G.2.1 37)), (1, .int x), (2, .int y)]) hfl (by decide +kernel) (fun _ => rfl) (fun _ => Nat.le_of_ble_eq_true rfl) ?_
  intro G J JX CE
  have C := CE.b
  refine r_aload_n C dX6_isPair_0 rfl rfl ?_
  refine r_iload_n C dX6_isPair_1 rfl rfl ?_
  refine cl_RX6_87 C (con_X6_isRow l hfl _ hR hR2) dX6_isPair_2 rfl ⟨Nat.le_of_ble_eq_true rfl, Nat.le_of_ble_eq_true rfl⟩ (by omega) (Nat.le_of_ble_eq_true rfl) (fun r_2 X_2 h_2 => ?_)
  obtain ⟨rfl, rfl⟩ := h_2
  refine r_if_eq (tgt := 20) C dX6_isPair_5 (by decide) (fun c_5 => ?_) (fun c_5 => ?_)
  · -- 20
    have e : (inI x R && inI y C0) = false := by rw [bI_0 c_5]; rfl
    refine r_iconst (v := 0) C dX6_isPair_20 (by decide) ?_
    exact r_iret CE rfl rfl dX6_isPair_21 (Nat.le_of_ble_eq_true rfl) ⟨_, rfl, by rw [e]; rfl, rfl⟩
  · -- 8
    refine r_aload_n C dX6_isPair_8 rfl rfl ?_
    refine r_iload_n C dX6_isPair_9 rfl rfl ?_
    refine cl_RX6_91 C (con_X6_isColumn l hfl _ hC hC2) dX6_isPair_10 rfl ⟨Nat.le_of_ble_eq_true rfl, Nat.le_of_ble_eq_true rfl⟩ (by omega) (Nat.le_of_ble_eq_true rfl) (fun r_10 X_10 h_10 => ?_)
    obtain ⟨rfl, rfl⟩ := h_10
    refine r_if_eq (tgt := 20) C dX6_isPair_13 (by decide) (fun c_13 => ?_) (fun c_13 => ?_)
    · -- 20
      have e : (inI x R && inI y C0) = false := by rw [bI_0 c_13, Bool.and_false]
      refine r_iconst (v := 0) C dX6_isPair_20 (by decide) ?_
      exact r_iret CE rfl rfl dX6_isPair_21 (Nat.le_of_ble_eq_true rfl) ⟨_, rfl, by rw [e]; rfl, rfl⟩
    · -- 16
      have e : (inI x R && inI y C0) = true := by rw [bI_1 c_5, bI_1 c_13]; rfl
      refine r_iconst (v := 1) C dX6_isPair_16 (by decide) ?_
      refine r_goto (tgt := 21) C dX6_isPair_17 (by decide) ?_
      exact r_iret CE rfl rfl dX6_isPair_21 (Nat.le_of_ble_eq_true rfl) ⟨_, rfl, by rw [e]; rfl, rfl⟩
set_option maxHeartbeats 4000000 in
set_option maxRecDepth 100000 in
/-- X6_isCost  -/
theorem con_X6_isCost (l : Launch) (hfl : l.stackTraces = false) {z : Int} (X : St) (hz : ok64 z) : Con l yX6_isCost cX6_isCost 2 (some (FieldType.boolean)) 0 0 0 (fun _ => [.long (i64 z)]) X (kI (fun r9 X' => r9 = bI (inC z) ∧ X = X')) kF := by
  refine con_of (lv := fun _ => [(0, .long (i64 z))]) hfl (by decide +kernel) (fun _ => rfl) (fun _ => Nat.le_of_ble_eq_true rfl) ?_
  intro G J JX CE
  have C := CE.b
  refine r_lload_n C dX6_isCost_0 rfl rfl ?_
  refine r_ldc2 C dX6_isCost_1 nk_RX6_94 ?_
  refine r_topl kLm10000 ?_
  refine r_lcmp C dX6_isCost_4 ?_
  refine r_if_lt (tgt := 20) C dX6_isCost_5 (by decide) (fun c_5 => ?_) (fun c_5 => ?_)
  · -- 20
    have e := inC_0 (Or.inl ((lcmp_0 hz (by omega)).mp c_5))
    refine r_iconst (v := 0) C dX6_isCost_20 (by decide) ?_
    exact r_iret CE rfl rfl dX6_isCost_21 (Nat.le_of_ble_eq_true rfl) ⟨_, rfl, by rw [e]; rfl, rfl⟩
  · -- 8
    have e5 := fun q => c_5 ((lcmp_0 hz (by omega)).mpr q)
    refine r_lload_n C dX6_isCost_8 rfl rfl ?_
    refine r_ldc2 C dX6_isCost_9 nk_RX6_96 ?_
    refine r_topl kL10000 ?_
    refine r_lcmp C dX6_isCost_12 ?_
    refine r_if_gt (tgt := 20) C dX6_isCost_13 (by decide) (fun c_13 => ?_) (fun c_13 => ?_)
    · -- 20
      have e := inC_0 (Or.inr ((lcmp_1 hz (by omega)).mp c_13))
      refine r_iconst (v := 0) C dX6_isCost_20 (by decide) ?_
      exact r_iret CE rfl rfl dX6_isCost_21 (Nat.le_of_ble_eq_true rfl) ⟨_, rfl, by rw [e]; rfl, rfl⟩
    · -- 16
      have e : inC z = true := by
        have h1 : ¬ z < -10000 := e5
        have h2 : ¬ 10000 < z := fun q => c_13 ((lcmp_1 hz (by omega)).mpr q)
        exact inC_1 (by omega) (by omega)
      refine r_iconst (v := 1) C dX6_isCost_16 (by decide) ?_
      refine r_goto (tgt := 21) C dX6_isCost_17 (by decide) ?_
      exact r_iret CE rfl rfl dX6_isCost_21 (Nat.le_of_ble_eq_true rfl) ⟨_, rfl, by rw [e]; rfl, rfl⟩
set_option maxHeartbeats 4000000 in
set_option maxRecDepth 100000 in
/-- X6_isUsable  -/
theorem con_X6_isUsable (l : Launch) (hfl : l.stackTraces = false) {A : DA} {r c : Nat} (X : St) (hM : MInv X A) (hr : r < 10) (hc : c < 10) : Con l yX6_isUsable cX6_isUsable 3 (some (FieldType.boolean)) 0 0 0 (fun G => [.ref (G.2.1 37), .int (nI r), .int (nI c)]) X (kI (fun r9 X' => r9 = bI (al A.z (10 * r + c) && (A.ra.testBit r && A.ca.testBit c)) ∧ X = X')) kF := by
  refine con_of (lv := fun G => [(0, .ref (G.2.1 37)), (1, .int (nI r)), (2, .int (nI c))]) hfl (by decide +kernel) (fun _ => rfl) (fun _ => Nat.le_of_ble_eq_true rfl) ?_
  intro G J JX CE
  have C := CE.b
  refine r_aload_n C dX6_isUsable_0 rfl rfl ?_
  refine gf_RX6_16 C dX6_isUsable_1 ?_
  refine r_bipush (v := 10) C dX6_isUsable_4 (by decide) ?_
  refine r_iload_n C dX6_isUsable_6 rfl rfl ?_
  refine r_imul C dX6_isUsable_7 ?_
  refine r_iload_n C dX6_isUsable_8 rfl rfl ?_
  refine r_iadd C dX6_isUsable_9 ?_
  refine r_zald C (10 * r + c) (by decide) rfl (zix' r c) (by omega) dX6_isUsable_10 ?_
  refine r_topi (hM.b.2.2.2.2.1 _ (by omega)) ?_
  refine r_if_eq (tgt := 36) C dX6_isUsable_11 (by decide) (fun c_11 => ?_) (fun c_11 => ?_)
  · -- 36
    have e : (al A.z (10 * r + c) && (A.ra.testBit r && A.ca.testBit c)) = false := by rw [bI_0 c_11]; rfl
    refine r_iconst (v := 0) C dX6_isUsable_36 (by decide) ?_
    exact r_iret CE rfl rfl dX6_isUsable_37 (Nat.le_of_ble_eq_true rfl) ⟨_, rfl, by rw [e]; rfl, rfl⟩
  · -- 14
    refine r_aload_n C dX6_isUsable_14 rfl rfl ?_
    refine gf_RX6_9 C dX6_isUsable_15 ?_
    refine r_iload_n C dX6_isUsable_18 rfl rfl ?_
    refine r_zald C (r) (by decide) rfl rfl hr dX6_isUsable_19 ?_
    refine r_topi (hM.b.2.2.1 r hr) ?_
    refine r_if_eq (tgt := 36) C dX6_isUsable_20 (by decide) (fun c_20 => ?_) (fun c_20 => ?_)
    · -- 36
      have e : (al A.z (10 * r + c) && (A.ra.testBit r && A.ca.testBit c)) = false := by rw [bI_0 c_20, Bool.false_and, Bool.and_false]
      refine r_iconst (v := 0) C dX6_isUsable_36 (by decide) ?_
      exact r_iret CE rfl rfl dX6_isUsable_37 (Nat.le_of_ble_eq_true rfl) ⟨_, rfl, by rw [e]; rfl, rfl⟩
    · -- 23
      refine r_aload_n C dX6_isUsable_23 rfl rfl ?_
      refine gf_RX6_13 C dX6_isUsable_24 ?_
      refine r_iload_n C dX6_isUsable_27 rfl rfl ?_
      refine r_zald C (c) (by decide) rfl rfl hc dX6_isUsable_28 ?_
      refine r_topi (hM.b.2.2.2.1 c hc) ?_
      refine r_if_eq (tgt := 36) C dX6_isUsable_29 (by decide) (fun c_29 => ?_) (fun c_29 => ?_)
      · -- 36
        have e : (al A.z (10 * r + c) && (A.ra.testBit r && A.ca.testBit c)) = false := by rw [bI_0 c_29, Bool.and_false, Bool.and_false]
        refine r_iconst (v := 0) C dX6_isUsable_36 (by decide) ?_
        exact r_iret CE rfl rfl dX6_isUsable_37 (Nat.le_of_ble_eq_true rfl) ⟨_, rfl, by rw [e]; rfl, rfl⟩
      · -- 32
        have e : (al A.z (10 * r + c) && (A.ra.testBit r && A.ca.testBit c)) = true := by rw [bI_1 c_11, bI_1 c_20, bI_1 c_29]; rfl
        refine r_iconst (v := 1) C dX6_isUsable_32 (by decide) ?_
        refine r_goto (tgt := 37) C dX6_isUsable_33 (by decide) ?_
        exact r_iret CE rfl rfl dX6_isUsable_37 (Nat.le_of_ble_eq_true rfl) ⟨_, rfl, by rw [e]; rfl, rfl⟩
