theorem xa_45 : ∀ w ∈ vx_atS RX5 45 "java/lang/IllegalStateException" ["java/lang/RuntimeException", "java/lang/Exception"], w ∈ lw_all ∨ w ∈ lw_nst := by decide +kernel
theorem xa_97 : ∀ w ∈ vx_atS RX5 97 "java/lang/IllegalArgumentException" ["java/lang/RuntimeException", "java/lang/Exception"], w ∈ lw_all ∨ w ∈ lw_nst := by decide +kernel
theorem xa_109 : ∀ w ∈ vx_atS RX5 109 "java/lang/ArithmeticException" ["java/lang/RuntimeException", "java/lang/Exception"], w ∈ lw_all ∨ w ∈ lw_nst := by decide +kernel
theorem xa_230 : ∀ w ∈ vx_atS RX5 230 "java/lang/IndexOutOfBoundsException" ["java/lang/RuntimeException", "java/lang/Exception"], w ∈ lw_all ∨ w ∈ lw_nst := by decide +kernel
/-- x is one of n places -/
def inI (x : Int32) (n : Nat) : Bool := decide (0 ≤ x.toInt) && decide (x.toInt < (n : Int))
theorem inI_t {x : Int32} {n : Nat} (h : inI x n = true) : ∃ r, r < n ∧ x = nI r := by
  unfold inI at h
  simp at h
  have h1 : x = i32 x.toInt := i32_of x
  refine ⟨x.toInt.toNat, by omega, ?_⟩
  rw [i32_n, Int.toNat_of_nonneg h.1]
  exact h1
theorem inI_n {r n : Nat} (h : r < 2 ^ 31) : inI (nI r) n = decide (r < n) := by
  unfold inI
  rw [nI_toInt h]
  by_cases q : r < n
  · rw [decide_eq_true q, decide_eq_true (by omega), decide_eq_true (by omega)]; rfl
  · rw [decide_eq_false q, decide_eq_false (p := (r : Int) < n) (by omega), Bool.and_false]
theorem inI_f {x : Int32} {n : Nat} (hn : n < 2 ^ 31) (h : x < 0 ∨ ¬ x < nI n) : inI x n = false := by
  unfold inI
  rcases h with h | h
  · rw [Int32.lt_iff_toInt_lt] at h
    have e0 : (0 : Int32).toInt = 0 := by decide
    rw [decide_eq_false (by omega)]; rfl
  · rw [Int32.lt_iff_toInt_lt, nI_toInt hn] at h
    rw [decide_eq_false (p := x.toInt < (n : Int)) h, Bool.and_false]
theorem inI_i {x : Int32} {n : Nat} (hn : n < 2 ^ 31) (h1 : ¬ x < 0) (h2 : x < nI n) : inI x n = true := by
  unfold inI
  rw [Int32.lt_iff_toInt_lt] at h1 h2
  have e0 : (0 : Int32).toInt = 0 := by decide
  rw [nI_toInt hn] at h2
  rw [decide_eq_true (by omega), decide_eq_true (by omega)]; rfl
set_option maxHeartbeats 4000000 in
set_option maxRecDepth 100000 in
/-- X5_requireRow  -/
theorem con_X5_requireRow (l : Launch) (hfl : l.stackTraces = false) {R : Nat} {x : Int32} (X : St) (hR : Zm X 1 1 = nI R) (hR2 : R ≤ 10) : Con l yX5_requireRow cX5_requireRow 2 none 6 100 1 (fun G => [.ref (G.2.1 0), .int x]) X (kV (fun X' => X = X' ∧ inI x R = true)) (fun E X' => E = "java/lang/IndexOutOfBoundsException" ∧ X = X' ∧ inI x R = false) := by
  refine con_of (lv := fun G => [(0, .ref (G.2.1 0)), (1, .int x)]) hfl (by decide +kernel) (fun _ => rfl) (fun _ => Nat.le_of_ble_eq_true rfl) ?_
  intro G J JX CE
  have C := CE.b
  refine r_iload_n C dX5_requireRow_0 rfl rfl ?_
  refine r_if_lt (tgt := 15) C dX5_requireRow_1 (by decide) (fun c_1 => ?_) (fun c_1 => ?_)
  · -- 15
    exact r_throw CE rfl (by decide +kernel) (by decide +kernel) ck_RX5_226 ik_Qjava_lang_IndexOutOfBoundsException sk_RX5_228 (xa_230) dX5_requireRow_15 dX5_requireRow_18 dX5_requireRow_19 dX5_requireRow_21 dX5_requireRow_24 (by decide) (Nat.le_of_ble_eq_true rfl) (Nat.le_of_ble_eq_true rfl) ⟨rfl, rfl, by first | exact inI_f (by omega) (Or.inl c_1) | exact inI_f (by omega) (Or.inr c_12)⟩
  · -- 4
    refine r_iload_n C dX5_requireRow_4 rfl rfl ?_
    refine r_aload_n C dX5_requireRow_5 rfl rfl ?_
    refine gf_RX5_12 C dX5_requireRow_6 ?_
    refine gf_RX5_37 C dX5_requireRow_9 ?_
    refine r_topi hR ?_
    refine r_icmp_lt (tgt := 25) C dX5_requireRow_12 (by decide) (fun c_12 => ?_) (fun c_12 => ?_)
    · -- 25
      exact r_vret CE rfl dX5_requireRow_25 (Nat.le_of_ble_eq_true rfl) ⟨rfl, rfl, inI_i (by omega) c_1 c_12⟩
    · -- 15
      exact r_throw CE rfl (by decide +kernel) (by decide +kernel) ck_RX5_226 ik_Qjava_lang_IndexOutOfBoundsException sk_RX5_228 (xa_230) dX5_requireRow_15 dX5_requireRow_18 dX5_requireRow_19 dX5_requireRow_21 dX5_requireRow_24 (by decide) (Nat.le_of_ble_eq_true rfl) (Nat.le_of_ble_eq_true rfl) ⟨rfl, rfl, by first | exact inI_f (by omega) (Or.inl c_1) | exact inI_f (by omega) (Or.inr c_12)⟩
set_option maxHeartbeats 4000000 in
set_option maxRecDepth 100000 in
/-- X5_requireColumn  -/
theorem con_X5_requireColumn (l : Launch) (hfl : l.stackTraces = false) {R : Nat} {x : Int32} (X : St) (hR : Zm X 1 2 = nI R) (hR2 : R ≤ 10) : Con l yX5_requireColumn cX5_requireColumn 2 none 6 100 1 (fun G => [.ref (G.2.1 0), .int x]) X (kV (fun X' => X = X' ∧ inI x R = true)) (fun E X' => E = "java/lang/IndexOutOfBoundsException" ∧ X = X' ∧ inI x R = false) := by
  refine con_of (lv := fun G => [(0, .ref (G.2.1 0)), (1, .int x)]) hfl (by decide +kernel) (fun _ => rfl) (fun _ => Nat.le_of_ble_eq_true rfl) ?_
  intro G J JX CE
  have C := CE.b
  refine r_iload_n C dX5_requireColumn_0 rfl rfl ?_
  refine r_if_lt (tgt := 15) C dX5_requireColumn_1 (by decide) (fun c_1 => ?_) (fun c_1 => ?_)
  · -- 15
    exact r_throw CE rfl (by decide +kernel) (by decide +kernel) ck_RX5_226 ik_Qjava_lang_IndexOutOfBoundsException sk_RX5_231 (xa_230) dX5_requireColumn_15 dX5_requireColumn_18 dX5_requireColumn_19 dX5_requireColumn_21 dX5_requireColumn_24 (by decide) (Nat.le_of_ble_eq_true rfl) (Nat.le_of_ble_eq_true rfl) ⟨rfl, rfl, by first | exact inI_f (by omega) (Or.inl c_1) | exact inI_f (by omega) (Or.inr c_12)⟩
  · -- 4
    refine r_iload_n C dX5_requireColumn_4 rfl rfl ?_
    refine r_aload_n C dX5_requireColumn_5 rfl rfl ?_
    refine gf_RX5_12 C dX5_requireColumn_6 ?_
    refine gf_RX5_56 C dX5_requireColumn_9 ?_
    refine r_topi hR ?_
    refine r_icmp_lt (tgt := 25) C dX5_requireColumn_12 (by decide) (fun c_12 => ?_) (fun c_12 => ?_)
    · -- 25
      exact r_vret CE rfl dX5_requireColumn_25 (Nat.le_of_ble_eq_true rfl) ⟨rfl, rfl, inI_i (by omega) c_1 c_12⟩
    · -- 15
      exact r_throw CE rfl (by decide +kernel) (by decide +kernel) ck_RX5_226 ik_Qjava_lang_IndexOutOfBoundsException sk_RX5_231 (xa_230) dX5_requireColumn_15 dX5_requireColumn_18 dX5_requireColumn_19 dX5_requireColumn_21 dX5_requireColumn_24 (by decide) (Nat.le_of_ble_eq_true rfl) (Nat.le_of_ble_eq_true rfl) ⟨rfl, rfl, by first | exact inI_f (by omega) (Or.inl c_1) | exact inI_f (by omega) (Or.inr c_12)⟩
set_option maxHeartbeats 4000000 in
set_option maxRecDepth 100000 in
/-- X5_requirePair  -/
theorem con_X5_requirePair (l : Launch) (hfl : l.stackTraces = false) {R C0 : Nat} {x y : Int32} (X : St) (hR : Zm X 1 1 = nI R) (hR2 : R ≤ 10) (hC : Zm X 1 2 = nI C0) (hC2 : C0 ≤ 10) : Con l yX5_requirePair cX5_requirePair 3 none 7 130 2 (fun G => [.ref (G.2.1 0), .int x, .int y]) X (kV (fun X' => X = X' ∧ inI x R = true ∧ inI y C0 = true)) (fun E X' => E = "java/lang/IndexOutOfBoundsException" ∧ X = X' ∧ (inI x R && inI y C0) = false) := by
  refine con_of (lv := fun G => [(0, .ref (G.2.1 0)), (1, .int x), (2, .int y)]) hfl (by decide +kernel) (fun _ => rfl) (fun _ => Nat.le_of_ble_eq_true rfl) ?_
  intro G J JX CE
  have C := CE.b
  refine r_aload_n C dX5_requirePair_0 rfl rfl ?_
  refine r_iload_n C dX5_requirePair_1 rfl rfl ?_
  refine cl_RX5_64 C (con_X5_requireRow l hfl _ hR hR2) dX5_requirePair_2 rfl ⟨Nat.le_of_ble_eq_true rfl, Nat.le_of_ble_eq_true rfl⟩ (by omega) (Nat.le_of_ble_eq_true rfl) (fun E_2 X_2 x_2 => ?_) (fun X_2 h_2 => ?_)
  · -- thrown
    obtain ⟨rfl, rfl, h9⟩ := x_2
    exact r_out CE rfl (Nat.le_of_ble_eq_true rfl) ⟨rfl, rfl, by rw [h9]; rfl⟩
  obtain ⟨rfl, h2⟩ := h_2
  refine r_aload_n C dX5_requirePair_5 rfl rfl ?_
  refine r_iload_n C dX5_requirePair_6 rfl rfl ?_
  refine cl_RX5_79 C (con_X5_requireColumn l hfl _ hC hC2) dX5_requirePair_7 rfl ⟨Nat.le_of_ble_eq_true rfl, Nat.le_of_ble_eq_true rfl⟩ (by omega) (Nat.le_of_ble_eq_true rfl) (fun E_7 X_7 x_7 => ?_) (fun X_7 h_7 => ?_)
  · -- thrown
    obtain ⟨rfl, rfl, h9⟩ := x_7
    exact r_out CE rfl (Nat.le_of_ble_eq_true rfl) ⟨rfl, rfl, by rw [h2, h9]; rfl⟩
  obtain ⟨rfl, h7⟩ := h_7
  exact r_vret CE rfl dX5_requirePair_10 (Nat.le_of_ble_eq_true rfl) ⟨rfl, rfl, h2, h7⟩
set_option maxHeartbeats 4000000 in
set_option maxRecDepth 100000 in
/-- X5_requireUsable  -/
theorem con_X5_requireUsable (l : Launch) (hfl : l.stackTraces = false) {R C0 ra ca : Nat} {z : Nat → Int} {x y : Int32} (X : St) (hR : Zm X 1 1 = nI R) (hR2 : R ≤ 10) (hC : Zm X 1 2 = nI C0) (hC2 : C0 ≤ 10) (hT : TbZ X ra ca z) : Con l yX5_requireUsable cX5_requireUsable 3 none 8 160 3 (fun G => [.ref (G.2.1 0), .int x, .int y]) X (kV (fun X' => X = X' ∧ inI x R = true ∧ inI y C0 = true ∧ ∀ r c, x = nI r → y = nI c → r < 10 → c < 10 → (us ra ca z r).testBit c = true)) (fun E X' => (E = "java/lang/IndexOutOfBoundsException" ∧ X = X' ∧ (inI x R && inI y C0) = false) ∨ (E = "java/util/NoSuchElementException" ∧ X = X' ∧ inI x R = true ∧ inI y C0 = true ∧ ∀ r c, x = nI r → y = nI c → r < 10 → c < 10 → (us ra ca z r).testBit c = false)) := by
  refine con_of (lv := fun G => [(0, .ref (G.2.1 0)), (1, .int x), (2, .int y)]) hfl (by decide +kernel) (fun _ => rfl) (fun _ => Nat.le_of_ble_eq_true rfl) ?_
  intro G J JX CE
  have C := CE.b
  refine r_aload_n C dX5_requireUsable_0 rfl rfl ?_
  refine r_iload_n C dX5_requireUsable_1 rfl rfl ?_
  refine r_iload_n C dX5_requireUsable_2 rfl rfl ?_
  refine cl_RX5_85 C (con_X5_requirePair l hfl _ hR hR2 hC hC2) dX5_requireUsable_3 rfl ⟨Nat.le_of_ble_eq_true rfl, Nat.le_of_ble_eq_true rfl⟩ (by omega) (Nat.le_of_ble_eq_true rfl) (fun E_3 X_3 x_3 => ?_) (fun X_3 h_3 => ?_)
  · -- thrown
    obtain ⟨rfl, rfl, h9⟩ := x_3
    exact r_out CE rfl (Nat.le_of_ble_eq_true rfl) (Or.inl ⟨rfl, rfl, h9⟩)
  obtain ⟨rfl, h3, h4⟩ := h_3
  obtain ⟨r, hr, rfl⟩ := inI_t h3
  obtain ⟨c, hc, rfl⟩ := inI_t h4
  have hu := usb_z (X := X) (ra := ra) (ca := ca) hT.2.2.2.2 (r := r) (c := c) (by omega) (by omega)
  refine r_aload_n C dX5_requireUsable_6 rfl rfl ?_
  refine gf_RX5_12 C dX5_requireUsable_7 ?_
  refine r_iload_n C dX5_requireUsable_10 rfl rfl ?_
  refine r_iload_n C dX5_requireUsable_11 rfl rfl ?_
  refine cl_RX5_157 C (con_X4_isUsable l hfl _ (r := r) (c := c) (by omega) (by omega) hT.1 hT.2.1 hT.2.2.1 hT.2.2.2.1) dX5_requireUsable_12 rfl ⟨Nat.le_of_ble_eq_true rfl, Nat.le_of_ble_eq_true rfl⟩ (by omega) (Nat.le_of_ble_eq_true rfl) (fun r_12 X_12 h_12 => ?_)
  obtain ⟨rfl, rfl⟩ := h_12
  refine r_if_ne (tgt := 28) C dX5_requireUsable_15 (by decide) (fun c_15 => ?_) (fun c_15 => ?_)
  · -- 28
    exact r_vret CE rfl dX5_requireUsable_28 (Nat.le_of_ble_eq_true rfl) ⟨rfl, rfl, h3, h4, fun r9 c9 e1 e2 g1 g2 => by
      have e3 := (nI_eq (by omega) (by omega)).mp e1
      have e4 := (nI_eq (by omega) (by omega)).mp e2
      rw [← e3, ← e4, ← hu]
      exact bI_1 c_15⟩
  · -- 18
    exact r_throwX CE (ix := 13) (rx := rxN) (by decide +kernel) (by decide +kernel) (by decide +kernel) (by decide +kernel) rfl (by decide +kernel) (by decide +kernel) ck_RX5_131 ik_Qjava_util_NoSuchElementException sk_RX5_233 (xa_135) dX5_requireUsable_18 dX5_requireUsable_21 dX5_requireUsable_22 dX5_requireUsable_24 dX5_requireUsable_27 (by decide) (Nat.le_of_ble_eq_true rfl) (Nat.le_of_ble_eq_true rfl) (Or.inr ⟨rfl, rfl, h3, h4, fun r9 c9 e1 e2 g1 g2 => by
      have e3 := (nI_eq (by omega) (by omega)).mp e1
      have e4 := (nI_eq (by omega) (by omega)).mp e2
      rw [← e3, ← e4, ← hu]
      exact bI_0 c_15⟩)
set_option maxHeartbeats 4000000 in
set_option maxRecDepth 100000 in
/-- X4_appendRow  -/
theorem con_X4_appendRow (l : Launch) (hfl : l.stackTraces = false) {S n : Nat} (X : St) (hS : Zm X 1 3 = nI S) (hn : Zm X 1 1 = nI n) (hn2 : n < 10) : Con l yX4_appendRow cX4_appendRow 1 (some (FieldType.int)) 1 30 0 (fun G => [.ref (G.2.1 1)]) X (kI (fun r9 X' => r9 = nI n ∧ Ym (Ym X 1 3 (nI (sb S n))) 1 1 (nI (n + 1)) = X')) kF := by
  refine con_of (lv := fun G => [(0, .ref (G.2.1 1))]) hfl (by decide +kernel) (fun _ => rfl) (fun _ => Nat.le_of_ble_eq_true rfl) ?_
  intro G J JX CE
  have C := CE.b
  refine r_aload_n C dX4_appendRow_0 rfl rfl ?_
  refine r_aload_n C dX4_appendRow_1 rfl rfl ?_
  refine gf_RX4_21 C dX4_appendRow_2 ?_
  refine r_topi hS ?_
  refine r_aload_n C dX4_appendRow_5 rfl rfl ?_
  refine gf_RX4_25 C dX4_appendRow_6 ?_
  refine r_topi hn ?_
  refine r_iconst (v := 1) C dX4_appendRow_9 (by decide) ?_
  refine cl_RX4_28 C (con_withBit1 l hfl _ (by omega)) dX4_appendRow_10 rfl ⟨Nat.le_of_ble_eq_true rfl, Nat.le_of_ble_eq_true rfl⟩ (by omega) (Nat.le_of_ble_eq_true rfl) (fun r_10 X_10 h_10 => ?_)
  obtain ⟨rfl, rfl⟩ := h_10
  refine pf_RX4_21 C dX4_appendRow_13 ?_
  refine r_aload_n C dX4_appendRow_16 rfl rfl ?_
  refine r_dup C dX4_appendRow_17 rfl ?_
  refine gf_RX4_25 C dX4_appendRow_18 ?_
  refine r_topi (show _ = nI n from hn) ?_
  refine r_iconst (v := 1) C dX4_appendRow_21 (by decide) ?_
  refine r_iadd C dX4_appendRow_22 ?_
  refine r_topi (nI_1 n) ?_
  refine pf_RX4_25 C dX4_appendRow_23 ?_
  refine r_aload_n C dX4_appendRow_26 rfl rfl ?_
  refine gf_RX4_25 C dX4_appendRow_27 ?_
  refine r_topi (show _ = nI (n + 1) from rfl) ?_
  refine r_iconst (v := 1) C dX4_appendRow_30 (by decide) ?_
  refine r_isub C dX4_appendRow_31 ?_
  refine r_topi (nI_pred n) ?_
  exact r_iret CE rfl rfl dX4_appendRow_32 (Nat.le_of_ble_eq_true rfl) ⟨_, rfl, rfl, rfl⟩
set_option maxHeartbeats 4000000 in
set_option maxRecDepth 100000 in
/-- X4_appendColumn  -/
theorem con_X4_appendColumn (l : Launch) (hfl : l.stackTraces = false) {S n : Nat} (X : St) (hS : Zm X 1 4 = nI S) (hn : Zm X 1 2 = nI n) (hn2 : n < 10) : Con l yX4_appendColumn cX4_appendColumn 1 (some (FieldType.int)) 1 30 0 (fun G => [.ref (G.2.1 1)]) X (kI (fun r9 X' => r9 = nI n ∧ Ym (Ym X 1 4 (nI (sb S n))) 1 2 (nI (n + 1)) = X')) kF := by
  refine con_of (lv := fun G => [(0, .ref (G.2.1 1))]) hfl (by decide +kernel) (fun _ => rfl) (fun _ => Nat.le_of_ble_eq_true rfl) ?_
  intro G J JX CE
  have C := CE.b
  refine r_aload_n C dX4_appendColumn_0 rfl rfl ?_
  refine r_aload_n C dX4_appendColumn_1 rfl rfl ?_
  refine gf_RX4_32 C dX4_appendColumn_2 ?_
  refine r_topi hS ?_
  refine r_aload_n C dX4_appendColumn_5 rfl rfl ?_
  refine gf_RX4_35 C dX4_appendColumn_6 ?_
  refine r_topi hn ?_
  refine r_iconst (v := 1) C dX4_appendColumn_9 (by decide) ?_
  refine cl_RX4_28 C (con_withBit1 l hfl _ (by omega)) dX4_appendColumn_10 rfl ⟨Nat.le_of_ble_eq_true rfl, Nat.le_of_ble_eq_true rfl⟩ (by omega) (Nat.le_of_ble_eq_true rfl) (fun r_10 X_10 h_10 => ?_)
  obtain ⟨rfl, rfl⟩ := h_10
  refine pf_RX4_32 C dX4_appendColumn_13 ?_
  refine r_aload_n C dX4_appendColumn_16 rfl rfl ?_
  refine r_dup C dX4_appendColumn_17 rfl ?_
  refine gf_RX4_35 C dX4_appendColumn_18 ?_
  refine r_topi (show _ = nI n from hn) ?_
  refine r_iconst (v := 1) C dX4_appendColumn_21 (by decide) ?_
  refine r_iadd C dX4_appendColumn_22 ?_
  refine r_topi (nI_1 n) ?_
  refine pf_RX4_35 C dX4_appendColumn_23 ?_
  refine r_aload_n C dX4_appendColumn_26 rfl rfl ?_
  refine gf_RX4_35 C dX4_appendColumn_27 ?_
  refine r_topi (show _ = nI (n + 1) from rfl) ?_
  refine r_iconst (v := 1) C dX4_appendColumn_30 (by decide) ?_
  refine r_isub C dX4_appendColumn_31 ?_
  refine r_topi (nI_pred n) ?_
  exact r_iret CE rfl rfl dX4_appendColumn_32 (Nat.le_of_ble_eq_true rfl) ⟨_, rfl, rfl, rfl⟩
/-- the costs of a row, x added, stay in range: the first n columns -/
def shok (z : Nat → Int) (r : Nat) (x : Int) : Nat → Bool
  | 0 => true
  | n + 1 => shok z r x n && (decide (z (10 * r + n) = 20000) || inC (z (10 * r + n) + x))
theorem shok_stop {z : Nat → Int} {r : Nat} {x : Int} {c : Nat} (h : z (10 * r + c) ≠ 20000) (h2 : inC (z (10 * r + c) + x) = false) : ∀ n, c < n → shok z r x n = false
  | 0, q => absurd q (Nat.not_lt_zero c)
  | n + 1, q => by
    unfold shok
    by_cases e : c = n
    · subst e
      rw [h2, decide_eq_false h]
      simp
    · rw [shok_stop h h2 n (by omega)]
      rfl
set_option maxHeartbeats 4000000 in
set_option maxRecDepth 100000 in
theorem lp_X4_canShiftRow {l : Launch} {G : Geo} {J : JT} {JX : JXT} {X : St} (hfl : l.stackTraces = false) {r : Nat} {z : Nat → Int} {x : Int32} (hr : r < 10) (hz : ∀ k, k < 100 → Zv X 2 k = i32 (z k) ∧ zok (z k)) (CE : Cl l RX4 cX4_canShiftRow 5 (some .boolean) [] G 2 60 0 (kI (fun r9 X' => r9 = bI (shok z r x.toInt 10) ∧ X = X')) kF J JX) :
    ∀ n c, c + n = 10 → shok z r x.toInt c = true → J X 0 2 [(3, .int (nI c)), (0, .ref (G.2.1 1)), (1, .int (nI r)), (2, .int x)] [] := by
  have C := CE.b
  intro n
  induction n with
  | zero =>
    intro c h hn
    have hc : c = 10 := by omega
    subst hc
    refine r_iload_n C dX4_canShiftRow_2 rfl rfl ?_
    refine r_bipush (v := 10) C dX4_canShiftRow_3 (by decide) ?_
    refine r_icmp_ge (tgt := 44) C dX4_canShiftRow_5 (by decide) (fun c_5 => ?_) (fun c_5 => absurd ((by decide)) c_5)
    refine r_iconst (v := 1) C dX4_canShiftRow_44 (by decide) ?_
    exact r_iret CE rfl rfl dX4_canShiftRow_45 (Nat.le_of_ble_eq_true rfl) ⟨_, rfl, by rw [hn]; rfl, rfl⟩
  | succ n ih =>
    intro c h hn
    have hlt : c < 10 := by omega
    have hzc := hz (10 * r + c) (by omega)
    have hx1 := Int32.le_toInt x
    have hx2 := Int32.toInt_lt x
    refine r_iload_n C dX4_canShiftRow_2 rfl rfl ?_
    refine r_bipush (v := 10) C dX4_canShiftRow_3 (by decide) ?_
    refine r_icmp_ge (tgt := 44) C dX4_canShiftRow_5 (by decide) (fun c_5 => absurd c_5 ((nI_ge (a := c) (b := 10) (by omega) (by decide)))) (fun c_5 => ?_)
    refine r_aload_n C dX4_canShiftRow_8 rfl rfl ?_
    refine r_iload_n C dX4_canShiftRow_9 rfl rfl ?_
    refine r_iload_n C dX4_canShiftRow_10 rfl rfl ?_
    refine cl_RX4_42 C (con_X4_cell l hfl _ hr hlt) dX4_canShiftRow_11 rfl ⟨Nat.le_of_ble_eq_true rfl, Nat.le_of_ble_eq_true rfl⟩ (by omega) (Nat.le_of_ble_eq_true rfl) (fun r_11 X_11 h_11 => ?_)
    obtain ⟨rfl, rfl⟩ := h_11
    refine r_topi hzc.1 ?_
    refine r_istore C dX4_canShiftRow_14 (by decide) ?_
    refine r_iload C dX4_canShiftRow_16 rfl ?_
    refine r_sipush (v := 20000) C dX4_canShiftRow_18 (by decide) ?_
    refine r_icmp_eq (tgt := 38) C dX4_canShiftRow_21 (by decide) (fun c_21 => ?_) (fun c_21 => ?_)
    · -- 38
      have e := (i20000 hzc.2).mp c_21
      have hs9 : shok z r x.toInt (c + 1) = true := by unfold shok; rw [hn, decide_eq_true e]; rfl
      refine r_iinc (v := _) C dX4_canShiftRow_38 rfl (nI_1 c) ?_
      refine r_goto (tgt := 2) C dX4_canShiftRow_41 (by decide) ?_
      refine r_sub C (lv' := [(3, .int (nI (c + 1))), (0, .ref (G.2.1 1)), (1, .int (nI r)), (2, .int x)]) ⟨rfl, rfl, rfl, rfl, trivial⟩ ?_
      exact ih (c + 1) (by omega) hs9
    · -- 24
      have e := fun q => c_21 ((i20000 hzc.2).mpr q)
      refine r_iload C dX4_canShiftRow_24 rfl ?_
      refine r_i2l C dX4_canShiftRow_26 ?_
      refine r_topl (i32_long (by omega)) ?_
      refine r_iload_n C dX4_canShiftRow_27 rfl rfl ?_
      refine r_i2l C dX4_canShiftRow_28 ?_
      refine r_topl (x_long x) ?_
      refine r_ladd C dX4_canShiftRow_29 ?_
      refine r_topl (i64_add _ _) ?_
      refine cl_RX4_49 C (con_X5_isCost l hfl _ (by omega)) dX4_canShiftRow_30 rfl ⟨Nat.le_of_ble_eq_true rfl, Nat.le_of_ble_eq_true rfl⟩ (by omega) (Nat.le_of_ble_eq_true rfl) (fun r_30 X_30 h_30 => ?_)
      obtain ⟨rfl, rfl⟩ := h_30
      refine r_if_ne (tgt := 38) C dX4_canShiftRow_33 (by decide) (fun c_33 => ?_) (fun c_33 => ?_)
      · -- 38
        have hs9 : shok z r x.toInt (c + 1) = true := by unfold shok; rw [hn, bI_1 c_33]; simp
        refine r_iinc (v := _) C dX4_canShiftRow_38 rfl (nI_1 c) ?_
        refine r_goto (tgt := 2) C dX4_canShiftRow_41 (by decide) ?_
        refine r_sub C (lv' := [(3, .int (nI (c + 1))), (0, .ref (G.2.1 1)), (1, .int (nI r)), (2, .int x)]) ⟨rfl, rfl, rfl, rfl, trivial⟩ ?_
        exact ih (c + 1) (by omega) hs9
      · -- 36
        refine r_iconst (v := 0) C dX4_canShiftRow_36 (by decide) ?_
        exact r_iret CE rfl rfl dX4_canShiftRow_37 (Nat.le_of_ble_eq_true rfl) ⟨_, rfl, by rw [shok_stop e (bI_0 c_33) 10 hlt]; rfl, rfl⟩

set_option maxHeartbeats 4000000 in
set_option maxRecDepth 100000 in
/-- X4_canShiftRow  -/
theorem con_X4_canShiftRow (l : Launch) (hfl : l.stackTraces = false) {r : Nat} {z : Nat → Int} {x : Int32} (X : St) (hr : r < 10) (hz : ∀ k, k < 100 → Zv X 2 k = i32 (z k) ∧ zok (z k)) : Con l yX4_canShiftRow cX4_canShiftRow 5 (some (FieldType.boolean)) 2 60 0 (fun G => [.ref (G.2.1 1), .int (nI r), .int x]) X (kI (fun r9 X' => r9 = bI (shok z r x.toInt 10) ∧ X = X')) kF := by
  refine con_of (lv := fun G => [(0, .ref (G.2.1 1)), (1, .int (nI r)), (2, .int x)]) hfl (by decide +kernel) (fun _ => rfl) (fun _ => Nat.le_of_ble_eq_true rfl) ?_
  intro G J JX CE
  have C := CE.b
  refine r_iconst (v := 0) C dX4_canShiftRow_0 (by decide) ?_
  refine r_istore_n C dX4_canShiftRow_1 rfl (by decide) ?_
  refine r_sub C (lv' := [(3, .int (nI 0)), (0, .ref (G.2.1 1)), (1, .int (nI r)), (2, .int x)]) ⟨rfl, rfl, rfl, rfl, trivial⟩ ?_
  exact lp_X4_canShiftRow hfl hr hz CE 10 0 (by omega) rfl
/-- the row's costs, x added -/
def shz (z : Nat → Int) (r : Nat) (x : Int) : Nat → Int := fun k => if k / 10 = r ∧ z k ≠ 20000 then z k + x else z k
/-- how many allowed pairs the first n columns of row r have -/
def alw (z : Nat → Int) (r : Nat) : Nat → Nat
  | 0 => 0
  | n + 1 => if z (10 * r + n) = 20000 then alw z r n else alw z r n + 1
theorem alw_le (z : Nat → Int) (r : Nat) : ∀ n, alw z r n ≤ n
  | 0 => Nat.le_refl 0
  | n + 1 => by
    have := alw_le z r n
    unfold alw
    split <;> omega
set_option maxHeartbeats 4000000 in
set_option maxRecDepth 100000 in
theorem lp_X4_shiftRow {l : Launch} {G : Geo} {J : JT} {JX : JXT} {X : St} (hfl : l.stackTraces = false) {r : Nat} {z : Nat → Int} {x : Int32} (hr : r < 10) (hz : ∀ k, k < 100 → Zv X 2 k = i32 (z k) ∧ zok (z k)) (CE : Cl l RX4 cX4_shiftRow 5 (some .int) [] G 2 60 0 (kI (fun r9 X' => r9 = nI (alw z r 10) ∧ ∃ f, Yv X 2 f = X' ∧ ∀ k, k < 100 → f k = i32 (shz z r x.toInt k))) kF J JX) :
    ∀ n c (f : Nat → Int32), c + n = 10 → (∀ k, k < 100 → f k = if k / 10 = r ∧ k % 10 < c then i32 (shz z r x.toInt k) else i32 (z k)) → J (Yv X 2 f) 0 5 [(3, .int (nI (alw z r c))), (4, .int (nI c)), (0, .ref (G.2.1 1)), (1, .int (nI r)), (2, .int x)] [] := by
  have C := CE.b
  intro n
  induction n with
  | zero =>
    intro c f h hf
    have hc : c = 10 := by omega
    subst hc
    refine r_iload C dX4_shiftRow_5 rfl ?_
    refine r_bipush (v := 10) C dX4_shiftRow_7 (by decide) ?_
    refine r_icmp_ge (tgt := 50) C dX4_shiftRow_9 (by decide) (fun c_9 => ?_) (fun c_9 => absurd ((by decide)) c_9)
    refine r_iload_n C dX4_shiftRow_50 rfl rfl ?_
    exact r_iret CE rfl rfl dX4_shiftRow_51 (Nat.le_of_ble_eq_true rfl) ⟨_, rfl, rfl, f, rfl, fun k hk => by
      rw [hf k hk]
      by_cases e : k / 10 = r
      · rw [if_pos ⟨e, Nat.mod_lt _ (by decide)⟩]
      · rw [if_neg (fun q => e q.1)]
        unfold shz
        rw [if_neg (fun q => e q.1)]⟩
  | succ n ih =>
    intro c f h hf
    have hlt : c < 10 := by omega
    have hzc := hz (10 * r + c) (by omega)
    have hfc : f (10 * r + c) = i32 (z (10 * r + c)) := by rw [hf _ (by omega), if_neg (by omega)]
    refine r_iload C dX4_shiftRow_5 rfl ?_
    refine r_bipush (v := 10) C dX4_shiftRow_7 (by decide) ?_
    refine r_icmp_ge (tgt := 50) C dX4_shiftRow_9 (by decide) (fun c_9 => absurd c_9 ((nI_ge (a := c) (b := 10) (by omega) (by decide)))) (fun c_9 => ?_)
    refine r_aload_n C dX4_shiftRow_12 rfl rfl ?_
    refine r_iload_n C dX4_shiftRow_13 rfl rfl ?_
    refine r_iload C dX4_shiftRow_14 rfl ?_
    refine cl_RX4_42 C (con_X4_cell l hfl _ hr hlt) dX4_shiftRow_16 rfl ⟨Nat.le_of_ble_eq_true rfl, Nat.le_of_ble_eq_true rfl⟩ (by omega) (Nat.le_of_ble_eq_true rfl) (fun r_16 X_16 h_16 => ?_)
    obtain ⟨rfl, rfl⟩ := h_16
    refine r_topi (show _ = i32 (z (10 * r + c)) from hfc) ?_
    refine r_sipush (v := 20000) C dX4_shiftRow_19 (by decide) ?_
    refine r_icmp_eq (tgt := 44) C dX4_shiftRow_22 (by decide) (fun c_22 => ?_) (fun c_22 => ?_)
    · -- 44
      have e := (i20000 hzc.2).mp c_22
      have ea : alw z r (c + 1) = alw z r c := by rw [alw, if_pos e]
      have hf9 : ∀ k, k < 100 → f k = if k / 10 = r ∧ k % 10 < c + 1 then i32 (shz z r x.toInt k) else i32 (z k) := fun k hk => by
        rw [hf k hk]
        by_cases e2 : k = 10 * r + c
        · rw [if_neg (by omega), if_pos (by omega)]
          unfold shz
          rw [if_neg (fun q => q.2 (by rw [e2]; exact e))]
        · by_cases e3 : k / 10 = r ∧ k % 10 < c
          · rw [if_pos e3, if_pos (by omega)]
          · rw [if_neg e3, if_neg (by omega)]
      refine r_iinc (v := _) C dX4_shiftRow_44 rfl (nI_1 c) ?_
      refine r_goto (tgt := 5) C dX4_shiftRow_47 (by decide) ?_
      refine r_sub C (lv' := [(3, .int (nI (alw z r (c + 1)))), (4, .int (nI (c + 1))), (0, .ref (G.2.1 1)), (1, .int (nI r)), (2, .int x)]) ⟨by first | rfl | (rw [ea]; rfl), rfl, rfl, rfl, rfl, trivial⟩ ?_
      exact ih (c + 1) _ (by omega) hf9
    · -- 25
      have e := fun q => c_22 ((i20000 hzc.2).mpr q)
      have ea : alw z r (c + 1) = alw z r c + 1 := by rw [alw, if_neg e]
      refine r_aload_n C dX4_shiftRow_25 rfl rfl ?_
      refine gf_RX4_9 C dX4_shiftRow_26 ?_
      refine r_iload_n C dX4_shiftRow_29 rfl rfl ?_
      refine r_bipush (v := 10) C dX4_shiftRow_30 (by decide) ?_
      refine r_imul C dX4_shiftRow_32 ?_
      refine r_iload C dX4_shiftRow_33 rfl ?_
      refine r_iadd C dX4_shiftRow_35 ?_
      refine r_dup2 C dX4_shiftRow_36 rfl rfl ?_
      refine r_iald C (10 * r + c) (by decide) rfl (zix r c) (by omega) dX4_shiftRow_37 ?_
      refine r_topi (show _ = i32 (z (10 * r + c)) from hfc) ?_
      refine r_iload_n C dX4_shiftRow_38 rfl rfl ?_
      refine r_iadd C dX4_shiftRow_39 ?_
      refine r_topi (show _ = i32 (z (10 * r + c) + x.toInt) by rw [← i32_add, ← i32_of]) ?_
      refine r_iast C (10 * r + c) (by decide) rfl (zix r c) (by omega) dX4_shiftRow_40 ?_
      refine r_st (Yv_Yv X 2 f _) ?_
      have hf9 : ∀ k, k < 100 → upd (Zv (Yv X 2 f) 2) (10 * r + c) (i32 (z (10 * r + c) + x.toInt)) k = if k / 10 = r ∧ k % 10 < c + 1 then i32 (shz z r x.toInt k) else i32 (z k) := fun k hk => by
        unfold upd
        by_cases e2 : k = 10 * r + c
        · rw [if_pos e2, if_pos (by omega), e2]
          unfold shz
          rw [if_pos ⟨by omega, e⟩]
        · rw [if_neg e2, Zv_Yv, if_pos rfl, hf k hk]
          by_cases e3 : k / 10 = r ∧ k % 10 < c
          · rw [if_pos e3, if_pos (by omega)]
          · rw [if_neg e3, if_neg (by omega)]
      refine r_iinc (v := _) C dX4_shiftRow_41 rfl (show _ = nI (alw z r (c + 1)) by rw [ea]; exact nI_1 _) ?_
      refine r_iinc (v := _) C dX4_shiftRow_44 rfl (nI_1 c) ?_
      refine r_goto (tgt := 5) C dX4_shiftRow_47 (by decide) ?_
      refine r_sub C (lv' := [(3, .int (nI (alw z r (c + 1)))), (4, .int (nI (c + 1))), (0, .ref (G.2.1 1)), (1, .int (nI r)), (2, .int x)]) ⟨by first | rfl | (rw [ea]; rfl), rfl, rfl, rfl, rfl, trivial⟩ ?_
      exact ih (c + 1) _ (by omega) hf9

set_option maxHeartbeats 4000000 in
set_option maxRecDepth 100000 in
/-- X4_shiftRow  -/
theorem con_X4_shiftRow (l : Launch) (hfl : l.stackTraces = false) {r : Nat} {z : Nat → Int} {x : Int32} (X : St) (hr : r < 10) (hz : ∀ k, k < 100 → Zv X 2 k = i32 (z k) ∧ zok (z k)) : Con l yX4_shiftRow cX4_shiftRow 5 (some (FieldType.int)) 2 60 0 (fun G => [.ref (G.2.1 1), .int (nI r), .int x]) X (kI (fun r9 X' => r9 = nI (alw z r 10) ∧ ∃ f, Yv X 2 f = X' ∧ ∀ k, k < 100 → f k = i32 (shz z r x.toInt k))) kF := by
  refine con_of (lv := fun G => [(0, .ref (G.2.1 1)), (1, .int (nI r)), (2, .int x)]) hfl (by decide +kernel) (fun _ => rfl) (fun _ => Nat.le_of_ble_eq_true rfl) ?_
  intro G J JX CE
  have C := CE.b
  refine r_iconst (v := 0) C dX4_shiftRow_0 (by decide) ?_
  refine r_istore_n C dX4_shiftRow_1 rfl (by decide) ?_
  refine r_iconst (v := 0) C dX4_shiftRow_2 (by decide) ?_
  refine r_istore C dX4_shiftRow_3 (by decide) ?_
  refine r_sub C (lv' := [(3, .int (nI (alw z r 0))), (4, .int (nI 0)), (0, .ref (G.2.1 1)), (1, .int (nI r)), (2, .int x)]) ⟨rfl, rfl, rfl, rfl, rfl, trivial⟩ ?_
  refine r_st (Yv_id X 2).symm ?_
  exact lp_X4_shiftRow hfl hr hz CE 10 0 _ (by omega) (fun k hk => by rw [if_neg (by omega)]; exact (hz k hk).1)
set_option maxHeartbeats 4000000 in
set_option maxRecDepth 100000 in
/-- X1_store  -/
theorem con_X1_store (l : Launch) (hfl : l.stackTraces = false) {n : Nat} {a0 b0 : Int32} (X : St) (hn : Zm X 3 3 = nI n) (hn2 : n < 8) (ha : Zm X 1 3 = a0) (hb : Zm X 1 4 = b0) : Con l yX1_store cX1_store 2 none 1 60 0 (fun G => [.ref (G.2.1 3), .ref (G.2.1 1)]) X (kV (fun X' => Ym (Yv (Yv (Yv X 4 (va_cpy (Zv X 2) (Zv X 4) 0 (100 * n) 100)) 5 (upd (Zv X 5) n a0)) 6 (upd (Zv X 6) n b0)) 3 3 (nI (n + 1)) = X')) kF := by
  refine con_of (lv := fun G => [(0, .ref (G.2.1 3)), (1, .ref (G.2.1 1))]) hfl (by decide +kernel) (fun _ => rfl) (fun _ => Nat.le_of_ble_eq_true rfl) ?_
  intro G J JX CE
  have C := CE.b
  refine r_aload_n C dX1_store_0 rfl rfl ?_
  refine gf_RX1_21 C dX1_store_1 ?_
  refine r_iconst (v := 0) C dX1_store_4 (by decide) ?_
  refine r_aload_n C dX1_store_5 rfl rfl ?_
  refine gf_RX1_9 C dX1_store_6 ?_
  refine r_aload_n C dX1_store_9 rfl rfl ?_
  refine gf_RX1_24 C dX1_store_10 ?_
  refine r_topi hn ?_
  refine r_bipush (v := 100) C dX1_store_13 (by decide) ?_
  refine r_imul C dX1_store_15 ?_
  refine r_topi (show _ = nI (100 * n) by rw [show (100 : Int32) = nI 100 from rfl, pk_mul, Nat.mul_comm]) ?_
  refine r_bipush (v := 100) C dX1_store_16 (by decide) ?_
  refine r_copy C 0 (100 * n) 100 lk_RX1_28 (by decide) (by decide) rfl rfl rfl rfl rfl (by omega) (by omega) (by decide) (by decide +kernel) dX1_store_18 ?_
  refine r_aload_n C dX1_store_21 rfl rfl ?_
  refine gf_RX1_15 C dX1_store_22 ?_
  refine r_aload_n C dX1_store_25 rfl rfl ?_
  refine gf_RX1_24 C dX1_store_26 ?_
  refine r_topi hn ?_
  refine r_aload_n C dX1_store_29 rfl rfl ?_
  refine gf_RX1_34 C dX1_store_30 ?_
  refine r_topi ha ?_
  refine r_iast C (n) (by decide) rfl rfl hn2 dX1_store_33 ?_
  refine r_aload_n C dX1_store_34 rfl rfl ?_
  refine gf_RX1_18 C dX1_store_35 ?_
  refine r_aload_n C dX1_store_38 rfl rfl ?_
  refine gf_RX1_24 C dX1_store_39 ?_
  refine r_topi hn ?_
  refine r_aload_n C dX1_store_42 rfl rfl ?_
  refine gf_RX1_36 C dX1_store_43 ?_
  refine r_topi hb ?_
  refine r_iast C (n) (by decide) rfl rfl hn2 dX1_store_46 ?_
  refine r_aload_n C dX1_store_47 rfl rfl ?_
  refine r_dup C dX1_store_48 rfl ?_
  refine gf_RX1_24 C dX1_store_49 ?_
  refine r_topi hn ?_
  refine r_iconst (v := 1) C dX1_store_52 (by decide) ?_
  refine r_iadd C dX1_store_53 ?_
  refine r_topi (nI_1 n) ?_
  refine pf_RX1_24 C dX1_store_54 ?_
  exact r_vret CE rfl dX1_store_57 (Nat.le_of_ble_eq_true rfl) ⟨rfl, rfl⟩
set_option maxHeartbeats 4000000 in
set_option maxRecDepth 100000 in
/-- X1_restore  -/
theorem con_X1_restore (l : Launch) (hfl : l.stackTraces = false) {n : Nat} (X : St) (hn : Zm X 3 3 = nI (n + 1)) (hn2 : n < 8) : Con l yX1_restore cX1_restore 2 none 1 60 0 (fun G => [.ref (G.2.1 3), .ref (G.2.1 1)]) X (kV (fun X' => Ym (Ym (Yv (Ym X 3 3 (nI n)) 2 (va_cpy (Zv X 4) (Zv X 2) (100 * n) 0 100)) 1 3 (Zv X 5 n)) 1 4 (Zv X 6 n) = X')) kF := by
  refine con_of (lv := fun G => [(0, .ref (G.2.1 3)), (1, .ref (G.2.1 1))]) hfl (by decide +kernel) (fun _ => rfl) (fun _ => Nat.le_of_ble_eq_true rfl) ?_
  intro G J JX CE
  have C := CE.b
  refine r_aload_n C dX1_restore_0 rfl rfl ?_
  refine r_dup C dX1_restore_1 rfl ?_
  refine gf_RX1_24 C dX1_restore_2 ?_
  refine r_topi hn ?_
  refine r_iconst (v := 1) C dX1_restore_5 (by decide) ?_
  refine r_isub C dX1_restore_6 ?_
  refine r_topi (nI_pred n) ?_
  refine pf_RX1_24 C dX1_restore_7 ?_
  refine r_aload_n C dX1_restore_10 rfl rfl ?_
  refine gf_RX1_9 C dX1_restore_11 ?_
  refine r_aload_n C dX1_restore_14 rfl rfl ?_
  refine gf_RX1_24 C dX1_restore_15 ?_
  refine r_topi (show _ = nI n from rfl) ?_
  refine r_bipush (v := 100) C dX1_restore_18 (by decide) ?_
  refine r_imul C dX1_restore_20 ?_
  refine r_topi (show _ = nI (100 * n) by rw [show (100 : Int32) = nI 100 from rfl, pk_mul, Nat.mul_comm]) ?_
  refine r_aload_n C dX1_restore_21 rfl rfl ?_
  refine gf_RX1_21 C dX1_restore_22 ?_
  refine r_iconst (v := 0) C dX1_restore_25 (by decide) ?_
  refine r_bipush (v := 100) C dX1_restore_26 (by decide) ?_
  refine r_copy C (100 * n) 0 100 lk_RX1_28 (by decide) (by decide) rfl rfl rfl rfl rfl (by omega) (by omega) (by decide) (by decide +kernel) dX1_restore_28 ?_
  refine r_aload_n C dX1_restore_31 rfl rfl ?_
  refine r_aload_n C dX1_restore_32 rfl rfl ?_
  refine gf_RX1_15 C dX1_restore_33 ?_
  refine r_aload_n C dX1_restore_36 rfl rfl ?_
  refine gf_RX1_24 C dX1_restore_37 ?_
  refine r_topi (show _ = nI n from rfl) ?_
  refine r_iald C (n) (by decide) rfl rfl hn2 dX1_restore_40 ?_
  refine pf_RX1_34 C dX1_restore_41 ?_
  refine r_aload_n C dX1_restore_44 rfl rfl ?_
  refine r_aload_n C dX1_restore_45 rfl rfl ?_
  refine gf_RX1_18 C dX1_restore_46 ?_
  refine r_aload_n C dX1_restore_49 rfl rfl ?_
  refine gf_RX1_24 C dX1_restore_50 ?_
  refine r_topi (show _ = nI n from rfl) ?_
  refine r_iald C (n) (by decide) rfl rfl hn2 dX1_restore_53 ?_
  refine pf_RX1_36 C dX1_restore_54 ?_
  exact r_vret CE rfl dX1_restore_57 (Nat.le_of_ble_eq_true rfl) ⟨rfl, rfl⟩
