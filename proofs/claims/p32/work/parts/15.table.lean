theorem xa_45 : ∀ w ∈ vx_atS RX5 45 "java/lang/IllegalStateException" ["java/lang/RuntimeException", "java/lang/Exception"], w ∈ lw_all ∨ w ∈ lw_nst := by decide +kernel
theorem xa_97 : ∀ w ∈ vx_atS RX5 97 "java/lang/IllegalArgumentException" ["java/lang/RuntimeException", "java/lang/Exception"], w ∈ lw_all ∨ w ∈ lw_nst := by decide +kernel
theorem xa_230 : ∀ w ∈ vx_atS RX5 230 "java/lang/IndexOutOfBoundsException" ["java/lang/RuntimeException", "java/lang/Exception"], w ∈ lw_all ∨ w ∈ lw_nst := by decide +kernel
/-- x is one of n places -/
def inI (x : Int32) (n : Nat) : Bool := decide (0 ≤ x.toInt) && decide (x.toInt < (n : Int))
theorem inI_t {x : Int32} {n : Nat} (h : inI x n = true) : ∃ r, r < n ∧ x = nI r := by
  unfold inI at h
  simp at h
  have h1 : x = i32 x.toInt := i32_of x
  refine ⟨x.toInt.toNat, by omega, ?_⟩
  rw [i32_n, Int.toNat_of_nonneg h.1]
  exact h1
theorem inI_n {r n : Nat} (h : r < 2 ^ 31) : inI (nI r) n = decide (r < n) := by
  unfold inI
  rw [nI_toInt h]
  by_cases q : r < n
  · rw [decide_eq_true q, decide_eq_true (by omega), decide_eq_true (by omega)]; rfl
  · rw [decide_eq_false q, decide_eq_false (p := (r : Int) < n) (by omega), Bool.and_false]
theorem inI_f {x : Int32} {n : Nat} (hn : n < 2 ^ 31) (h : x < 0 ∨ ¬ x < nI n) : inI x n = false := by
  unfold inI
  rcases h with h | h
  · rw [Int32.lt_iff_toInt_lt] at h
    have e0 : (0 : Int32).toInt = 0 := by decide
    rw [decide_eq_false (by omega)]; rfl
  · rw [Int32.lt_iff_toInt_lt, nI_toInt hn] at h
    rw [decide_eq_false (p := x.toInt < (n : Int)) h, Bool.and_false]
theorem inI_i {x : Int32} {n : Nat} (hn : n < 2 ^ 31) (h1 : ¬ x < 0) (h2 : x < nI n) : inI x n = true := by
  unfold inI
  rw [Int32.lt_iff_toInt_lt] at h1 h2
  have e0 : (0 : Int32).toInt = 0 := by decide
  rw [nI_toInt hn] at h2
  rw [decide_eq_true (by omega), decide_eq_true (by omega)]; rfl
set_option maxHeartbeats 4000000 in
set_option maxRecDepth 100000 in
/-- X5_requireRow  -/
theorem con_X5_requireRow (l : Launch) (hfl : l.stackTraces = false) {R : Nat} {x : Int32} (X : St) (hR : Zm X 1 1 = nI R) (hR2 : R ≤ 10) : Con l yX5_requireRow cX5_requireRow 2 none 6 100 1 (fun G => [.ref (G.2.1 0), .int x]) X (kV (fun X' => X = X' ∧ inI x R = true)) (fun E X' => E = "java/lang/IndexOutOfBoundsException" ∧ X = X' ∧ inI x R = false) := by
  refine con_of (lv := fun G => [(0, .ref (G.2.1 0)), (1, .int x)]) hfl (by decide +kernel) (fun _ => rfl) (fun _ => Nat.le_of_ble_eq_true rfl) ?_
  intro G J JX CE
  have C := CE.b
  refine r_iload_n C dX5_requireRow_0 rfl rfl ?_
  refine r_if_lt (tgt := 15) C dX5_requireRow_1 (by decide) (fun c_1 => ?_) (fun c_1 => ?_)
  · -- 15
    exact r_throw CE rfl (by decide +kernel) (by decide +kernel) ck_RX5_226 ik_Qjava_lang_IndexOutOfBoundsException sk_RX5_228 (xa_230) dX5_requireRow_15 dX5_requireRow_18 dX5_requireRow_19 dX5_requireRow_21 dX5_requireRow_24 (by decide) (Nat.le_of_ble_eq_true rfl) (Nat.le_of_ble_eq_true rfl) ⟨rfl, rfl, by first | exact inI_f (by omega) (Or.inl c_1) | exact inI_f (by omega) (Or.inr c_12)⟩
  · -- 4
    refine r_iload_n C dX5_requireRow_4 rfl rfl ?_
    refine r_aload_n C dX5_requireRow_5 rfl rfl ?_
    refine gf_RX5_12 C dX5_requireRow_6 ?_
    refine gf_RX5_37 C dX5_requireRow_9 ?_
    refine r_topi hR ?_
    refine r_icmp_lt (tgt := 25) C dX5_requireRow_12 (by decide) (fun c_12 => ?_) (fun c_12 => ?_)
    · -- 25
      exact r_vret CE rfl dX5_requireRow_25 (Nat.le_of_ble_eq_true rfl) ⟨rfl, rfl, inI_i (by omega) c_1 c_12⟩
    · -- 15
      exact r_throw CE rfl (by decide +kernel) (by decide +kernel) ck_RX5_226 ik_Qjava_lang_IndexOutOfBoundsException sk_RX5_228 (xa_230) dX5_requireRow_15 dX5_requireRow_18 dX5_requireRow_19 dX5_requireRow_21 dX5_requireRow_24 (by decide) (Nat.le_of_ble_eq_true rfl) (Nat.le_of_ble_eq_true rfl) ⟨rfl, rfl, by first | exact inI_f (by omega) (Or.inl c_1) | exact inI_f (by omega) (Or.inr c_12)⟩
set_option maxHeartbeats 4000000 in
set_option maxRecDepth 100000 in
/-- X5_requireColumn  -/
theorem con_X5_requireColumn (l : Launch) (hfl : l.stackTraces = false) {R : Nat} {x : Int32} (X : St) (hR : Zm X 1 2 = nI R) (hR2 : R ≤ 10) : Con l yX5_requireColumn cX5_requireColumn 2 none 6 100 1 (fun G => [.ref (G.2.1 0), .int x]) X (kV (fun X' => X = X' ∧ inI x R = true)) (fun E X' => E = "java/lang/IndexOutOfBoundsException" ∧ X = X' ∧ inI x R = false) := by
  refine con_of (lv := fun G => [(0, .ref (G.2.1 0)), (1, .int x)]) hfl (by decide +kernel) (fun _ => rfl) (fun _ => Nat.le_of_ble_eq_true rfl) ?_
  intro G J JX CE
  have C := CE.b
  refine r_iload_n C dX5_requireColumn_0 rfl rfl ?_
  refine r_if_lt (tgt := 15) C dX5_requireColumn_1 (by decide) (fun c_1 => ?_) (fun c_1 => ?_)
  · -- 15
    exact r_throw CE rfl (by decide +kernel) (by decide +kernel) ck_RX5_226 ik_Qjava_lang_IndexOutOfBoundsException sk_RX5_231 (xa_230) dX5_requireColumn_15 dX5_requireColumn_18 dX5_requireColumn_19 dX5_requireColumn_21 dX5_requireColumn_24 (by decide) (Nat.le_of_ble_eq_true rfl) (Nat.le_of_ble_eq_true rfl) ⟨rfl, rfl, by first | exact inI_f (by omega) (Or.inl c_1) | exact inI_f (by omega) (Or.inr c_12)⟩
  · -- 4
    refine r_iload_n C dX5_requireColumn_4 rfl rfl ?_
    refine r_aload_n C dX5_requireColumn_5 rfl rfl ?_
    refine gf_RX5_12 C dX5_requireColumn_6 ?_
    refine gf_RX5_56 C dX5_requireColumn_9 ?_
    refine r_topi hR ?_
    refine r_icmp_lt (tgt := 25) C dX5_requireColumn_12 (by decide) (fun c_12 => ?_) (fun c_12 => ?_)
    · -- 25
      exact r_vret CE rfl dX5_requireColumn_25 (Nat.le_of_ble_eq_true rfl) ⟨rfl, rfl, inI_i (by omega) c_1 c_12⟩
    · -- 15
      exact r_throw CE rfl (by decide +kernel) (by decide +kernel) ck_RX5_226 ik_Qjava_lang_IndexOutOfBoundsException sk_RX5_231 (xa_230) dX5_requireColumn_15 dX5_requireColumn_18 dX5_requireColumn_19 dX5_requireColumn_21 dX5_requireColumn_24 (by decide) (Nat.le_of_ble_eq_true rfl) (Nat.le_of_ble_eq_true rfl) ⟨rfl, rfl, by first | exact inI_f (by omega) (Or.inl c_1) | exact inI_f (by omega) (Or.inr c_12)⟩
set_option maxHeartbeats 4000000 in
set_option maxRecDepth 100000 in
/-- X5_requirePair  -/
theorem con_X5_requirePair (l : Launch) (hfl : l.stackTraces = false) {R C0 : Nat} {x y : Int32} (X : St) (hR : Zm X 1 1 = nI R) (hR2 : R ≤ 10) (hC : Zm X 1 2 = nI C0) (hC2 : C0 ≤ 10) : Con l yX5_requirePair cX5_requirePair 3 none 7 130 2 (fun G => [.ref (G.2.1 0), .int x, .int y]) X (kV (fun X' => X = X' ∧ inI x R = true ∧ inI y C0 = true)) (fun E X' => E = "java/lang/IndexOutOfBoundsException" ∧ X = X' ∧ (inI x R && inI y C0) = false) := by
  refine con_of (lv := fun G => [(0, .ref (G.2.1 0)), (1, .int x), (2, .int y)]) hfl (by decide +kernel) (fun _ => rfl) (fun _ => Nat.le_of_ble_eq_true rfl) ?_
  intro G J JX CE
  have C := CE.b
  refine r_aload_n C dX5_requirePair_0 rfl rfl ?_
  refine r_iload_n C dX5_requirePair_1 rfl rfl ?_
  refine cl_RX5_64 C (con_X5_requireRow l hfl _ hR hR2) dX5_requirePair_2 rfl ⟨Nat.le_of_ble_eq_true rfl, Nat.le_of_ble_eq_true rfl⟩ (by omega) (Nat.le_of_ble_eq_true rfl) (fun E_2 X_2 x_2 => ?_) (fun X_2 h_2 => ?_)
  · -- thrown
    obtain ⟨rfl, rfl, h9⟩ := x_2
    exact r_out CE rfl (Nat.le_of_ble_eq_true rfl) ⟨rfl, rfl, by rw [h9]; rfl⟩
  obtain ⟨rfl, h2⟩ := h_2
  refine r_aload_n C dX5_requirePair_5 rfl rfl ?_
  refine r_iload_n C dX5_requirePair_6 rfl rfl ?_
  refine cl_RX5_79 C (con_X5_requireColumn l hfl _ hC hC2) dX5_requirePair_7 rfl ⟨Nat.le_of_ble_eq_true rfl, Nat.le_of_ble_eq_true rfl⟩ (by omega) (Nat.le_of_ble_eq_true rfl) (fun E_7 X_7 x_7 => ?_) (fun X_7 h_7 => ?_)
  · -- thrown
    obtain ⟨rfl, rfl, h9⟩ := x_7
    exact r_out CE rfl (Nat.le_of_ble_eq_true rfl) ⟨rfl, rfl, by rw [h2, h9]; rfl⟩
  obtain ⟨rfl, h7⟩ := h_7
  exact r_vret CE rfl dX5_requirePair_10 (Nat.le_of_ble_eq_true rfl) ⟨rfl, rfl, h2, h7⟩
set_option maxHeartbeats 4000000 in
set_option maxRecDepth 100000 in
/-- X4_appendRow  -/
theorem con_X4_appendRow (l : Launch) (hfl : l.stackTraces = false) {S n : Nat} (X : St) (hS : Zm X 1 3 = nI S) (hn : Zm X 1 1 = nI n) (hn2 : n < 10) : Con l yX4_appendRow cX4_appendRow 1 (some (FieldType.int)) 1 30 0 (fun G => [.ref (G.2.1 1)]) X (kI (fun r9 X' => r9 = nI n ∧ Ym (Ym X 1 3 (nI (sb S n))) 1 1 (nI (n + 1)) = X')) kF := by
  refine con_of (lv := fun G => [(0, .ref (G.2.1 1))]) hfl (by decide +kernel) (fun _ => rfl) (fun _ => Nat.le_of_ble_eq_true rfl) ?_
  intro G J JX CE
  have C := CE.b
  refine r_aload_n C dX4_appendRow_0 rfl rfl ?_
  refine r_aload_n C dX4_appendRow_1 rfl rfl ?_
  refine gf_RX4_21 C dX4_appendRow_2 ?_
  refine r_topi hS ?_
  refine r_aload_n C dX4_appendRow_5 rfl rfl ?_
  refine gf_RX4_25 C dX4_appendRow_6 ?_
  refine r_topi hn ?_
  refine r_iconst (v := 1) C dX4_appendRow_9 (by decide) ?_
  refine cl_RX4_28 C (con_withBit1 l hfl _ (by omega)) dX4_appendRow_10 rfl ⟨Nat.le_of_ble_eq_true rfl, Nat.le_of_ble_eq_true rfl⟩ (by omega) (Nat.le_of_ble_eq_true rfl) (fun r_10 X_10 h_10 => ?_)
  obtain ⟨rfl, rfl⟩ := h_10
  refine pf_RX4_21 C dX4_appendRow_13 ?_
  refine r_aload_n C dX4_appendRow_16 rfl rfl ?_
  refine r_dup C dX4_appendRow_17 rfl ?_
  refine gf_RX4_25 C dX4_appendRow_18 ?_
  refine r_topi (show _ = nI n from hn) ?_
  refine r_iconst (v := 1) C dX4_appendRow_21 (by decide) ?_
  refine r_iadd C dX4_appendRow_22 ?_
  refine r_topi (nI_1 n) ?_
  refine pf_RX4_25 C dX4_appendRow_23 ?_
  refine r_aload_n C dX4_appendRow_26 rfl rfl ?_
  refine gf_RX4_25 C dX4_appendRow_27 ?_
  refine r_topi (show _ = nI (n + 1) from rfl) ?_
  refine r_iconst (v := 1) C dX4_appendRow_30 (by decide) ?_
  refine r_isub C dX4_appendRow_31 ?_
  refine r_topi (nI_pred n) ?_
  exact r_iret CE rfl rfl dX4_appendRow_32 (Nat.le_of_ble_eq_true rfl) ⟨_, rfl, rfl, rfl⟩
set_option maxHeartbeats 4000000 in
set_option maxRecDepth 100000 in
/-- X4_appendColumn  -/
theorem con_X4_appendColumn (l : Launch) (hfl : l.stackTraces = false) {S n : Nat} (X : St) (hS : Zm X 1 4 = nI S) (hn : Zm X 1 2 = nI n) (hn2 : n < 10) : Con l yX4_appendColumn cX4_appendColumn 1 (some (FieldType.int)) 1 30 0 (fun G => [.ref (G.2.1 1)]) X (kI (fun r9 X' => r9 = nI n ∧ Ym (Ym X 1 4 (nI (sb S n))) 1 2 (nI (n + 1)) = X')) kF := by
  refine con_of (lv := fun G => [(0, .ref (G.2.1 1))]) hfl (by decide +kernel) (fun _ => rfl) (fun _ => Nat.le_of_ble_eq_true rfl) ?_
  intro G J JX CE
  have C := CE.b
  refine r_aload_n C dX4_appendColumn_0 rfl rfl ?_
  refine r_aload_n C dX4_appendColumn_1 rfl rfl ?_
  refine gf_RX4_32 C dX4_appendColumn_2 ?_
  refine r_topi hS ?_
  refine r_aload_n C dX4_appendColumn_5 rfl rfl ?_
  refine gf_RX4_35 C dX4_appendColumn_6 ?_
  refine r_topi hn ?_
  refine r_iconst (v := 1) C dX4_appendColumn_9 (by decide) ?_
  refine cl_RX4_28 C (con_withBit1 l hfl _ (by omega)) dX4_appendColumn_10 rfl ⟨Nat.le_of_ble_eq_true rfl, Nat.le_of_ble_eq_true rfl⟩ (by omega) (Nat.le_of_ble_eq_true rfl) (fun r_10 X_10 h_10 => ?_)
  obtain ⟨rfl, rfl⟩ := h_10
  refine pf_RX4_32 C dX4_appendColumn_13 ?_
  refine r_aload_n C dX4_appendColumn_16 rfl rfl ?_
  refine r_dup C dX4_appendColumn_17 rfl ?_
  refine gf_RX4_35 C dX4_appendColumn_18 ?_
  refine r_topi (show _ = nI n from hn) ?_
  refine r_iconst (v := 1) C dX4_appendColumn_21 (by decide) ?_
  refine r_iadd C dX4_appendColumn_22 ?_
  refine r_topi (nI_1 n) ?_
  refine pf_RX4_35 C dX4_appendColumn_23 ?_
  refine r_aload_n C dX4_appendColumn_26 rfl rfl ?_
  refine gf_RX4_35 C dX4_appendColumn_27 ?_
  refine r_topi (show _ = nI (n + 1) from rfl) ?_
  refine r_iconst (v := 1) C dX4_appendColumn_30 (by decide) ?_
  refine r_isub C dX4_appendColumn_31 ?_
  refine r_topi (nI_pred n) ?_
  exact r_iret CE rfl rfl dX4_appendColumn_32 (Nat.le_of_ble_eq_true rfl) ⟨_, rfl, rfl, rfl⟩
/-- the costs of a row, x added, stay in range: the first n columns -/
def shok (z : Nat → Int) (r : Nat) (x : Int) : Nat → Bool
  | 0 => true
  | n + 1 => shok z r x n && (decide (z (10 * r + n) = 20000) || inC (z (10 * r + n) + x))
theorem shok_stop {z : Nat → Int} {r : Nat} {x : Int} {c : Nat} (h : z (10 * r + c) ≠ 20000) (h2 : inC (z (10 * r + c) + x) = false) : ∀ n, c < n → shok z r x n = false
  | 0, q => absurd q (Nat.not_lt_zero c)
  | n + 1, q => by
    unfold shok
    by_cases e : c = n
    · subst e
      rw [h2, decide_eq_false h]
      simp
    · rw [shok_stop h h2 n (by omega)]
      rfl
/-- the row's costs, x added -/
def shz (z : Nat → Int) (r : Nat) (x : Int) : Nat → Int := fun k => if k / 10 = r ∧ z k ≠ 20000 then z k + x else z k
/-- how many allowed pairs the first n columns of row r have -/
def alw (z : Nat → Int) (r : Nat) : Nat → Nat
  | 0 => 0
  | n + 1 => if z (10 * r + n) = 20000 then alw z r n else alw z r n + 1
theorem alw_le (z : Nat → Int) (r : Nat) : ∀ n, alw z r n ≤ n
  | 0 => Nat.le_refl 0
  | n + 1 => by
    have := alw_le z r n
    unfold alw
    split <;> omega
