/-! ===== the solver's numbers ===== -/
abbrev bd (B z : Int) : Prop := -B ≤ z ∧ z ≤ B
def rmf (m : Nat) (s nx : Nat → Int) (S : Nat) : Nat → Int
  | 0 => nx S
  | c + 1 => if m.testBit c then min (rmf m s nx S c) (s c + nx (cb S c)) else rmf m s nx S c
/-- the least score of a row: no column, or one of the mask m -/
def rmin (m : Nat) (s nx : Nat → Int) (S : Nat) : Int := rmf m s nx S 10
theorem rmf_bd {m : Nat} {s nx : Nat → Int} {S : Nat} {B : Int} (h0 : bd B (nx S)) (hc : ∀ c, c < 10 → m.testBit c = true → bd 1100000 (s c) ∧ bd B (nx (cb S c))) : ∀ n, n ≤ 10 → -(B + 1100000) ≤ rmf m s nx S n ∧ rmf m s nx S n ≤ B
  | 0, _ => by unfold rmf; omega
  | n + 1, h => by
    have ih := rmf_bd h0 hc n (by omega)
    unfold rmf
    split
    · rename_i hb
      have := hc n (by omega) hb
      omega
    · exact ih
theorem rmf_cong {m m' : Nat} {s s' nx nx' : Nat → Int} {S : Nat} : ∀ n, (∀ c, c < n → m.testBit c = m'.testBit c) → nx S = nx' S → (∀ c, c < n → m.testBit c = true → s c = s' c ∧ nx (cb S c) = nx' (cb S c)) → rmf m s nx S n = rmf m' s' nx' S n
  | 0, _, h, _ => h
  | n + 1, h1, h2, h3 => by
    unfold rmf
    rw [rmf_cong n (fun c hc => h1 c (by omega)) h2 (fun c hc => h3 c (by omega)), ← h1 n (by omega)]
    by_cases hb : m.testBit n = true
    · rw [if_pos hb, if_pos hb, (h3 n (by omega) hb).1, (h3 n (by omega) hb).2]
    · rw [if_neg hb, if_neg hb]
theorem xor_z {a b : Nat} (h : a ^^^ b = 0) : a = b := by
  apply Nat.eq_of_testBit_eq
  intro j
  have h1 := congrArg (fun z => Nat.testBit z j) h
  simp only [Nat.testBit_xor, Nat.zero_testBit] at h1
  cases ha : a.testBit j <;> cases hb : b.testBit j <;> simp [ha, hb] at h1 <;> rfl
/-- S is a part of A -/
theorem andn_z {S A : Nat} : andn S A = 0 ↔ ∀ j, S.testBit j = true → A.testBit j = true := by
  constructor
  · intro h j hj
    have h1 := congrArg (fun z => Nat.testBit z j) h
    simp only [andn_bit, Nat.zero_testBit, hj, Bool.true_and] at h1
    simpa using h1
  · intro h
    apply Nat.eq_of_testBit_eq
    intro j
    rw [andn_bit, Nat.zero_testBit]
    cases hj : S.testBit j
    · rfl
    · rw [h j hj]; rfl
theorem andn_le {S A : Nat} (h : andn S A = 0) : S ≤ A := by
  have h1 : S = S &&& A := xor_z h
  rw [h1]
  exact Nat.and_le_right
theorem cbl_i {A S r : Nat} (h : cbl A S r = true) : andn S A = 0 ∧ pop (andn A S) ≤ r := by
  unfold cbl at h
  simpa using h
theorem cbl_of {A S r : Nat} (h1 : andn S A = 0) (h2 : pop (andn A S) ≤ r) : cbl A S r = true := by
  unfold cbl
  rw [decide_eq_true h1, decide_eq_true h2]; rfl
theorem cbl_le {A S r : Nat} (h : cbl A S r = true) : S ≤ A := andn_le (cbl_i h).1
theorem cbl_mono {A S r : Nat} (h : cbl A S r = true) : cbl A S (r + 1) = true := cbl_of (cbl_i h).1 (by have := (cbl_i h).2; omega)
theorem popn_cong {S T : Nat} : ∀ n, (∀ j, j < n → S.testBit j = T.testBit j) → popn n S = popn n T
  | 0, _ => rfl
  | n + 1, h => by unfold popn; rw [h n (by omega), popn_cong n (fun j hj => h j (by omega))]
theorem popn_cb {A S c : Nat} (hA : A.testBit c = true) (hS : S.testBit c = true) : ∀ n, popn n (andn A (cb S c)) = popn n (andn A S) + (if c < n then 1 else 0)
  | 0 => rfl
  | n + 1 => by
    unfold popn
    rw [popn_cb hA hS n, andn_bit, andn_bit, cb_bit]
    by_cases e : n = c
    · subst e
      simp [hA, hS]
    · by_cases h1 : c < n
      · simp [e, h1, show c < n + 1 by omega]; omega
      · simp [e, h1, show ¬ c < n + 1 by omega]
theorem cbl_cb {A S r c : Nat} (hc : c < 10) (h : cbl A S r = true) (hS : S.testBit c = true) : cbl A (cb S c) (r + 1) = true := by
  obtain ⟨h1, h2⟩ := cbl_i h
  have h3 := andn_z.mp h1
  refine cbl_of (andn_z.mpr fun j hj => h3 j ?_) ?_
  · rw [cb_bit] at hj
    simp at hj
    exact hj.1
  · unfold pop at h2 ⊢
    rw [popn_cb (h3 c hS) hS, if_pos hc]
    omega
theorem cbl_self (A r : Nat) : cbl A A r = true := cbl_of (andn_z.mpr fun _ h => h) (by
  have h : andn A A = 0 := andn_z.mpr fun _ h => h
  rw [h]
  exact Nat.le_trans (by decide) (Nat.zero_le r))
theorem cb_le (S c : Nat) : cb S c ≤ S := by
  apply andn_le
  rw [andn_z]
  intro j hj
  rw [cb_bit] at hj
  simp at hj
  exact hj.1
/-- the state of fillRow: places from n on are filled -/
def flr (A r : Nat) (V old : Nat → Int32) (n : Nat) : Nat → Int32 := fun S => if n ≤ S ∧ cbl A S r = true then V S else old S
theorem flr_top {A r : Nat} {V old : Nat → Int32} : flr A r V old (A + 1) = old := by
  funext S
  unfold flr
  rw [if_neg]
  intro h
  have := cbl_le h.2
  omega
theorem flr_low {A r n S : Nat} {V old : Nat → Int32} (h : S < n) : flr A r V old n S = old S := by
  unfold flr
  rw [if_neg (by omega)]
theorem flr_put {A r j : Nat} {V old : Nat → Int32} (h : cbl A j r = true) : upd (flr A r V old (j + 1)) j (V j) = flr A r V old j := by
  funext S
  unfold upd flr
  by_cases e : S = j
  · subst e
    rw [if_pos rfl, if_pos ⟨Nat.le_refl _, h⟩]
  · rw [if_neg e]
    by_cases h2 : j ≤ S ∧ cbl A S r = true
    · rw [if_pos h2, if_pos ⟨by omega, h2.2⟩]
    · rw [if_neg h2, if_neg (fun q => h2 ⟨by omega, q.2⟩)]
theorem flr_skip {A r j : Nat} {V old : Nat → Int32} (h : cbl A j r = false) : flr A r V old (j + 1) = flr A r V old j := by
  funext S
  unfold flr
  by_cases e : S = j
  · subst e
    rw [if_neg (by omega), if_neg (fun q => by rw [h] at q; cases q.2)]
  · by_cases h2 : j ≤ S ∧ cbl A S r = true
    · rw [if_pos h2, if_pos ⟨by omega, h2.2⟩]
    · rw [if_neg h2, if_neg (fun q => h2 ⟨by omega, q.2⟩)]
