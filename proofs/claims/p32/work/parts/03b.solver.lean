/-! ===== the solver's numbers ===== -/
abbrev bd (B z : Int) : Prop := -B ≤ z ∧ z ≤ B
def rmf (m : Nat) (s nx : Nat → Int) (S : Nat) : Nat → Int
  | 0 => nx S
  | c + 1 => if m.testBit c then min (rmf m s nx S c) (s c + nx (cb S c)) else rmf m s nx S c
/-- the least score of a row: no column, or one of the mask m -/
def rmin (m : Nat) (s nx : Nat → Int) (S : Nat) : Int := rmf m s nx S 10
theorem rmf_bd {m : Nat} {s nx : Nat → Int} {S : Nat} {B : Int} (h0 : bd B (nx S)) (hc : ∀ c, c < 10 → m.testBit c = true → bd 1100000 (s c) ∧ bd B (nx (cb S c))) : ∀ n, n ≤ 10 → -(B + 1100000) ≤ rmf m s nx S n ∧ rmf m s nx S n ≤ B
  | 0, _ => by unfold rmf; omega
  | n + 1, h => by
    have ih := rmf_bd h0 hc n (by omega)
    unfold rmf
    split
    · rename_i hb
      have := hc n (by omega) hb
      omega
    · exact ih
theorem rmf_cong {m m' : Nat} {s s' nx nx' : Nat → Int} {S : Nat} : ∀ n, (∀ c, c < n → m.testBit c = m'.testBit c) → nx S = nx' S → (∀ c, c < n → m.testBit c = true → s c = s' c ∧ nx (cb S c) = nx' (cb S c)) → rmf m s nx S n = rmf m' s' nx' S n
  | 0, _, h, _ => h
  | n + 1, h1, h2, h3 => by
    unfold rmf
    rw [rmf_cong n (fun c hc => h1 c (by omega)) h2 (fun c hc => h3 c (by omega)), ← h1 n (by omega)]
    by_cases hb : m.testBit n = true
    · rw [if_pos hb, if_pos hb, (h3 n (by omega) hb).1, (h3 n (by omega) hb).2]
    · rw [if_neg hb, if_neg hb]
theorem xor_z {a b : Nat} (h : a ^^^ b = 0) : a = b := by
  apply Nat.eq_of_testBit_eq
  intro j
  have h1 := congrArg (fun z => Nat.testBit z j) h
  simp only [Nat.testBit_xor, Nat.zero_testBit] at h1
  cases ha : a.testBit j <;> cases hb : b.testBit j <;> simp [ha, hb] at h1 <;> rfl
/-- S is a part of A -/
theorem andn_z {S A : Nat} : andn S A = 0 ↔ ∀ j, S.testBit j = true → A.testBit j = true := by
  constructor
  · intro h j hj
    have h1 := congrArg (fun z => Nat.testBit z j) h
    simp only [andn_bit, Nat.zero_testBit, hj, Bool.true_and] at h1
    simpa using h1
  · intro h
    apply Nat.eq_of_testBit_eq
    intro j
    rw [andn_bit, Nat.zero_testBit]
    cases hj : S.testBit j
    · rfl
    · rw [h j hj]; rfl
theorem andn_le {S A : Nat} (h : andn S A = 0) : S ≤ A := by
  have h1 : S = S &&& A := xor_z h
  rw [h1]
  exact Nat.and_le_right
theorem cbl_i {A S r : Nat} (h : cbl A S r = true) : andn S A = 0 ∧ pop (andn A S) ≤ r := by
  unfold cbl at h
  simpa using h
theorem cbl_of {A S r : Nat} (h1 : andn S A = 0) (h2 : pop (andn A S) ≤ r) : cbl A S r = true := by
  unfold cbl
  rw [decide_eq_true h1, decide_eq_true h2]; rfl
theorem cbl_le {A S r : Nat} (h : cbl A S r = true) : S ≤ A := andn_le (cbl_i h).1
theorem cbl_mono {A S r : Nat} (h : cbl A S r = true) : cbl A S (r + 1) = true := cbl_of (cbl_i h).1 (by have := (cbl_i h).2; omega)
theorem popn_cong {S T : Nat} : ∀ n, (∀ j, j < n → S.testBit j = T.testBit j) → popn n S = popn n T
  | 0, _ => rfl
  | n + 1, h => by unfold popn; rw [h n (by omega), popn_cong n (fun j hj => h j (by omega))]
theorem popn_cb {A S c : Nat} (hA : A.testBit c = true) (hS : S.testBit c = true) : ∀ n, popn n (andn A (cb S c)) = popn n (andn A S) + (if c < n then 1 else 0)
  | 0 => rfl
  | n + 1 => by
    unfold popn
    rw [popn_cb hA hS n, andn_bit, andn_bit, cb_bit]
    by_cases e : n = c
    · subst e
      simp [hA, hS]
    · by_cases h1 : c < n
      · simp [e, h1, show c < n + 1 by omega]; omega
      · simp [e, h1, show ¬ c < n + 1 by omega]
theorem cbl_cb {A S r c : Nat} (hc : c < 10) (h : cbl A S r = true) (hS : S.testBit c = true) : cbl A (cb S c) (r + 1) = true := by
  obtain ⟨h1, h2⟩ := cbl_i h
  have h3 := andn_z.mp h1
  refine cbl_of (andn_z.mpr fun j hj => h3 j ?_) ?_
  · rw [cb_bit] at hj
    simp at hj
    exact hj.1
  · unfold pop at h2 ⊢
    rw [popn_cb (h3 c hS) hS, if_pos hc]
    omega
theorem cbl_self (A r : Nat) : cbl A A r = true := cbl_of (andn_z.mpr fun _ h => h) (by
  have h : andn A A = 0 := andn_z.mpr fun _ h => h
  rw [h]
  exact Nat.le_trans (by decide) (Nat.zero_le r))
theorem cb_le (S c : Nat) : cb S c ≤ S := by
  apply andn_le
  rw [andn_z]
  intro j hj
  rw [cb_bit] at hj
  simp at hj
  exact hj.1
/-- the state of fillRow: places from n on are filled -/
def flr (A r : Nat) (V old : Nat → Int32) (n : Nat) : Nat → Int32 := fun S => if n ≤ S ∧ cbl A S r = true then V S else old S
theorem flr_top {A r : Nat} {V old : Nat → Int32} : flr A r V old (A + 1) = old := by
  funext S
  unfold flr
  rw [if_neg]
  intro h
  have := cbl_le h.2
  omega
theorem flr_low {A r n S : Nat} {V old : Nat → Int32} (h : S < n) : flr A r V old n S = old S := by
  unfold flr
  rw [if_neg (by omega)]
theorem flr_put {A r j : Nat} {V old : Nat → Int32} (h : cbl A j r = true) : upd (flr A r V old (j + 1)) j (V j) = flr A r V old j := by
  funext S
  unfold upd flr
  by_cases e : S = j
  · subst e
    rw [if_pos rfl, if_pos ⟨Nat.le_refl _, h⟩]
  · rw [if_neg e]
    by_cases h2 : j ≤ S ∧ cbl A S r = true
    · rw [if_pos h2, if_pos ⟨by omega, h2.2⟩]
    · rw [if_neg h2, if_neg (fun q => h2 ⟨by omega, q.2⟩)]
theorem flr_skip {A r j : Nat} {V old : Nat → Int32} (h : cbl A j r = false) : flr A r V old (j + 1) = flr A r V old j := by
  funext S
  unfold flr
  by_cases e : S = j
  · subst e
    rw [if_neg (by omega), if_neg (fun q => by rw [h] at q; cases q.2)]
  · by_cases h2 : j ≤ S ∧ cbl A S r = true
    · rw [if_pos h2, if_pos ⟨by omega, h2.2⟩]
    · rw [if_neg h2, if_neg (fun q => h2 ⟨by omega, q.2⟩)]
/-! what the solver finds, of active rows ra, active columns ca, cells z -/
def us (ra ca : Nat) (z : Nat → Int) (r : Nat) : Nat := mk (fun c => ra.testBit r && (ca.testBit c && decide (¬ z (10 * r + c) = 20000))) 10
def sc (z : Nat → Int) (r c : Nat) : Int := z (10 * r + c) - 1000000
abbrev zok (x : Int) : Prop := -10000 ≤ x ∧ x ≤ 20000
/-- the least score of the last k rows, of free columns S -/
def Ls (ra ca : Nat) (z : Nat → Int) : Nat → Nat → Int
  | 0, _ => 0
  | k + 1, S => rmin (us ra ca z (9 - k) &&& S) (sc z (9 - k)) (Ls ra ca z k) S
theorem us_lt (ra ca : Nat) (z : Nat → Int) (r : Nat) : us ra ca z r < 1024 := mk_lt _ 10
theorem us_bit {ra ca : Nat} {z : Nat → Int} {r c : Nat} (hc : c < 10) : (us ra ca z r).testBit c = (ra.testBit r && (ca.testBit c && decide (¬ z (10 * r + c) = 20000))) := by
  unfold us
  rw [mk_bit, decide_eq_true hc, Bool.true_and]
theorem sc_bd {z : Nat → Int} (hz : ∀ k, k < 100 → zok (z k)) {r c : Nat} (hr : r < 10) (hc : c < 10) : bd 1100000 (sc z r c) := by
  have := hz (10 * r + c) (by omega)
  unfold sc
  omega
theorem Ls_bd {ra ca : Nat} {z : Nat → Int} (hz : ∀ k, k < 100 → zok (z k)) : ∀ (k S : Nat), k ≤ 10 → bd (1100000 * (k : Int)) (Ls ra ca z k S)
  | 0, S, _ => by unfold Ls; omega
  | k + 1, S, h => by
    have h1 := rmf_bd (m := us ra ca z (9 - k) &&& S) (s := sc z (9 - k)) (nx := Ls ra ca z k) (S := S) (B := 1100000 * (k : Int)) (Ls_bd hz k S (by omega)) (fun c hc _ => ⟨sc_bd hz (by omega) hc, Ls_bd hz k _ (by omega)⟩) 10 (Nat.le_refl _)
    have e : Ls ra ca z (k + 1) S = rmf (us ra ca z (9 - k) &&& S) (sc z (9 - k)) (Ls ra ca z k) S 10 := rfl
    rw [e]
    omega
/-- a pair that goes on to the least score -/
def opt (ra ca : Nat) (z : Nat → Int) (r c F : Nat) : Bool := (us ra ca z r &&& F).testBit c && decide (sc z r c + Ls ra ca z (9 - r) (cb F c) = Ls ra ca z (10 - r) F)
/-- the first of n places, or n -/
def ff (p : Nat → Bool) : Nat → Nat
  | 0 => 0
  | n + 1 => if ff p n < n then ff p n else if p n then n else n + 1
theorem ff_le (p : Nat → Bool) : ∀ n, ff p n ≤ n
  | 0 => Nat.le_refl 0
  | n + 1 => by
    have := ff_le p n
    unfold ff
    split
    · omega
    · split <;> omega
theorem ff_no (p : Nat → Bool) : ∀ n k, k < ff p n → p k = false
  | 0, k, h => absurd h (Nat.not_lt_zero k)
  | n + 1, k, h => by
    have h0 := ff_le p n
    unfold ff at h
    split at h
    · exact ff_no p n k h
    · rename_i h1
      split at h
      · exact ff_no p n k (by omega)
      · rename_i h2
        rcases Nat.lt_or_ge k n with q | q
        · exact ff_no p n k (by omega)
        · have e : k = n := by omega
          subst e
          simpa using h2
theorem ff_yes (p : Nat → Bool) : ∀ n, ff p n < n → p (ff p n) = true
  | 0, h => absurd h (Nat.not_lt_zero _)
  | n + 1, h => by
    have h0 := ff_le p n
    unfold ff at h ⊢
    split
    · rename_i h1
      exact ff_yes p n h1
    · rename_i h1
      rw [if_neg h1] at h
      split
      · assumption
      · rename_i h2
        rw [if_neg h2] at h
        omega
theorem ff_is {p : Nat → Bool} {n k : Nat} (hk : k < n) (hn : ∀ j, j < k → p j = false) (hp : p k = true) : ff p n = k := by
  rcases Nat.lt_trichotomy (ff p n) k with h | h | h
  · have := ff_yes p n (by omega)
    rw [hn _ h] at this
    cases this
  · exact h
  · rw [ff_no p n k h] at hp
    cases hp
theorem ff_all {p : Nat → Bool} {n : Nat} (hn : ∀ j, j < n → p j = false) : ff p n = n := by
  have h0 := ff_le p n
  rcases Nat.lt_or_ge (ff p n) n with h | h
  · have := ff_yes p n h
    rw [hn _ h] at this
    cases this
  · omega
/-- a column, or none (10) -/
def cI (c : Nat) : Int32 := if c < 10 then nI c else -1
/-- the column of row r in the assignment that is kept, F being free; what is free behind it -/
def kcol (ra ca : Nat) (z : Nat → Int) (r F : Nat) : Nat := ff (fun c => opt ra ca z r c F) 10
def kfree (ra ca : Nat) (z : Nat → Int) : Nat → Nat
  | 0 => ca
  | r + 1 => if kcol ra ca z r (kfree ra ca z r) < 10 then cb (kfree ra ca z r) (kcol ra ca z r (kfree ra ca z r)) else kfree ra ca z r
theorem opt_i {ra ca : Nat} {z : Nat → Int} {r c F : Nat} (h : opt ra ca z r c F = true) : F.testBit c = true ∧ (us ra ca z r).testBit c = true := by
  unfold opt at h
  rw [Nat.testBit_and] at h
  simp at h
  exact ⟨h.1.2, h.1.1⟩
theorem kfree_cbl {ra ca : Nat} {z : Nat → Int} : ∀ r, r ≤ 10 → cbl ca (kfree ra ca z r) r = true
  | 0, _ => cbl_self ca 0
  | r + 1, h => by
    have ih := kfree_cbl (ra := ra) (ca := ca) (z := z) r (by omega)
    unfold kfree
    split
    · rename_i h1
      exact cbl_cb h1 ih (opt_i (ff_yes (fun c => opt ra ca z r c (kfree ra ca z r)) 10 h1)).1
    · exact cbl_mono ih
/-- the solver holds what it finds of ra, ca, z; its rows from r0 on -/
def SvR (X : St) (ra ca : Nat) (z : Nat → Int) (r0 : Nat) : Prop := Zm X 7 2 = nI ca ∧ (∀ r, r < 10 → Zv X 9 r = nI (us ra ca z r)) ∧ (∀ r c, r < 10 → c < 10 → Zv X 8 (10 * r + c) = i32 (sc z r c)) ∧ (∀ r S, r0 ≤ r → r ≤ 10 → S < 1024 → cbl ca S r = true → Zv X (14 + r) S = i32 (Ls ra ca z (10 - r) S)) ∧ ca < 1024 ∧ ∀ k, k < 100 → zok (z k)
def SvK (X : St) (ra ca : Nat) (z : Nat → Int) : Prop := SvR X ra ca z 0 ∧ Zm X 7 7 = i32 (Ls ra ca z 10 ca) ∧ ∀ r, r < 10 → Zv X 12 r = cI (kcol ra ca z r (kfree ra ca z r))
/-- the table's cells are z -/
def TbZ (X : St) (ra ca : Nat) (z : Nat → Int) : Prop := Zm X 1 3 = nI ra ∧ Zm X 1 4 = nI ca ∧ ra < 1024 ∧ ca < 1024 ∧ ∀ k, k < 100 → Zv X 2 k = i32 (z k) ∧ zok (z k)
theorem i20000 {x : Int} (h : zok x) : i32 x = 20000 ↔ x = 20000 := by
  rw [k20000]
  exact i32_eq (by omega) (by omega)
theorem lay14 {r : Nat} (h : r ≤ 10) : lay (14 + r) = (1, 1024, []) := by
  have hd : ∀ r, r < 11 → lay (14 + r) = (1, 1024, []) := by decide +kernel
  exact hd r (by omega)
