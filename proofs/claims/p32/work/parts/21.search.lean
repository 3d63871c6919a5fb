/-! ===== the law's search over all assignments, in numbers ===== -/
/-- what the law keeps of a pair: 99 stands for a forbidden one -/
def cw (x : Int) : Int := if x = 20000 then 99 else x
/-- the column that the number n gives to row r, 4 for none -/
def dg (n r : Nat) : Nat := n / 5 ^ (3 - r) % 5
/-- the size of the last k rows of n, t taken, s before; -1 if it is none -/
def szw (u : Nat → Int) (n : Nat) : Nat → Nat → Int → Int
  | 0, _, s => s
  | k + 1, t, s => if dg n (3 - k) = 4 then szw u n k t s else if t.testBit (dg n (3 - k)) = true ∨ u (4 * (3 - k) + dg n (3 - k)) = 99 then -1 else szw u n k (sb t (dg n (3 - k))) (s + 1)
def csw (u : Nat → Int) (n : Nat) : Nat → Int → Int
  | 0, a => a
  | k + 1, a => csw u n k (a + if dg n (3 - k) = 4 then 0 else u (4 * (3 - k) + dg n (3 - k)))
def szN (u : Nat → Int) (n : Nat) : Int := szw u n 4 0 0
def csN (u : Nat → Int) (n : Nat) : Int := csw u n 4 0
/-- the greatest size of the first n numbers -/
def gsf (u : Nat → Int) : Nat → Int
  | 0 => 0
  | n + 1 => max (gsf u n) (szN u n)
/-- the first one of least cost, of the first n numbers with size g; none: -1 -/
def bsf (u : Nat → Int) (g : Int) : Nat → Int
  | 0 => -1
  | n + 1 => if szN u n = g ∧ (bsf u g n < 0 ∨ csN u n < csN u (bsf u g n).toNat) then (n : Int) else bsf u g n
theorem dg_lt (n r : Nat) : dg n r < 5 := Nat.mod_lt _ (by decide)
/-! the solver's least score -/
theorem rmf_le0 {m S : Nat} {s nx : Nat → Int} : ∀ n, rmf m s nx S n ≤ nx S
  | 0 => Int.le_refl _
  | n + 1 => by
    have ih := rmf_le0 (m := m) (S := S) (s := s) (nx := nx) n
    unfold rmf
    split
    · omega
    · exact ih
theorem rmf_lec {m S : Nat} {s nx : Nat → Int} {c : Nat} (hb : m.testBit c = true) : ∀ n, c < n → rmf m s nx S n ≤ s c + nx (cb S c)
  | 0, h => absurd h (Nat.not_lt_zero c)
  | n + 1, h => by
    unfold rmf
    by_cases e : c = n
    · subst e
      rw [if_pos hb]
      omega
    · have ih := rmf_lec (S := S) (s := s) (nx := nx) hb n (by omega)
      split
      · omega
      · exact ih
theorem rmf_att {m S : Nat} {s nx : Nat → Int} : ∀ n, rmf m s nx S n = nx S ∨ ∃ c, c < n ∧ m.testBit c = true ∧ rmf m s nx S n = s c + nx (cb S c)
  | 0 => Or.inl rfl
  | n + 1 => by
    have ih := rmf_att (m := m) (S := S) (s := s) (nx := nx) n
    unfold rmf
    by_cases hb : m.testBit n = true
    · rw [if_pos hb]
      by_cases hq : rmf m s nx S n ≤ s n + nx (cb S n)
      · rw [Int.min_eq_left hq]
        rcases ih with h | ⟨c, h1, h2, h3⟩
        · exact Or.inl h
        · exact Or.inr ⟨c, by omega, h2, h3⟩
      · rw [Int.min_eq_right (by omega)]
        exact Or.inr ⟨n, by omega, hb, rfl⟩
    · rw [if_neg hb]
      rcases ih with h | ⟨c, h1, h2, h3⟩
      · exact Or.inl h
      · exact Or.inr ⟨c, by omega, h2, h3⟩
theorem rmf_0 {m S : Nat} {s nx : Nat → Int} : ∀ n, (∀ c, c < n → m.testBit c = false) → rmf m s nx S n = nx S
  | 0, _ => rfl
  | n + 1, h => by
    unfold rmf
    rw [if_neg (by rw [h n (by omega)]; decide)]
    exact rmf_0 n (fun c hc => h c (by omega))
/-- rows and columns behind the fourth make no pairs -/
def u4 (ra ca : Nat) (z : Nat → Int) : Prop := ∀ r c, (us ra ca z r).testBit c = true → r < 4 ∧ c < 4
theorem u4_of {ra ca : Nat} {z : Nat → Int} (h1 : ra < 16) (h2 : ca < 16) : u4 ra ca z := by
  intro r c h
  have hc : c < 10 := bit_lt (n := 10) (us_lt ra ca z r) h
  rw [us_bit hc] at h
  simp at h
  exact ⟨bit_lt (n := 4) h1 h.1, bit_lt (n := 4) h2 h.2.1⟩
theorem Ls_6 {ra ca : Nat} {z : Nat → Int} (h4 : u4 ra ca z) : ∀ k, k ≤ 6 → ∀ S, Ls ra ca z k S = 0
  | 0, _, _ => rfl
  | k + 1, h, S => by
    have e : Ls ra ca z (k + 1) S = rmf (us ra ca z (9 - k) &&& S) (sc z (9 - k)) (Ls ra ca z k) S 10 := rfl
    rw [e, rmf_0 10 (fun c _ => by
      rw [Nat.testBit_and]
      cases hb : (us ra ca z (9 - k)).testBit c
      · rfl
      · exact absurd (h4 _ _ hb).1 (by omega))]
    exact Ls_6 h4 k (by omega) S
/-! numbers and the solver -/
def vl (ra ca : Nat) (z : Nat → Int) (n : Nat) : Nat → Nat → Bool
  | 0, _ => true
  | k + 1, S => if dg n (3 - k) = 4 then vl ra ca z n k S else (us ra ca z (3 - k) &&& S).testBit (dg n (3 - k)) && vl ra ca z n k (cb S (dg n (3 - k)))
def vs (z : Nat → Int) (n : Nat) : Nat → Int
  | 0 => 0
  | k + 1 => (if dg n (3 - k) = 4 then 0 else sc z (3 - k) (dg n (3 - k))) + vs z n k
def pth (ra ca : Nat) (z : Nat → Int) : Nat → Nat → Nat
  | 0, _ => 0
  | k + 1, S => if kcol ra ca z (3 - k) S < 10 then kcol ra ca z (3 - k) S * 5 ^ k + pth ra ca z k (cb S (kcol ra ca z (3 - k) S)) else 4 * 5 ^ k + pth ra ca z k S
theorem kcol_opt {ra ca : Nat} {z : Nat → Int} {r F : Nat} (h : kcol ra ca z r F < 10) : opt ra ca z r (kcol ra ca z r F) F = true := ff_yes (fun c => opt ra ca z r c F) 10 h
theorem kcol_no {ra ca : Nat} {z : Nat → Int} {r F c : Nat} (h : c < kcol ra ca z r F) : opt ra ca z r c F = false := ff_no (fun c => opt ra ca z r c F) 10 c h
theorem opt_k {ra ca : Nat} {z : Nat → Int} {k S c : Nat} (hk : k ≤ 3) : opt ra ca z (3 - k) c S = true ↔ ((us ra ca z (3 - k) &&& S).testBit c = true ∧ sc z (3 - k) c + Ls ra ca z (6 + k) (cb S c) = Ls ra ca z (6 + (k + 1)) S) := by
  unfold opt
  rw [show 9 - (3 - k) = 6 + k by omega, show 10 - (3 - k) = 6 + (k + 1) by omega, Bool.and_eq_true, decide_eq_true_eq]
theorem Ls_k {ra ca : Nat} {z : Nat → Int} {k : Nat} (hk : k ≤ 3) (S : Nat) : Ls ra ca z (6 + (k + 1)) S = rmf (us ra ca z (3 - k) &&& S) (sc z (3 - k)) (Ls ra ca z (6 + k)) S 10 := by
  have e : Ls ra ca z (6 + k + 1) S = rmf (us ra ca z (9 - (6 + k)) &&& S) (sc z (9 - (6 + k))) (Ls ra ca z (6 + k)) S 10 := rfl
  rw [show 9 - (6 + k) = 3 - k by omega] at e
  exact e
theorem dec_eq {B a d c q : Nat} (ha : a < B) (hq : q < B) (h : a + B * d = c * B + q) : d = c ∧ a = q := by
  rw [Nat.mul_comm c B] at h
  rcases Nat.lt_trichotomy d c with g | g | g
  · have := Nat.mul_le_mul_left B g
    rw [Nat.mul_succ] at this
    omega
  · subst g
    exact ⟨rfl, by omega⟩
  · have := Nat.mul_le_mul_left B g
    rw [Nat.mul_succ] at this
    omega
theorem dec_lt {B a d c q : Nat} (hq : q < B) (h : a + B * d < c * B + q) : d < c ∨ (d = c ∧ a < q) := by
  rw [Nat.mul_comm c B] at h
  rcases Nat.lt_trichotomy d c with g | g | g
  · exact Or.inl g
  · subst g
    exact Or.inr ⟨rfl, by omega⟩
  · have := Nat.mul_le_mul_left B g
    rw [Nat.mul_succ] at this
    omega
theorem dg_k {k : Nat} (hk : k ≤ 3) (n : Nat) : n % 5 ^ (k + 1) = n % 5 ^ k + 5 ^ k * dg n (3 - k) := by
  unfold dg
  rw [show 3 - (3 - k) = k by omega, Nat.pow_succ, Nat.mod_mul]
theorem kcol_4 {ra ca : Nat} {z : Nat → Int} {r F : Nat} (h4 : u4 ra ca z) (h : kcol ra ca z r F < 10) : kcol ra ca z r F < 4 := (h4 _ _ (opt_i (kcol_opt h)).2).2
theorem pth_lt {ra ca : Nat} {z : Nat → Int} (h4 : u4 ra ca z) : ∀ k S, pth ra ca z k S < 5 ^ k
  | 0, _ => Nat.one_pos
  | k + 1, S => by
    unfold pth
    rw [Nat.pow_succ]
    split
    · rename_i h
      have h1 := kcol_4 h4 h
      have h2 := pth_lt h4 k (cb S (kcol ra ca z (3 - k) S))
      have h3 := Nat.mul_le_mul_right (5 ^ k) (show kcol ra ca z (3 - k) S ≤ 3 by omega)
      omega
    · have h2 := pth_lt h4 k S
      omega
/-- the solver's path is the first one of the least score -/
theorem pth_ok {ra ca : Nat} {z : Nat → Int} (h4 : u4 ra ca z) : ∀ k, k ≤ 4 → ∀ S n, (n % 5 ^ k = pth ra ca z k S → vl ra ca z n k S = true ∧ vs z n k = Ls ra ca z (6 + k) S) ∧ (vl ra ca z n k S = true → Ls ra ca z (6 + k) S ≤ vs z n k ∧ (n % 5 ^ k < pth ra ca z k S → Ls ra ca z (6 + k) S < vs z n k)) := by
  intro k
  induction k with
  | zero =>
    intro _ S n
    refine ⟨fun _ => ⟨rfl, (Ls_6 h4 6 (by decide) S).symm⟩, fun _ => ⟨by rw [Ls_6 h4 6 (by decide) S]; exact Int.le_refl _, fun h => absurd h (Nat.not_lt_zero _)⟩⟩
  | succ k ih =>
    intro hk S n
    have hk3 : k ≤ 3 := by omega
    have eL := Ls_k (ra := ra) (ca := ca) (z := z) hk3 S
    have e0 : Ls ra ca z (6 + (k + 1)) S ≤ Ls ra ca z (6 + k) S := by rw [eL]; exact rmf_le0 10
    have ec : ∀ c, (us ra ca z (3 - k) &&& S).testBit c = true → Ls ra ca z (6 + (k + 1)) S ≤ sc z (3 - k) c + Ls ra ca z (6 + k) (cb S c) := fun c hc => by
      rw [eL]
      refine rmf_lec hc 10 ?_
      rw [Nat.testBit_and, Bool.and_eq_true] at hc
      have := (h4 _ _ hc.1).2
      omega
    have hm := dg_k hk3 n
    have hmB : n % 5 ^ k < 5 ^ k := Nat.mod_lt _ (Nat.pow_pos (by decide))
    have hd := dg_lt n (3 - k)
    -- where no column is the solver's, the row stays without one
    have hn : ¬ kcol ra ca z (3 - k) S < 10 → Ls ra ca z (6 + (k + 1)) S = Ls ra ca z (6 + k) S := fun q => by
      rcases rmf_att (m := us ra ca z (3 - k) &&& S) (S := S) (s := sc z (3 - k)) (nx := Ls ra ca z (6 + k)) 10 with h | ⟨c, h1, h2, h3⟩
      · rw [eL]; exact h
      · have := kcol_no (ra := ra) (ca := ca) (z := z) (r := 3 - k) (F := S) (c := c) (by omega)
        rw [(opt_k hk3).mpr ⟨h2, by rw [eL]; exact h3.symm⟩] at this
        cases this
    unfold pth vl vs
    by_cases hc : kcol ra ca z (3 - k) S < 10
    · rw [if_pos hc]
      generalize hcc : kcol ra ca z (3 - k) S = c at *
      have h4c : c < 4 := by rw [← hcc]; exact kcol_4 h4 (by rw [hcc]; exact hc)
      have ho : opt ra ca z (3 - k) c S = true := by
        have := kcol_opt (ra := ra) (ca := ca) (z := z) (r := 3 - k) (F := S) (by rw [hcc]; exact hc)
        rwa [hcc] at this
      have ho2 := (opt_k hk3).mp ho
      have hq := pth_lt h4 k (cb S c)
      refine ⟨fun h => ?_, fun h => ?_⟩
      · rw [hm] at h
        obtain ⟨h1, h2⟩ := dec_eq hmB hq h
        obtain ⟨h5, h6⟩ := (ih (by omega) (cb S c) n).1 h2
        rw [h1, if_neg (by omega), if_neg (by omega), h5, h6, ho2.1, ho2.2]
        exact ⟨rfl, rfl⟩
      · by_cases hd4 : dg n (3 - k) = 4
        · rw [if_pos hd4] at h
          rw [if_pos hd4]
          have h5 := (ih (by omega) S n).2 h
          refine ⟨by omega, fun q => ?_⟩
          rw [hm, hd4] at q
          rcases dec_lt hq q with g | g
          · omega
          · omega
        · rw [if_neg hd4, Bool.and_eq_true] at h
          rw [if_neg hd4]
          have h5 := (ih (by omega) (cb S (dg n (3 - k))) n).2 h.2
          have h6 := ec _ h.1
          refine ⟨by omega, fun q => ?_⟩
          rw [hm] at q
          rcases dec_lt hq q with g | ⟨g, g2⟩
          · have hno := kcol_no (ra := ra) (ca := ca) (z := z) (r := 3 - k) (F := S) (c := dg n (3 - k)) (by rw [hcc]; exact g)
            have hne : ¬ sc z (3 - k) (dg n (3 - k)) + Ls ra ca z (6 + k) (cb S (dg n (3 - k))) = Ls ra ca z (6 + (k + 1)) S := fun q9 => by
              rw [(opt_k hk3).mpr ⟨h.1, q9⟩] at hno
              cases hno
            omega
          · rw [g] at h5 ⊢
            have h7 := h5.2 g2
            have h8 := ho2.2
            omega
    · rw [if_neg hc]
      have hN := hn hc
      have hq := pth_lt h4 k S
      refine ⟨fun h => ?_, fun h => ?_⟩
      · rw [hm] at h
        obtain ⟨h1, h2⟩ := dec_eq hmB hq h
        obtain ⟨h5, h6⟩ := (ih (by omega) S n).1 h2
        rw [if_pos h1, if_pos h1, h5, h6, hN]
        exact ⟨rfl, by omega⟩
      · by_cases hd4 : dg n (3 - k) = 4
        · rw [if_pos hd4] at h
          rw [if_pos hd4]
          have h5 := (ih (by omega) S n).2 h
          refine ⟨by omega, fun q => ?_⟩
          rw [hm, hd4] at q
          rcases dec_lt hq q with g | ⟨g, g2⟩
          · omega
          · have := h5.2 g2
            omega
        · rw [if_neg hd4, Bool.and_eq_true] at h
          rw [if_neg hd4]
          have h5 := (ih (by omega) (cb S (dg n (3 - k))) n).2 h.2
          have h6 := ec _ h.1
          refine ⟨by omega, fun q => ?_⟩
          have hno := kcol_no (ra := ra) (ca := ca) (z := z) (r := 3 - k) (F := S) (c := dg n (3 - k)) (by omega)
          have hne : ¬ sc z (3 - k) (dg n (3 - k)) + Ls ra ca z (6 + k) (cb S (dg n (3 - k))) = Ls ra ca z (6 + (k + 1)) S := fun q9 => by
            rw [(opt_k hk3).mpr ⟨h.1, q9⟩] at hno
            cases hno
          omega
/-- the law's costs u and the table's usable pairs -/
def uok (ra ca : Nat) (z u : Nat → Int) : Prop := ∀ r c, r < 4 → c < 4 → ((us ra ca z r).testBit c = true ∧ u (4 * r + c) = z (10 * r + c) ∧ -4 ≤ z (10 * r + c) ∧ z (10 * r + c) ≤ 6) ∨ ((us ra ca z r).testBit c = false ∧ u (4 * r + c) = 99)
theorem vl_sz {ra ca : Nat} {z u : Nat → Int} (hu : uok ra ca z u) (n : Nat) : ∀ k, k ≤ 4 → ∀ (S t : Nat) (s a : Int), 0 ≤ s → (∀ r c, r < 4 → c < 4 → (us ra ca z r).testBit c = true → S.testBit c = !t.testBit c) → (vl ra ca z n k S = true → s ≤ szw u n k t s ∧ szw u n k t s ≤ s + k ∧ vs z n k = csw u n k a - a - 1000000 * (szw u n k t s - s) ∧ -4 * (k : Int) ≤ csw u n k a - a ∧ csw u n k a - a ≤ 6 * k) ∧ (vl ra ca z n k S = false → szw u n k t s = -1) := by
  intro k
  induction k with
  | zero =>
    intro _ S t s a h0 hS
    refine ⟨fun _ => ?_, fun h => by cases h⟩
    unfold szw csw vs
    omega
  | succ k ih =>
    intro hk S t s a h0 hS
    have hd := dg_lt n (3 - k)
    unfold vl szw csw vs
    by_cases hd4 : dg n (3 - k) = 4
    · rw [if_pos hd4, if_pos hd4, if_pos hd4, if_pos hd4, Int.add_zero]
      obtain ⟨h1, h2⟩ := ih (by omega) S t s a h0 hS
      refine ⟨fun h => ?_, h2⟩
      have := h1 h
      omega
    · rw [if_neg hd4, if_neg hd4, if_neg hd4, if_neg hd4]
      generalize dg n (3 - k) = c at *
      have hc : c < 4 := by omega
      have hS2 : ∀ r c9, r < 4 → c9 < 4 → (us ra ca z r).testBit c9 = true → (cb S c).testBit c9 = !(sb t c).testBit c9 := fun r c9 h1 h2 h3 => by
        rw [cb_bit, sb_bit, hS r c9 h1 h2 h3]
        cases t.testBit c9 <;> cases decide (c9 = c) <;> rfl
      obtain ⟨h1, h2⟩ := ih (by omega) (cb S c) (sb t c) (s + 1) (a + u (4 * (3 - k) + c)) (by omega) hS2
      rw [Nat.testBit_and]
      rcases hu (3 - k) c (by omega) hc with ⟨g1, g2, g3, g4⟩ | ⟨g1, g2⟩
      · rw [g1, Bool.true_and, hS (3 - k) c (by omega) hc g1]
        by_cases ht : t.testBit c = true
        · rw [ht, if_pos (Or.inl rfl)]
          exact ⟨fun h => (by cases h), fun _ => rfl⟩
        · have ht2 : t.testBit c = false := by simpa using ht
          rw [ht2, if_neg (by intro q; rcases q with q | q; cases q; omega)]
          refine ⟨fun h => ?_, fun h => h2 (by simpa using h)⟩
          have h3 := h1 (by simpa using h)
          unfold sc
          omega
      · rw [g1, if_pos (Or.inr g2)]
        exact ⟨fun h => (by cases h), fun _ => rfl⟩
theorem gsf_eq {u : Nat → Int} {g : Int} {p : Nat} (hg : 0 ≤ g) (hp : szN u p = g) (N : Nat) (hpN : p < N) (h : ∀ n, n < N → szN u n ≤ g) : gsf u N = g := by
  have h1 : ∀ n, n ≤ N → gsf u n ≤ g ∧ (p < n → gsf u n = g) := by
    intro n
    induction n with
    | zero => exact fun _ => ⟨hg, fun q => absurd q (Nat.not_lt_zero p)⟩
    | succ n ih =>
      intro hn
      obtain ⟨i1, i2⟩ := ih (by omega)
      have h2 := h n (by omega)
      unfold gsf
      refine ⟨by omega, fun q => ?_⟩
      by_cases e : p = n
      · subst e
        omega
      · have := i2 (by omega)
        omega
  exact (h1 N (Nat.le_refl N)).2 hpN
theorem bsf_eq {u : Nat → Int} {g : Int} {p : Nat} (hp : szN u p = g) (N : Nat) (hpN : p < N) (h1 : ∀ n, n < N → szN u n = g → csN u p ≤ csN u n) (h2 : ∀ n, n < p → szN u n = g → csN u p < csN u n) : bsf u g N = p := by
  have h3 : ∀ n, n ≤ p → bsf u g n = -1 ∨ ∃ q : Nat, bsf u g n = q ∧ q < p ∧ szN u q = g := by
    intro n
    induction n with
    | zero => exact fun _ => Or.inl rfl
    | succ n ih =>
      intro hn
      have i1 := ih (by omega)
      unfold bsf
      split
      · rename_i q
        exact Or.inr ⟨n, rfl, by omega, q.1⟩
      · exact i1
  have h4 : bsf u g (p + 1) = p := by
    unfold bsf
    rw [if_pos]
    refine ⟨hp, ?_⟩
    rcases h3 p (Nat.le_refl p) with e | ⟨q, e, hq, hs⟩
    · exact Or.inl (by omega)
    · refine Or.inr ?_
      rw [e, Int.toNat_natCast]
      exact h2 q hq hs
  have h5 : ∀ d, p + 1 + d ≤ N → bsf u g (p + 1 + d) = p := by
    intro d
    induction d with
    | zero => exact fun _ => h4
    | succ d ih =>
      intro hd
      have i1 := ih (by omega)
      rw [show p + 1 + (d + 1) = p + 1 + d + 1 by omega]
      unfold bsf
      rw [i1, if_neg]
      rintro ⟨q1, q2⟩
      have := h1 (p + 1 + d) (by omega) q1
      rw [Int.toNat_natCast] at q2
      omega
  have := h5 (N - (p + 1)) (by omega)
  rwa [show p + 1 + (N - (p + 1)) = N by omega] at this
/-- the solver's path, row by row -/
theorem pth_st {ra ca : Nat} {z : Nat → Int} (h4 : u4 ra ca z) {p k S : Nat} (hk : k ≤ 3) (h : p % 5 ^ (k + 1) = pth ra ca z (k + 1) S) : p % 5 ^ k = pth ra ca z k (if kcol ra ca z (3 - k) S < 10 then cb S (kcol ra ca z (3 - k) S) else S) ∧ dg p (3 - k) = if kcol ra ca z (3 - k) S < 10 then kcol ra ca z (3 - k) S else 4 := by
  have hmB : p % 5 ^ k < 5 ^ k := Nat.mod_lt _ (Nat.pow_pos (by decide))
  rw [dg_k hk] at h
  unfold pth at h
  by_cases hc : kcol ra ca z (3 - k) S < 10
  · rw [if_pos hc] at h ⊢
    rw [if_pos hc]
    obtain ⟨h1, h2⟩ := dec_eq hmB (pth_lt h4 k _) h
    exact ⟨h2, h1⟩
  · rw [if_neg hc] at h ⊢
    rw [if_neg hc]
    obtain ⟨h1, h2⟩ := dec_eq hmB (pth_lt h4 k _) h
    exact ⟨h2, h1⟩
theorem pth_dg {ra ca : Nat} {z : Nat → Int} (h4 : u4 ra ca z) {p : Nat} (hp : p % 5 ^ 4 = pth ra ca z 4 ca) : ∀ i, i < 4 → dg p i = if kcol ra ca z i (kfree ra ca z i) < 10 then kcol ra ca z i (kfree ra ca z i) else 4 := by
  have g0 := pth_st h4 (k := 3) (by decide) hp
  have g1 := pth_st h4 (k := 2) (by decide) g0.1
  have g2 := pth_st h4 (k := 1) (by decide) g1.1
  have g3 := pth_st h4 (k := 0) (by decide) g2.1
  intro i hi
  rcases (show i = 0 ∨ i = 1 ∨ i = 2 ∨ i = 3 by omega) with rfl | rfl | rfl | rfl
  · exact g0.2
  · exact g1.2
  · exact g2.2
  · exact g3.2
theorem cI_dg {ra ca : Nat} {z : Nat → Int} (h4 : u4 ra ca z) {p i : Nat} (h : dg p i = if kcol ra ca z i (kfree ra ca z i) < 10 then kcol ra ca z i (kfree ra ca z i) else 4) : cI (kcol ra ca z i (kfree ra ca z i)) = if dg p i = 4 then -1 else nI (dg p i) := by
  unfold cI
  by_cases hc : kcol ra ca z i (kfree ra ca z i) < 10
  · rw [if_pos hc] at h ⊢
    have := kcol_4 h4 hc
    rw [h, if_neg (by omega)]
  · rw [if_neg hc] at h ⊢
    rw [if_pos h]
/-- WHAT THE LAW SEARCHES IS WHAT THE SOLVER FINDS -/
theorem best_ok {ra ca : Nat} {z u : Nat → Int} (h4 : u4 ra ca z) (hca : ca < 16) (hu : uok ra ca z u) : ∃ p : Nat, p < 625 ∧ gsf u 625 = szN u p ∧ bsf u (szN u p) 625 = p ∧ szN u p = szf (Ls ra ca z 10 ca) ∧ csN u p = csf (Ls ra ca z 10 ca) ∧ ∀ i, i < 4 → cI (kcol ra ca z i (kfree ra ca z i)) = if dg p i = 4 then -1 else nI (dg p i) := by
  have hlt := pth_lt h4 4 ca
  have hS : ∀ r c, r < 4 → c < 4 → (us ra ca z r).testBit c = true → ca.testBit c = !(0 : Nat).testBit c := fun r c _ hc h => by
    rw [us_bit (by omega)] at h
    simp at h
    simp [h.2.1]
  have hv : ∀ n, vl ra ca z n 4 ca = true → 0 ≤ szN u n ∧ szN u n ≤ 4 ∧ vs z n 4 = csN u n - 1000000 * szN u n ∧ -16 ≤ csN u n ∧ csN u n ≤ 24 := fun n h => by
    have h1 := (vl_sz hu n 4 (by decide) ca 0 0 0 (by decide) hS).1 h
    unfold szN csN
    omega
  have hf : ∀ n, vl ra ca z n 4 ca = false → szN u n = -1 := fun n h => (vl_sz hu n 4 (by decide) ca 0 0 0 (by decide) hS).2 h
  have hok := fun n => pth_ok h4 4 (Nat.le_refl 4) ca n
  have e625 : 5 ^ 4 = 625 := by decide
  rw [e625] at hlt
  have hm : ∀ n, n < 625 → n % 5 ^ 4 = n := fun n hn => Nat.mod_eq_of_lt (by rw [e625]; exact hn)
  generalize hp : pth ra ca z 4 ca = p at *
  obtain ⟨hp1, hp2⟩ := (hok p).1 (hm p hlt)
  have hp3 : vs z p 4 = Ls ra ca z 10 ca := hp2
  have hpv := hv p hp1
  have hall : ∀ n, n < 625 → szN u n ≤ szN u p ∧ (szN u n = szN u p → csN u p ≤ csN u n ∧ (n < p → csN u p < csN u n)) := fun n hn => by
    cases hvn : vl ra ca z n 4 ca
    · have := hf n hvn
      exact ⟨by omega, fun q => by omega⟩
    · have h1 := hv n hvn
      have h2 := (hok n).2 hvn
      rw [hm n hn] at h2
      refine ⟨by omega, fun q => ⟨by omega, fun q2 => ?_⟩⟩
      have := h2.2 q2
      omega
  refine ⟨p, hlt, gsf_eq hpv.1 rfl 625 hlt (fun n hn => (hall n hn).1), bsf_eq rfl 625 hlt (fun n hn q => ((hall n hn).2 q).1) (fun n hn q => ((hall n (by omega)).2 q).2 hn), ?_, ?_, fun i hi => cI_dg h4 (pth_dg h4 ((hm p hlt).trans hp.symm) i hi)⟩
  · have e : szf (Ls ra ca z 10 ca) = szN u p := by
      unfold szf
      rw [Int.tdiv_eq_ediv_of_nonneg (by omega)]
      omega
    exact e.symm
  · have e : szf (Ls ra ca z 10 ca) = szN u p := by
      unfold szf
      rw [Int.tdiv_eq_ediv_of_nonneg (by omega)]
      omega
    unfold csf
    rw [e]
    omega
