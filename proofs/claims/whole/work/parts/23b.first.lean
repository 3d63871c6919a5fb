/-! ===== the first of the best, by the reference's tables ===== -/
abbrev alb (m T c : Nat) : Prop := m.testBit c = true ∧ (c = 10 ∨ T.testBit c = false)
abbrev vof (s : Nat → Int) (c : Nat) : Int := if c = 10 then 0 else s c
abbrev tof (T c : Nat) : Nat := if c = 10 then T else sb T c
theorem addO_ex (o : OP) (v : Int) (w : Int32) : ∃ p, addO o v w = some p ∧ p.1 ≤ v ∧ (∀ q, o = some q → p.1 ≤ q.1) ∧ (p.1 = v ∨ ∃ q, o = some q ∧ p.1 = q.1) := by
  unfold addO
  cases o with
  | none => exact ⟨_, rfl, Int.le_refl _, fun q h => (by cases h), Or.inl rfl⟩
  | some p =>
    dsimp only
    split
    · rename_i h
      exact ⟨_, rfl, Int.le_refl _, fun q e => (by cases e; exact Int.le_of_lt h), Or.inl rfl⟩
    · rename_i h
      split
      · rename_i h2
        exact ⟨_, rfl, (by rw [h2]; exact Int.le_refl _), fun q e => (by cases e; exact Int.le_refl _), Or.inl h2.symm⟩
      · exact ⟨_, rfl, Int.not_lt.mp h, fun q e => (by cases e; exact Int.le_refl _), Or.inr ⟨_, rfl, rfl⟩⟩
theorem rowF_s {m : Nat} {s : Nat → Int} {nx : Nat → OP} {T c : Nat} (ha : alb m T c) {q : Int × Int32} (hq : nx (tof T c) = some q) : rowF m s nx T (c + 1) = addO (rowF m s nx T c) (vof s c + q.1) q.2 := by
  rw [rowF, if_pos ha, hq]
theorem rowF_n {m : Nat} {s : Nat → Int} {nx : Nat → OP} {T c : Nat} (h : alb m T c → nx (tof T c) = none) : rowF m s nx T (c + 1) = rowF m s nx T c := by
  rw [rowF]
  by_cases ha : alb m T c
  · rw [if_pos ha, h ha]
  · rw [if_neg ha]
/-- the row's score is reached by a choice -/
theorem rowF_at {m : Nat} {s : Nat → Int} {nx : Nat → OP} {T : Nat} : ∀ n (p : Int × Int32), rowF m s nx T n = some p → ∃ c, c < n ∧ alb m T c ∧ ∃ q, nx (tof T c) = some q ∧ vof s c + q.1 = p.1
  | 0, p, h => by cases h
  | n + 1, p, h => by
    have ih := rowF_at (m := m) (s := s) (nx := nx) (T := T) n
    by_cases ha : alb m T n ∧ ∃ q, nx (tof T n) = some q
    · obtain ⟨ha, q, hq⟩ := ha
      rw [rowF_s ha hq] at h
      obtain ⟨p', h1, _, _, h4⟩ := addO_ex (rowF m s nx T n) (vof s n + q.1) q.2
      rw [h1] at h
      cases h
      rcases h4 with h4 | ⟨q', h5, h6⟩
      · exact ⟨n, Nat.lt_succ_self n, ha, q, hq, h4.symm⟩
      · obtain ⟨c, h7, h8, q2, h9, h10⟩ := ih q' h5
        exact ⟨c, Nat.lt_succ_of_lt h7, h8, q2, h9, h10.trans h6.symm⟩
    · rw [rowF_n (fun hb => by
        cases hn : nx (tof T n) with
        | none => rfl
        | some q => exact absurd ⟨hb, q, hn⟩ ha)] at h
      obtain ⟨c, h7, h8⟩ := ih p h
      exact ⟨c, Nat.lt_succ_of_lt h7, h8⟩
/-- no choice is below the row's score -/
theorem rowF_le {m : Nat} {s : Nat → Int} {nx : Nat → OP} {T : Nat} : ∀ n c (q : Int × Int32), c < n → alb m T c → nx (tof T c) = some q → ∃ p, rowF m s nx T n = some p ∧ p.1 ≤ vof s c + q.1
  | 0, c, q, h, _, _ => absurd h (Nat.not_lt_zero c)
  | n + 1, c, q, h, ha, hq => by
    by_cases e : c = n
    · subst e
      rw [rowF_s ha hq]
      obtain ⟨p', h1, h2, _⟩ := addO_ex (rowF m s nx T c) (vof s c + q.1) q.2
      exact ⟨p', h1, h2⟩
    · obtain ⟨p, h1, h2⟩ := rowF_le n c q (by omega) ha hq
      by_cases hb : alb m T n ∧ ∃ q, nx (tof T n) = some q
      · obtain ⟨hb, q2, hq2⟩ := hb
        rw [rowF_s hb hq2]
        obtain ⟨p', h3, _, h4, _⟩ := addO_ex (rowF m s nx T n) (vof s n + q2.1) q2.2
        exact ⟨p', h3, Int.le_trans (h4 p h1) h2⟩
      · rw [rowF_n (fun hb2 => by
          cases hn : nx (tof T n) with
          | none => rfl
          | some q => exact absurd ⟨hb2, q, hn⟩ hb)]
        exact ⟨p, h1, h2⟩
/-- a choice that reaches the score -/
def oeq (q : OP) (v : Int) (o : OP) : Bool := match q, o with
  | some q, some p => decide (v + q.1 = p.1)
  | _, _ => false
def gopt (ch : Nat → Nat) (s : Nat → Nat → Int) (R r T c : Nat) : Bool := (ch r).testBit c && ((decide (c = 10) || !T.testBit c) && oeq (gT ch s R (R - (r + 1)) (tof T c)) (vof (s r) c) (gT ch s R (R - r) T))
/-- the choice of row r in the first one of the best, T being taken; what is taken ahead of row r -/
def gcol (ch : Nat → Nat) (s : Nat → Nat → Int) (R r T : Nat) : Nat := ff (fun c => gopt ch s R r T c) 11
def gtk (ch : Nat → Nat) (s : Nat → Nat → Int) (R : Nat) : Nat → Nat
  | 0 => 0
  | r + 1 => tof (gtk ch s R r) (gcol ch s R r (gtk ch s R r))
theorem oeq_i {q : OP} {v : Int} {o : OP} : oeq q v o = true ↔ ∃ a b, q = some a ∧ o = some b ∧ v + a.1 = b.1 := by
  unfold oeq
  cases q with
  | none => exact ⟨fun h => (by cases h), fun ⟨a, b, h, _⟩ => (by cases h)⟩
  | some a =>
    cases o with
    | none => exact ⟨fun h => (by cases h), fun ⟨a, b, _, h, _⟩ => (by cases h)⟩
    | some b => exact ⟨fun h => ⟨a, b, rfl, rfl, of_decide_eq_true h⟩, fun ⟨a', b', h1, h2, h3⟩ => by cases h1; cases h2; exact decide_eq_true h3⟩
theorem gopt_i {ch : Nat → Nat} {s : Nat → Nat → Int} {R r T c : Nat} : gopt ch s R r T c = true ↔ alb (ch r) T c ∧ ∃ a b, gT ch s R (R - (r + 1)) (tof T c) = some a ∧ gT ch s R (R - r) T = some b ∧ vof (s r) c + a.1 = b.1 := by
  unfold gopt
  rw [Bool.and_eq_true, Bool.and_eq_true, oeq_i, Bool.or_eq_true, decide_eq_true_eq, Bool.not_eq_true']
  exact ⟨fun ⟨h1, h2, h3⟩ => ⟨⟨h1, h2⟩, h3⟩, fun ⟨⟨h1, h2⟩, h3⟩ => ⟨h1, h2, h3⟩⟩
theorem gT_row {ch : Nat → Nat} {s : Nat → Nat → Int} {R r : Nat} (hr : r < R) (T : Nat) : gT ch s R (R - r) T = rowF (ch r) (s r) (gT ch s R (R - (r + 1))) T 11 := by
  rw [show R - r = (R - (r + 1)) + 1 by omega, gT, show R - (R - (r + 1) + 1) = r by omega]
theorem gopt_ex {ch : Nat → Nat} {s : Nat → Nat → Int} {R r T : Nat} {p : Int × Int32} (hr : r < R) (h : gT ch s R (R - r) T = some p) : ∃ c, c < 11 ∧ gopt ch s R r T c = true := by
  have h' := h
  rw [gT_row hr] at h'
  obtain ⟨c, h1, h2, q, h3, h4⟩ := rowF_at 11 p h'
  exact ⟨c, h1, gopt_i.mpr ⟨h2, q, p, h3, h, h4⟩⟩
theorem ff_ex {p : Nat → Bool} {n c : Nat} (hc : c < n) (h : p c = true) : ff p n < n := by
  rcases Nat.lt_or_ge (ff p n) n with g | g
  · exact g
  · have := ff_no p n c (by omega)
    rw [h] at this
    cases this
theorem gcol_ok {ch : Nat → Nat} {s : Nat → Nat → Int} {R r T : Nat} {p : Int × Int32} (hr : r < R) (h : gT ch s R (R - r) T = some p) : gcol ch s R r T < 11 ∧ gopt ch s R r T (gcol ch s R r T) = true := by
  obtain ⟨c, h1, h2⟩ := gopt_ex hr h
  have h3 : gcol ch s R r T < 11 := ff_ex (p := fun c => gopt ch s R r T c) h1 h2
  exact ⟨h3, ff_yes (fun c => gopt ch s R r T c) 11 h3⟩
theorem gtk_ok {ch : Nat → Nat} {s : Nat → Nat → Int} {R : Nat} {p : Int × Int32} (h : gT ch s R R 0 = some p) : ∀ r, r ≤ R → ∃ q, gT ch s R (R - r) (gtk ch s R r) = some q
  | 0, _ => ⟨p, h⟩
  | r + 1, hr => by
    obtain ⟨q, hq⟩ := gtk_ok h r (by omega)
    obtain ⟨_, h2⟩ := gcol_ok (by omega) hq
    obtain ⟨_, a, b, h3, _⟩ := gopt_i.mp h2
    exact ⟨a, h3⟩
theorem gtk_lt {ch : Nat → Nat} {s : Nat → Nat → Int} {R C : Nat} {p : Int × Int32} (h : gT ch s R R 0 = some p) (hc : ∀ r c, r < R → c < 10 → (ch r).testBit c = true → c < C) : ∀ r, r ≤ R → gtk ch s R r < 2 ^ C
  | 0, _ => Nat.two_pow_pos C
  | r + 1, hr => by
    have ih := gtk_lt h hc r (by omega)
    obtain ⟨q, hq⟩ := gtk_ok h r (by omega)
    obtain ⟨h1, h2⟩ := gcol_ok (by omega) hq
    have h3 := (gopt_i.mp h2).1.1
    show tof (gtk ch s R r) (gcol ch s R r (gtk ch s R r)) < 2 ^ C
    by_cases e : gcol ch s R r (gtk ch s R r) = 10
    · rw [tof, if_pos e]; exact ih
    · rw [tof, if_neg e]
      exact sb_lt ih (hc r _ (by omega) (by omega) h3)
