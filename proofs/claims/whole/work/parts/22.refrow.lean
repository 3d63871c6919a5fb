/-! ===== the reference's tables ===== -/
abbrev OP : Type := Option (Int × Int32)
def oS (o : OP) : Int32 := match o with
  | none => -100
  | some p => i32 (szf p.1)
def oC (o : OP) : Int32 := match o with
  | none => 0
  | some p => i32 (csf p.1)
def oW (o : OP) : Int32 := match o with
  | none => 0
  | some p => p.2
def addO (o : OP) (v : Int) (w : Int32) : OP := match o with
  | none => some (v, w)
  | some p => if v < p.1 then some (v, w) else if v = p.1 then some (p.1, p.2 + w) else o
/-- the first n choices of mask m, next rows by nx; choice 10 is none -/
def rowF (m : Nat) (s : Nat → Int) (nx : Nat → OP) (T : Nat) : Nat → OP
  | 0 => none
  | c + 1 => if m.testBit c = true ∧ (c = 10 ∨ T.testBit c = false) then
      match nx (if c = 10 then T else sb T c) with
      | none => rowF m s nx T c
      | some p => addO (rowF m s nx T c) ((if c = 10 then 0 else s c) + p.1) p.2
    else rowF m s nx T c
def OHold (X : St) (i : Nat) (o : OP) : Prop := Zv X 48 i = oS o ∧ Zv X 49 i = oC o ∧ Zv X 50 i = oW o
/-- a score of at most k pairs -/
def kv (k : Nat) (v : Int) : Prop := ∃ s c : Int, v = c - 1000000 * s ∧ 0 ≤ s ∧ s ≤ k ∧ -20000 * (k : Int) ≤ c ∧ c ≤ 20000 * (k : Int)
theorem kv_s {k : Nat} {v : Int} (h : kv k v) (hk : k ≤ 10) : ∃ s c : Int, v = c - 1000000 * s ∧ szf v = s ∧ csf v = c ∧ 0 ≤ s ∧ s ≤ k ∧ -20000 * (k : Int) ≤ c ∧ c ≤ 20000 * (k : Int) := by
  obtain ⟨s, c, h1, h2, h3, h4, h5⟩ := h
  have e : szf v = s := by
    unfold szf
    rw [Int.tdiv_eq_ediv_of_nonneg (by omega)]
    omega
  exact ⟨s, c, h1, e, by unfold csf; rw [e]; omega, h2, h3, h4, h5⟩
theorem kv_up {k : Nat} {v : Int} (h : kv k v) : kv (k + 1) v := by
  obtain ⟨s, c, h1, h2, h3, h4, h5⟩ := h
  exact ⟨s, c, h1, h2, by omega, by omega, by omega⟩
theorem kv_add {k : Nat} {v x : Int} (h : kv k v) (hx : -10000 ≤ x ∧ x ≤ 20000) : kv (k + 1) (x - 1000000 + v) := by
  obtain ⟨s, c, h1, h2, h3, h4, h5⟩ := h
  exact ⟨s + 1, c + x, by omega, by omega, by omega, by omega, by omega⟩
theorem kv_0 (k : Nat) : kv k 0 := ⟨0, 0, by omega, by omega, by omega, by omega, by omega⟩
def okO (k : Nat) (o : OP) : Prop := ∀ p, o = some p → kv k p.1
theorem okO_add {k : Nat} {o : OP} {v : Int} {w : Int32} (h : okO k o) (hv : kv k v) : okO k (addO o v w) := by
  intro p hp
  unfold addO at hp
  cases o with
  | none => cases hp; exact hv
  | some q =>
    dsimp only at hp
    split at hp
    · cases hp; exact hv
    · split at hp
      · cases hp; exact h q rfl
      · exact h p hp
theorem okO_row {m : Nat} {s : Nat → Int} {nx : Nat → OP} {T k : Nat} (hs : ∀ c, c < 10 → m.testBit c = true → ∃ x, s c = x - 1000000 ∧ -10000 ≤ x ∧ x ≤ 20000) (hn : ∀ U, okO k (nx U)) : ∀ n, n ≤ 11 → okO (k + 1) (rowF m s nx T n)
  | 0, _ => fun p hp => by cases hp
  | n + 1, hn1 => by
    have ih := okO_row hs hn n (by omega) (T := T)
    unfold rowF
    split
    · rename_i hq
      split
      · exact ih
      · rename_i p hp
        refine okO_add ih ?_
        have h1 := hn _ p hp
        by_cases e : n = 10
        · rw [if_pos e, Int.zero_add]; exact kv_up h1
        · rw [if_neg e]
          obtain ⟨x, hx, hx2⟩ := hs n (by omega) hq.1
          rw [hx]
          exact kv_add h1 hx2
    · exact ih
