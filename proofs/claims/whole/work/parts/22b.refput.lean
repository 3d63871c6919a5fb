def oSi (o : OP) : Int := match o with
  | none => -100
  | some p => szf p.1
def oCi (o : OP) : Int := match o with
  | none => 0
  | some p => csf p.1
theorem oS_i (o : OP) : oS o = i32 (oSi o) := by
  cases o
  · decide
  · rfl
theorem oC_i (o : OP) : oC o = i32 (oCi o) := by
  cases o
  · decide
  · rfl
theorem oSi_bd {k : Nat} {o : OP} (h : okO k o) (hk : k ≤ 10) : -100 ≤ oSi o ∧ oSi o ≤ 10 ∧ -200000 ≤ oCi o ∧ oCi o ≤ 200000 := by
  cases o with
  | none => exact ⟨by show (-100 : Int) ≤ -100; omega, by show (-100 : Int) ≤ 10; omega, by show (-200000 : Int) ≤ 0; omega, by show (0 : Int) ≤ 200000; omega⟩
  | some p =>
    obtain ⟨s, c, h1, h2, h3, h4, h5, h6, h7⟩ := kv_s (h p rfl) hk
    show -100 ≤ szf p.1 ∧ szf p.1 ≤ 10 ∧ -200000 ≤ csf p.1 ∧ csf p.1 ≤ 200000
    rw [h2, h3]
    omega
theorem oSi_ge {k : Nat} {o : OP} (h : okO k o) (hk : k ≤ 10) (h0 : 0 ≤ oSi o) : ∃ p, o = some p := by
  cases o with
  | none => exact absurd h0 (by show ¬ (0 : Int) ≤ -100; omega)
  | some p => exact ⟨p, rfl⟩
theorem oSi_lt {k : Nat} {o : OP} (h : okO k o) (hk : k ≤ 10) (h0 : ¬ 0 ≤ oSi o) : o = none := by
  cases o with
  | none => rfl
  | some p =>
    obtain ⟨s, c, h1, h2, h3, h4, h5, h6, h7⟩ := kv_s (h p rfl) hk
    exact absurd (show 0 ≤ szf p.1 by rw [h2]; exact h4) h0
/-- a new score against the row's -/
theorem addO_lt {k : Nat} {o : OP} {v : Int} {w : Int32} (h : okO k o) (hv : kv k v) (hk : k ≤ 10) (hb : oSi o < szf v ∨ (szf v = oSi o ∧ csf v < oCi o)) : addO o v w = some (v, w) := by
  cases o with
  | none => rfl
  | some p =>
    obtain ⟨s, c, h1, h2, h3, h4, h5, h6, h7⟩ := kv_s (h p rfl) hk
    obtain ⟨s', c', g1, g2, g3, g4, g5, g6, g7⟩ := kv_s hv hk
    have hb : szf p.1 < szf v ∨ (szf v = szf p.1 ∧ csf v < csf p.1) := hb
    rw [h2, h3, g2, g3] at hb
    unfold addO
    dsimp only
    rw [if_pos (by omega)]
theorem addO_eq {k : Nat} {o : OP} {v : Int} {w : Int32} (h : okO k o) (hv : kv k v) (hk : k ≤ 10) (h1 : szf v = oSi o) (h2 : csf v = oCi o) : oS (addO o v w) = oS o ∧ oC (addO o v w) = oC o ∧ oW (addO o v w) = oW o + w := by
  cases o with
  | none =>
    obtain ⟨s', c', g1, g2, g3, g4, g5, g6, g7⟩ := kv_s hv hk
    have h1 : szf v = -100 := h1
    omega
  | some p =>
    obtain ⟨s, c, e1, e2, e3, e4, e5, e6, e7⟩ := kv_s (h p rfl) hk
    obtain ⟨s', c', g1, g2, g3, g4, g5, g6, g7⟩ := kv_s hv hk
    have h1 : szf v = szf p.1 := h1
    have h2 : csf v = csf p.1 := h2
    unfold addO
    dsimp only
    rw [if_neg (by omega), if_pos (by omega)]
    exact ⟨rfl, rfl, rfl⟩
theorem addO_gt {k : Nat} {o : OP} {v : Int} {w : Int32} (h : okO k o) (hv : kv k v) (hk : k ≤ 10) (hb : ¬ (oSi o < szf v ∨ (szf v = oSi o ∧ csf v < oCi o))) (h2 : ¬ (szf v = oSi o ∧ csf v = oCi o)) : addO o v w = o := by
  cases o with
  | none =>
    obtain ⟨s', c', g1, g2, g3, g4, g5, g6, g7⟩ := kv_s hv hk
    exact absurd (Or.inl (show (-100 : Int) < szf v by omega)) hb
  | some p =>
    obtain ⟨s, c, e1, e2, e3, e4, e5, e6, e7⟩ := kv_s (h p rfl) hk
    obtain ⟨s', c', g1, g2, g3, g4, g5, g6, g7⟩ := kv_s hv hk
    have hb : ¬ (szf p.1 < szf v ∨ (szf v = szf p.1 ∧ csf v < csf p.1)) := hb
    have h2 : ¬ (szf v = szf p.1 ∧ csf v = csf p.1) := h2
    rw [e2, e3, g2, g3] at hb h2
    unfold addO
    dsimp only
    rw [if_neg (by omega), if_neg (by omega)]
def PF (X Y : St) (i : Nat) (o : OP) : Prop := Fr (fun k => 48 ≤ k ∧ k ≤ 50) X Y ∧ (∀ j, j ≠ i → Zv Y 48 j = Zv X 48 j ∧ Zv Y 49 j = Zv X 49 j ∧ Zv Y 50 j = Zv X 50 j) ∧ OHold Y i o
