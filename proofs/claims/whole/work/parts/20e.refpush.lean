theorem cpy_st {f F D : Nat → Int32} {b c : Nat} (h : ∀ k, f k = if b ≤ k ∧ k < b + c then F (k - b) else D k) : ∀ k, upd f (b + c) (F c) k = if b ≤ k ∧ k < b + (c + 1) then F (k - b) else D k := fun k => by
  unfold upd
  by_cases e : k = b + c
  · rw [if_pos e, if_pos ⟨by omega, by omega⟩, e, show b + c - b = c by omega]
  · rw [if_neg e, h k]
    by_cases e2 : b ≤ k ∧ k < b + c
    · rw [if_pos e2, if_pos ⟨e2.1, by omega⟩]
    · rw [if_neg e2, if_neg (fun q => e2 ⟨q.1, by omega⟩)]
theorem cpy_0 {F D : Nat → Int32} {b : Nat} : ∀ k, D k = if b ≤ k ∧ k < b + 0 then F (k - b) else D k := fun k => by rw [if_neg (by omega)]
theorem MInv.push {X Y : St} {A : DA} (h : MInv X A) (hn : A.lv.length < 8) (hF : Fr (fun k => k = 37 ∨ (42 ≤ k ∧ k ≤ 47)) X Y) (m1 : Zm Y 37 1 = Zm X 37 1) (m2 : Zm Y 37 2 = Zm X 37 2) (m7 : Zm Y 37 7 = nI (A.lv.length + 1)) (m19 : Zm Y 37 19 = Zm X 37 19) (h42 : Zv Y 42 = upd (Zv X 42) A.lv.length (nI A.R)) (h43 : Zv Y 43 = upd (Zv X 43) A.lv.length (nI A.C)) (h44 : ∀ k, Zv Y 44 k = if 10 * A.lv.length ≤ k ∧ k < 10 * A.lv.length + 10 then Zv X 38 (k - 10 * A.lv.length) else Zv X 44 k) (h45 : ∀ k, Zv Y 45 k = if 10 * A.lv.length ≤ k ∧ k < 10 * A.lv.length + 10 then Zv X 39 (k - 10 * A.lv.length) else Zv X 45 k) (h46 : ∀ k, Zv Y 46 k = if 100 * A.lv.length ≤ k ∧ k < 100 * A.lv.length + 100 then Zv X 40 (k - 100 * A.lv.length) else Zv X 46 k) (h47 : ∀ k, Zv Y 47 k = if 100 * A.lv.length ≤ k ∧ k < 100 * A.lv.length + 100 then Zv X 41 (k - 100 * A.lv.length) else Zv X 47 k) : MInv Y (A.lvl (A.lv ++ [(A.ra, A.ca, A.z)])) := by
  have hlen : (A.lv ++ [(A.ra, A.ca, A.z)]).length = A.lv.length + 1 := by rw [List.length_append]; rfl
  refine ⟨⟨m1.trans h.b.1, m2.trans h.b.2.1, by rw [(hF 38 (by omega)).2.1]; exact h.b.2.2.1, by rw [(hF 39 (by omega)).2.1]; exact h.b.2.2.2.1, by rw [(hF 40 (by omega)).2.1]; exact h.b.2.2.2.2.1, by rw [(hF 41 (by omega)).2.1]; exact h.b.2.2.2.2.2⟩, ?_, ?_, ⟨m19.trans h.r.1, h.r.2.1, by rw [(hF 53 (by omega)).2.1, (hF 54 (by omega)).2.1]; exact h.r.2.2⟩, h.ok.lvl (by omega) ?_⟩
  · show Zm Y 37 7 = nI (A.lv ++ [(A.ra, A.ca, A.z)]).length
    rw [m7, hlen]
  · intro i x hx
    have hx : (A.lv ++ [(A.ra, A.ca, A.z)])[i]? = some x := hx
    rcases Nat.lt_trichotomy i A.lv.length with g | g | g
    · rw [List.getElem?_append_left g] at hx
      obtain ⟨R, C, b1, b2, b3, b4, b5, b6, b7, b8, b9, b10⟩ := h.l i x hx
      refine ⟨R, C, ?_, ?_, b3, b4, b5, b6, fun k hk => ?_, fun k hk => ?_, fun k hk => ?_, fun k hk ha => ?_⟩
      · rw [h42]; unfold upd; rw [if_neg (by omega)]; exact b1
      · rw [h43]; unfold upd; rw [if_neg (by omega)]; exact b2
      · rw [h44, if_neg (by omega)]; exact b7 k hk
      · rw [h45, if_neg (by omega)]; exact b8 k hk
      · rw [h46, if_neg (by omega)]; exact b9 k hk
      · rw [h47, if_neg (by omega)]; exact b10 k hk ha
    · subst g
      rw [List.getElem?_append_right (Nat.le_refl _), Nat.sub_self, List.getElem?_cons_zero] at hx
      cases hx
      refine ⟨A.R, A.C, ?_, ?_, h.ok.R, h.ok.C, h.ok.t.1, h.ok.t.2.1, fun k hk => ?_, fun k hk => ?_, fun k hk => ?_, fun k hk ha => ?_⟩
      · rw [h42]; unfold upd; rw [if_pos rfl]
      · rw [h43]; unfold upd; rw [if_pos rfl]
      · rw [h44, if_pos ⟨by omega, by omega⟩, show 10 * A.lv.length + k - 10 * A.lv.length = k by omega]; exact h.b.2.2.1 k hk
      · rw [h45, if_pos ⟨by omega, by omega⟩, show 10 * A.lv.length + k - 10 * A.lv.length = k by omega]; exact h.b.2.2.2.1 k hk
      · rw [h46, if_pos ⟨by omega, by omega⟩, show 100 * A.lv.length + k - 100 * A.lv.length = k by omega]; exact h.b.2.2.2.2.1 k hk
      · rw [h47, if_pos ⟨by omega, by omega⟩, show 100 * A.lv.length + k - 100 * A.lv.length = k by omega]; exact h.b.2.2.2.2.2 k hk ha
    · rw [List.getElem?_eq_none (by omega)] at hx
      cases hx
  · intro i x hx
    rcases Nat.lt_or_ge i A.lv.length with g | g
    · rw [List.getElem?_append_left g] at hx
      exact h.ok.l i x hx
    · rw [List.getElem?_append_right g] at hx
      have hx := List.mem_singleton.mp (List.mem_of_getElem? hx)
      rw [hx]
      exact h.ok.t
