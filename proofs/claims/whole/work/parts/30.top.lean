/-! ===== the first ones of a set of beginnings ===== -/
theorem befE_ii (x : BE) : befE x x = false := by
  unfold befE
  rw [← Bool.not_eq_true, bef_i]
  omega
theorem befE_tot {x y : BE} (h : x.2.1 ≠ y.2.1) : befE x y = true ∨ befE y x = true := by
  unfold befE
  rw [bef_i, bef_i]
  omega
theorem befE_ne {x y : BE} (h : befE x y = true) : x ≠ y := fun e => by
  rw [e, befE_ii] at h
  cases h
def PSt (L : List BE) : Prop := L.Pairwise (fun x y => befE x y = true)
/-- L is the first lim of those that V tells of -/
def TopL (lim : Nat) (V : BE → Prop) (L : List BE) : Prop := PSt L ∧ (∀ e, e ∈ L → V e) ∧ L.length ≤ lim ∧ ∀ e, V e → e ∉ L → L.length = lim ∧ ∀ x, x ∈ L → befE x e = true
theorem TopL_cong {lim : Nat} {V V' : BE → Prop} {L : List BE} (h : TopL lim V L) (hv : ∀ x, V x ↔ V' x) : TopL lim V' L := ⟨h.1, fun e he => (hv e).mp (h.2.1 e he), h.2.2.1, fun e he hn => h.2.2.2 e ((hv e).mpr he) hn⟩
theorem flen (p : BE → Bool) : ∀ M : List BE, (M.filter (fun x => !p x)).length + (M.filter p).length = M.length
  | [] => rfl
  | x :: M => by
    have ih := flen p M
    cases hp : p x
    · rw [List.filter_cons_of_pos (by simp [hp]), List.filter_cons_of_neg (by simp [hp]), List.length_cons, List.length_cons]
      omega
    · rw [List.filter_cons_of_neg (by simp [hp]), List.filter_cons_of_pos (by simp [hp]), List.length_cons, List.length_cons]
      omega
theorem TopL_off {lim : Nat} {W : BE → Prop} {M : List BE} {e : BE} (h : TopL lim W M) (hp : ∀ x, W x → x.2.1 ≠ e.2.1) : TopL lim (fun x => W x ∨ x = e) (offL lim M e) := by
  obtain ⟨h1, h2, h3, h4⟩ := h
  have hB : ∀ x, x ∈ M.filter (fun x => !befE e x) → x ∈ M ∧ befE x e = true := fun x hx => by
    obtain ⟨g1, g2⟩ := List.mem_filter.mp hx
    refine ⟨g1, (befE_tot (hp x (h2 x g1))).resolve_right (fun q => ?_)⟩
    rw [q] at g2
    cases g2
  have hD : ∀ x, x ∈ M.filter (fun x => befE e x) → x ∈ M ∧ befE e x = true := fun x hx => List.mem_filter.mp hx
  have hN : PSt (M.filter (fun x => !befE e x) ++ e :: M.filter (fun x => befE e x)) := by
    refine List.pairwise_append.mpr ⟨List.Pairwise.sublist List.filter_sublist h1, List.pairwise_cons.mpr ⟨fun y hy => (hD y hy).2, List.Pairwise.sublist List.filter_sublist h1⟩, fun x hx y hy => ?_⟩
    rcases List.mem_cons.mp hy with g | g
    · rw [g]; exact (hB x hx).2
    · exact befE_tr (hB x hx).2 (hD y g).2
  have hin : ∀ x, x ∈ M → x ∈ M.filter (fun x => !befE e x) ++ e :: M.filter (fun x => befE e x) := fun x hx => by
    cases g : befE e x
    · exact List.mem_append.mpr (Or.inl (List.mem_filter.mpr ⟨hx, by rw [g]; rfl⟩))
    · exact List.mem_append.mpr (Or.inr (List.mem_cons.mpr (Or.inr (List.mem_filter.mpr ⟨hx, g⟩))))
  have hlen : (M.filter (fun x => !befE e x) ++ e :: M.filter (fun x => befE e x)).length = M.length + 1 := by
    have := flen (fun x => befE e x) M
    rw [List.length_append, List.length_cons]
    omega
  refine ⟨List.Pairwise.sublist (List.take_sublist _ _) hN, fun x hx => ?_, len_off, fun x hx hn => ?_⟩
  · rcases mem_off hx with g | g
    · exact Or.inl (h2 x g)
    · exact Or.inr g
  · unfold offL at hn ⊢
    by_cases hxN : x ∈ M.filter (fun x => !befE e x) ++ e :: M.filter (fun x => befE e x)
    · have hcut := List.take_append_drop lim (M.filter (fun x => !befE e x) ++ e :: M.filter (fun x => befE e x))
      have hd : x ∈ (M.filter (fun x => !befE e x) ++ e :: M.filter (fun x => befE e x)).drop lim := by
        rw [← hcut] at hxN
        exact (List.mem_append.mp hxN).resolve_left hn
      have hl : lim < (M.filter (fun x => !befE e x) ++ e :: M.filter (fun x => befE e x)).length := by
        have := List.length_pos_of_mem hd
        rw [List.length_drop] at this
        omega
      refine ⟨by rw [List.length_take]; omega, fun y hy => ?_⟩
      unfold PSt at hN
      rw [← hcut] at hN
      exact (List.pairwise_append.mp hN).2.2 y hy x hd
    · have hW : W x := hx.resolve_right (fun q => hxN (List.mem_append.mpr (Or.inr (List.mem_cons.mpr (Or.inl q)))))
      obtain ⟨k1, k2⟩ := h4 x hW (fun q => hxN (hin x q))
      refine ⟨by rw [List.length_take, hlen]; omega, fun y hy => ?_⟩
      rcases List.mem_append.mp (List.mem_of_mem_take hy) with g | g
      · exact k2 y (hB y g).1
      · rcases List.mem_cons.mp g with g2 | g2
        · subst g2
          cases hDe : M.filter (fun x => befE y x) with
          | cons w t =>
            have hw := hD w (by rw [hDe]; exact List.mem_cons_self)
            exact befE_tr hw.2 (k2 w hw.1)
          | nil =>
            have hf := flen (fun x => befE y x) M
            rw [hDe, List.length_nil, Nat.add_zero, k1] at hf
            rw [hDe, List.take_append_of_le_length (by omega), List.take_of_length_le (by omega)] at hy
            exact absurd rfl (hp y (h2 y (hB y hy).1))
        · exact k2 y (hD y g2).1
theorem TopL_offF {lim : Nat} {fs : Int} {W : BE → Prop} {M : List BE} {e : BE} (h : TopL lim W M) (hp : szf e.1 = szf fs → ∀ x, W x → x.2.1 ≠ e.2.1) : TopL lim (fun x => W x ∨ (x = e ∧ szf e.1 = szf fs)) (offF lim fs M e) := by
  unfold offF
  split
  · rename_i g
    exact TopL_cong (TopL_off h (hp g)) (fun x => ⟨fun q => q.elim Or.inl (fun q => Or.inr ⟨q, g⟩), fun q => q.elim Or.inl (fun q => Or.inr q.1)⟩)
  · rename_i g
    exact TopL_cong h (fun x => ⟨Or.inl, fun q => q.elim id (fun q => absurd q.2 g)⟩)
theorem pig : ∀ (A B : List Nat), A.Nodup → (∀ a, a ∈ A → a ∈ B) → A.length ≤ B.length
  | [], _, _, _ => Nat.zero_le _
  | a :: A, B, hA, h => by
    obtain ⟨h1, h2⟩ := List.nodup_cons.mp hA
    have ha := h a List.mem_cons_self
    have ih := pig A (B.erase a) h2 (fun x hx => (List.mem_erase_of_ne (fun (e : x = a) => h1 (e ▸ hx))).mpr (h x (List.mem_cons_of_mem _ hx)))
    rw [List.length_erase_of_mem ha] at ih
    have := List.length_pos_of_mem ha
    rw [List.length_cons]
    omega
/-- the best beginnings one row on come from the best ones -/
theorem beam {lim : Nat} {V V' W : BE → Prop} {L L' : List BE} (hL : TopL lim V L) (hL' : TopL lim W L') (hW : ∀ e, W e → V' e)
    (hV : ∀ e', V' e' → ∃ e, V e ∧ e'.2.1 / 16 = e.2.1 ∧ e.1 ≤ e'.1 ∧ (e ∈ L → W e'))
    (hx : ∀ x, x ∈ L → ∃ y, W y ∧ y.1 = x.1 ∧ y.2.1 / 16 = x.2.1)
    (hd0 : ∀ e e', V e → V e' → e.2.1 = e'.2.1 → e = e') (hd : ∀ e e', V' e → V' e' → e.2.1 = e'.2.1 → e = e') : TopL lim V' L' := by
  refine ⟨hL'.1, fun e he => hW e (hL'.2.1 e he), hL'.2.2.1, fun e' hv hn => ?_⟩
  by_cases hw : W e'
  · exact hL'.2.2.2 e' hw hn
  · obtain ⟨e, he, hp, hs, hm⟩ := hV e' hv
    obtain ⟨hlen, hbef⟩ := hL.2.2.2 e he (fun q => hw (hm q))
    have hy : ∀ x, x ∈ L → ∃ y, W y ∧ y.2.1 / 16 = x.2.1 ∧ befE y e' = true := fun x hxL => by
      obtain ⟨y, y1, y2, y3⟩ := hx x hxL
      refine ⟨y, y1, y3, ?_⟩
      have hb := hbef x hxL
      unfold befE at hb ⊢
      rw [bef_i] at hb ⊢
      omega
    have hnd : (L.map (fun x => x.2.1)).Nodup := by
      refine List.pairwise_map.mpr (List.Pairwise.imp_of_mem (fun {x y} hx1 hy1 hb q => ?_) hL.1)
      exact befE_ne hb (hd0 x y (hL.2.1 x hx1) (hL.2.1 y hy1) q)
    have hll := hL'.2.2.1
    refine ⟨?_, fun y0 hy0 => ?_⟩
    · rcases Nat.lt_or_ge L'.length lim with g | g
      · have hin : ∀ y, W y → y ∈ L' := fun y hy => Classical.byContradiction (fun q => by
          have := (hL'.2.2.2 y hy q).1
          omega)
        have := pig _ (L'.map (fun y => y.2.1 / 16)) hnd (fun p hp => by
          obtain ⟨x, hx1, rfl⟩ := List.mem_map.mp hp
          obtain ⟨y, y1, y2, _⟩ := hy x hx1
          exact List.mem_map.mpr ⟨y, hin y y1, y2⟩)
        rw [List.length_map, List.length_map] at this
        omega
      · omega
    · cases hb0 : befE y0 e' with
      | true => rfl
      | false =>
        have hne : y0.2.1 ≠ e'.2.1 := fun q => hn (hd y0 e' (hW y0 (hL'.2.1 y0 hy0)) hv q ▸ hy0)
        have hb1 : befE e' y0 = true := (befE_tot hne).resolve_left (by rw [hb0]; decide)
        have := pig _ ((L'.erase y0).map (fun y => y.2.1 / 16)) hnd (fun p hp => by
          obtain ⟨x, hx1, rfl⟩ := List.mem_map.mp hp
          obtain ⟨y, y1, y2, y3⟩ := hy x hx1
          have hyy : befE y y0 = true := befE_tr y3 hb1
          refine List.mem_map.mpr ⟨y, (List.mem_erase_of_ne (befE_ne hyy)).mpr (Classical.byContradiction (fun q => ?_)), y2⟩
          have := (hL'.2.2.2 y y1 q).2 y0 hy0
          rw [befE_as hyy] at this
          cases this)
        rw [List.length_map, List.length_map, List.length_erase_of_mem hy0] at this
        have := List.length_pos_of_mem hy0
        omega
/-- the least one that isn't listed yet -/
def Nx (V : BE → Prop) (L : List BE) (e : BE) : Prop := V e ∧ e ∉ L ∧ ∀ x, V x → x ∉ L → x = e ∨ befE e x = true
def Grd (V : BE → Prop) (L : List BE) : Prop := ∀ i e, L[i]? = some e → Nx V (L.take i) e
theorem Nx_one {V : BE → Prop} {L : List BE} {e e' : BE} (h : Nx V L e) (h' : Nx V L e') : e = e' := by
  rcases h.2.2 e' h'.1 h'.2.1 with g | g
  · exact g.symm
  · rcases h'.2.2 e h.1 h.2.1 with g2 | g2
    · exact g2
    · rw [befE_as g] at g2; cases g2
theorem Grd_take {V : BE → Prop} {L L' : List BE} (h : Grd V L) (h' : Grd V L') : ∀ n, n ≤ L.length → n ≤ L'.length → L.take n = L'.take n
  | 0, _, _ => by rw [List.take_zero, List.take_zero]
  | n + 1, h1, h2 => by
    have ih := Grd_take h h' n (by omega) (by omega)
    have e1 : L[n]? = some (L[n]'(by omega)) := List.getElem?_eq_getElem (by omega)
    have e2 : L'[n]? = some (L'[n]'(by omega)) := List.getElem?_eq_getElem (by omega)
    have g1 := h n _ e1
    have g2 := h' n _ e2
    rw [ih] at g1
    have e3 := Nx_one g1 g2
    rw [List.take_succ, List.take_succ, ih, e1, e2, e3]
theorem Grd_one {V : BE → Prop} {L L' : List BE} {lim : Nat} (h : Grd V L) (h' : Grd V L') (hl : L.length ≤ lim) (hl' : L'.length ≤ lim) (he : L.length < lim → ∀ x, V x → x ∈ L) (he' : L'.length < lim → ∀ x, V x → x ∈ L') : L = L' := by
  have key : ∀ {A B : List BE}, Grd V A → Grd V B → (A.length < lim → ∀ x, V x → x ∈ A) → B.length ≤ lim → A.length ≤ B.length → A = B := fun {A B} hA hB hE hBl hAB => by
    have e1 := Grd_take hA hB A.length (Nat.le_refl _) hAB
    rw [List.take_length] at e1
    rcases Nat.lt_or_ge A.length B.length with g | g
    · have e2 : B[A.length]? = some (B[A.length]'g) := List.getElem?_eq_getElem g
      have g1 := hB _ _ e2
      rw [← e1] at g1
      exact absurd (hE (by omega) _ g1.1) g1.2.1
    · rw [e1, List.take_of_length_le g]
  rcases Nat.le_total L.length L'.length with g | g
  · exact key h h' he hl' g
  · exact (key h' h he' hl g).symm
theorem TopL_Grd {lim : Nat} {V : BE → Prop} {L : List BE} (h : TopL lim V L) : Grd V L ∧ (L.length < lim → ∀ x, V x → x ∈ L) := by
  refine ⟨fun i e hi => ⟨h.2.1 e (List.mem_of_getElem? hi), fun q => ?_, fun x hx hn => ?_⟩, fun hl x hx => Classical.byContradiction (fun q => by
    have := (h.2.2.2 x hx q).1
    omega)⟩
  · obtain ⟨j, hj⟩ := List.getElem?_of_mem q
    rw [List.getElem?_take] at hj
    by_cases g : j < i
    · rw [if_pos g] at hj
      obtain ⟨a1, a2⟩ := List.getElem?_eq_some_iff.mp hi
      obtain ⟨b1, b2⟩ := List.getElem?_eq_some_iff.mp hj
      have := List.pairwise_iff_getElem.mp h.1 j i b1 a1 g
      rw [a2, b2, befE_ii] at this
      cases this
    · rw [if_neg g] at hj; cases hj
  · by_cases hm : x ∈ L
    · obtain ⟨j, hj⟩ := List.getElem?_of_mem hm
      obtain ⟨a1, a2⟩ := List.getElem?_eq_some_iff.mp hi
      obtain ⟨b1, b2⟩ := List.getElem?_eq_some_iff.mp hj
      rcases Nat.lt_trichotomy i j with g | g | g
      · have := List.pairwise_iff_getElem.mp h.1 i j a1 b1 g
        rw [a2, b2] at this
        exact Or.inr this
      · subst g
        rw [hi] at hj
        exact Or.inl (Option.some.inj hj).symm
      · exact absurd (List.mem_of_getElem? (show (L.take i)[j]? = some x by rw [List.getElem?_take, if_pos g]; exact hj)) hn
    · exact Or.inr ((h.2.2.2 x hx hm).2 e (List.mem_of_getElem? hi))
