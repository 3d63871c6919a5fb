/-! ===== the ranking's lists; what a change leaves alone ===== -/
/-- all cells that aren't P are as before -/
def Fr (P : Nat → Prop) (X X' : St) : Prop := ∀ k, ¬ P k → (∀ j, Zm X' k j = Zm X k j) ∧ Zv X' k = Zv X k ∧ Zu X' k = Zu X k ∧ ∀ j, Zf X' k j = Zf X k j
theorem Fr.rf {P : Nat → Prop} {X : St} : Fr P X X := fun _ _ => ⟨fun _ => rfl, rfl, rfl, fun _ => rfl⟩
theorem Fr.tr {P : Nat → Prop} {X Y Z : St} (h : Fr P X Y) (g : Fr P Y Z) : Fr P X Z := fun k hk => by
  obtain ⟨a1, a2, a3, a4⟩ := h k hk
  obtain ⟨b1, b2, b3, b4⟩ := g k hk
  exact ⟨fun j => (b1 j).trans (a1 j), b2.trans a2, b3.trans a3, fun j => (b4 j).trans (a4 j)⟩
theorem Fr.mono {P P' : Nat → Prop} {X X' : St} (h : Fr P X X') (hp : ∀ k, P k → P' k) : Fr P' X X' := fun k hk => h k (fun q => hk (hp k q))
theorem Fr.v {P : Nat → Prop} {X : St} {k : Nat} (f : Nat → Int32) (h : P k) : Fr P X (Yv X k f) := fun a ha => ⟨fun _ => rfl, by rw [Zv_Yv, if_neg (fun e => ha (by rw [e]; exact h))], rfl, fun _ => rfl⟩
theorem Fr.u {P : Nat → Prop} {X : St} {k : Nat} (f : Nat → Int64) (h : P k) : Fr P X (Yu X k f) := fun a ha => ⟨fun _ => rfl, rfl, by rw [Zu_Yu, if_neg (fun e => ha (by rw [e]; exact h))], fun _ => rfl⟩
theorem Fr.m {P : Nat → Prop} {X : St} {k j : Nat} (x : Int32) (h : P k) : Fr P X (Ym X k j x) := fun a ha => ⟨fun b => by rw [Zm_Ym, if_neg (fun e => ha (by rw [e.1]; exact h))], rfl, rfl, fun _ => rfl⟩
theorem Fr.f {P : Nat → Prop} {X : St} {k j : Nat} (x : Nat) (h : P k) : Fr P X (Yf X k j x) := fun a ha => ⟨fun _ => rfl, rfl, rfl, fun b => by rw [Zf_Yf, if_neg (fun e => ha (by rw [e.1]; exact h))]⟩
/-- a beginning: score, path, past, free -/
abbrev BE : Type := Int × Nat × Int × Nat
def bef (s : Int) (p : Nat) (s' : Int) (p' : Nat) : Bool := decide (s < s') || (decide (s = s') && decide (p < p'))
def befE (e e' : BE) : Bool := bef e.1 e.2.1 e'.1 e'.2.1
abbrev eok (e : BE) : Prop := bd 200000000 e.1 ∧ e.2.1 < 1125899906842624 ∧ bd 200000000 e.2.2.1 ∧ e.2.2.2 < 1024
def hAt (X : St) (b i : Nat) (e : BE) : Prop := Zv X (b + 1) i = i32 e.1 ∧ Zu X (b + 2) i = i64 e.2.1 ∧ Zv X (b + 3) i = i32 e.2.2.1 ∧ Zv X (b + 4) i = nI e.2.2.2
/-- the beginnings b hold the list L -/
def BH (X : St) (b : Nat) (L : List BE) : Prop := Zm X b 4 = nI L.length ∧ L.length ≤ 30 ∧ ∀ i e, L[i]? = some e → hAt X b i e ∧ eok e
def setE (X : St) (b i : Nat) (s : Int32) (p : Int64) (a f : Int32) : St := Yv (Yv (Yu (Yv X (b + 1) (upd (Zv X (b + 1)) i s)) (b + 2) (vp_updL (Zu X (b + 2)) i p)) (b + 3) (upd (Zv X (b + 3)) i a)) (b + 4) (upd (Zv X (b + 4)) i f)
theorem bef_f {s : Int} {p : Nat} {s' : Int} {p' : Nat} (h : ¬ s < s') (h2 : ¬ s = s' ∨ ¬ p < p') : bef s p s' p' = false := by
  unfold bef
  rw [decide_eq_false h]
  rcases h2 with h2 | h2 <;> simp [h2]
theorem bef_t {s : Int} {p : Nat} {s' : Int} {p' : Nat} (h : s < s' ∨ (s = s' ∧ p < p')) : bef s p s' p' = true := by
  unfold bef
  rcases h with h | ⟨h, h2⟩ <;> simp [h]
  exact h2
theorem bef_i {s : Int} {p : Nat} {s' : Int} {p' : Nat} : bef s p s' p' = true ↔ (s < s' ∨ (s = s' ∧ p < p')) := by
  unfold bef
  simp
theorem befE_tr {x y w : BE} (h : befE x y = true) (g : befE y w = true) : befE x w = true := by
  unfold befE at *
  rw [bef_i] at *
  omega
theorem befE_ntr {x y w : BE} (h : befE x y = false) (g : befE w y = true) : befE x w = false := by
  cases hh : befE x w
  · rfl
  · rw [befE_tr hh g] at h
    exact h
theorem setE_at {X : St} {b i : Nat} {s : Int32} {p : Int64} {a f : Int32} (j : Nat) : Zv (setE X b i s p a f) (b + 1) j = (if j = i then s else Zv X (b + 1) j) ∧ Zu (setE X b i s p a f) (b + 2) j = (if j = i then p else Zu X (b + 2) j) ∧ Zv (setE X b i s p a f) (b + 3) j = (if j = i then a else Zv X (b + 3) j) ∧ Zv (setE X b i s p a f) (b + 4) j = (if j = i then f else Zv X (b + 4) j) := by
  unfold setE
  refine ⟨?_, ?_, ?_, ?_⟩
  · rw [Zv_Yv, if_neg (by omega), Zv_Yv, if_neg (by omega), Zv_Yu, Zv_Yv, if_pos rfl]; rfl
  · rw [Zu_Yv, Zu_Yv, Zu_Yu, if_pos rfl]; rfl
  · rw [Zv_Yv, if_neg (by omega), Zv_Yv, if_pos rfl]; rfl
  · rw [Zv_Yv, if_pos rfl]; rfl
theorem setE_m {X : St} {b i : Nat} {s : Int32} {p : Int64} {a f : Int32} (k j : Nat) : Zm (setE X b i s p a f) k j = Zm X k j := rfl
theorem setE_fr {X : St} {b i : Nat} {s : Int32} {p : Int64} {a f : Int32} : Fr (fun k => b ≤ k ∧ k ≤ b + 4) X (setE X b i s p a f) := by
  unfold setE
  exact (((Fr.v _ (by omega)).tr (Fr.u _ (by omega))).tr (Fr.v _ (by omega))).tr (Fr.v _ (by omega))
theorem hAt_new {X : St} {b i : Nat} {e : BE} : hAt (setE X b i (i32 e.1) (i64 e.2.1) (i32 e.2.2.1) (nI e.2.2.2)) b i e := by
  obtain ⟨h1, h2, h3, h4⟩ := setE_at (X := X) (b := b) (i := i) (s := i32 e.1) (p := i64 e.2.1) (a := i32 e.2.2.1) (f := nI e.2.2.2) i
  rw [if_pos rfl] at h1 h2 h3 h4
  exact ⟨h1, h2, h3, h4⟩
theorem hAt_old {X : St} {b i j : Nat} {s : Int32} {p : Int64} {a f : Int32} {e : BE} (h : j ≠ i) (g : hAt X b j e) : hAt (setE X b i s p a f) b j e := by
  obtain ⟨h1, h2, h3, h4⟩ := setE_at (X := X) (b := b) (i := i) (s := s) (p := p) (a := a) (f := f) j
  rw [if_neg h] at h1 h2 h3 h4
  exact ⟨h1.trans g.1, h2.trans g.2.1, h3.trans g.2.2.1, h4.trans g.2.2.2⟩
/-- while an entry's place is sought: what is before place q stands, what is from q on stands a place further -/
def BQ (X : St) (b q : Nat) (M : List BE) : Prop := (∀ i e, M[i]? = some e → i < q → hAt X b i e) ∧ ∀ i e, M[i]? = some e → q ≤ i → hAt X b (i + 1) e
theorem BQ_step {X : St} {b q : Nat} {M : List BE} (h : BQ X b (q + 1) M) (hq : q < M.length) : BQ (setE X b (q + 1) (Zv X (b + 1) q) (Zu X (b + 2) q) (Zv X (b + 3) q) (Zv X (b + 4) q)) b q M := by
  refine ⟨fun i e he hi => hAt_old (by omega) (h.1 i e he (by omega)), fun i e he hi => ?_⟩
  by_cases e1 : i = q
  · subst e1
    have g := h.1 i e he (by omega)
    rw [g.1, g.2.1, g.2.2.1, g.2.2.2]
    exact hAt_new
  · exact hAt_old (by omega) (h.2 i e he (by omega))
theorem BQ_end {X : St} {b q : Nat} {M : List BE} {e : BE} (h : BQ X b q M) (hq : q ≤ M.length) : ∀ i x, (M.take q ++ e :: M.drop q)[i]? = some x → hAt (setE X b q (i32 e.1) (i64 e.2.1) (i32 e.2.2.1) (nI e.2.2.2)) b i x := by
  intro i x hx
  have hl : (M.take q).length = q := by rw [List.length_take]; omega
  rcases Nat.lt_trichotomy i q with g | g | g
  · rw [List.getElem?_append_left (by omega), List.getElem?_take, if_pos g] at hx
    exact hAt_old (by omega) (h.1 i x hx g)
  · subst g
    rw [List.getElem?_append_right (by omega), hl, Nat.sub_self, List.getElem?_cons_zero] at hx
    cases hx
    exact hAt_new
  · rw [List.getElem?_append_right (by omega), hl] at hx
    obtain ⟨j, hj⟩ : ∃ j, i = q + j + 1 := ⟨i - q - 1, by omega⟩
    subst hj
    rw [show q + j + 1 - q = j + 1 by omega, List.getElem?_cons_succ, List.getElem?_drop] at hx
    exact hAt_old (by omega) (h.2 (q + j) x hx (by omega))
/-- an entry taken among the lim best -/
def offL (lim : Nat) (L : List BE) (e : BE) : List BE := (L.filter (fun x => !befE e x) ++ e :: L.filter (fun x => befE e x)).take lim
def Srt (L : List BE) : Prop := L.Pairwise (fun x y => befE y x = false)
theorem befE_le {x y w : BE} (h : befE x y = true) (g : befE w y = false) : befE x w = true := by
  unfold befE at *
  rw [bef_i] at *
  rw [← Bool.not_eq_true, bef_i] at g
  omega
theorem befE_as {x y : BE} (h : befE x y = true) : befE y x = false := by
  unfold befE at *
  rw [bef_i] at h
  rw [← Bool.not_eq_true, bef_i]
  omega
theorem Srt_off {lim : Nat} {L : List BE} {e : BE} (h : Srt L) : Srt (offL lim L e) := by
  unfold offL
  refine List.Pairwise.sublist (List.take_sublist _ _) ?_
  refine List.pairwise_append.mpr ⟨List.Pairwise.sublist List.filter_sublist h, List.pairwise_cons.mpr ⟨fun y hy => befE_as (List.mem_filter.mp hy).2, List.Pairwise.sublist List.filter_sublist h⟩, fun x hx y hy => ?_⟩
  have h1 : befE e x = false := by
    have := (List.mem_filter.mp hx).2
    simpa using this
  rcases List.mem_cons.mp hy with g | g
  · rw [g]; exact h1
  · have h2 := (List.mem_filter.mp g).2
    cases h3 : befE y x
    · rfl
    · rw [befE_tr h2 h3] at h1; exact h1
theorem len_off {lim : Nat} {L : List BE} {e : BE} : (offL lim L e).length ≤ lim := by
  unfold offL
  rw [List.length_take]
  omega
theorem mem_off {lim : Nat} {L : List BE} {e x : BE} (h : x ∈ offL lim L e) : x ∈ L ∨ x = e := by
  unfold offL at h
  rcases List.mem_append.mp (List.mem_of_mem_take h) with g | g
  · exact Or.inl (List.mem_filter.mp g).1
  · rcases List.mem_cons.mp g with g | g
    · exact Or.inr g
    · exact Or.inl (List.mem_filter.mp g).1
theorem cut_at {L : List BE} {e : BE} {q : Nat} (h1 : ∀ i x, L[i]? = some x → i < q → befE e x = false) (h2 : ∀ i x, L[i]? = some x → q ≤ i → befE e x = true) : L.filter (fun x => !befE e x) = L.take q ∧ L.filter (fun x => befE e x) = L.drop q := by
  have e1 : ∀ x ∈ L.take q, befE e x = false := fun x hx => by
    obtain ⟨i, hi⟩ := List.getElem?_of_mem hx
    rw [List.getElem?_take] at hi
    by_cases g : i < q
    · rw [if_pos g] at hi
      exact h1 i x hi g
    · rw [if_neg g] at hi; cases hi
  have e2 : ∀ x ∈ L.drop q, befE e x = true := fun x hx => by
    obtain ⟨i, hi⟩ := List.getElem?_of_mem hx
    rw [List.getElem?_drop] at hi
    exact h2 _ x hi (by omega)
  have e3 : L = L.take q ++ L.drop q := (List.take_append_drop q L).symm
  constructor
  · conv => lhs; rw [e3]
    rw [List.filter_append, List.filter_eq_self.mpr (fun x hx => by rw [e1 x hx]; rfl), List.filter_eq_nil_iff.mpr (fun x hx => by rw [e2 x hx]; decide), List.append_nil]
  · conv => lhs; rw [e3]
    rw [List.filter_append, List.filter_eq_nil_iff.mpr (fun x hx => by rw [e1 x hx]; decide), List.filter_eq_self.mpr (fun x hx => e2 x hx), List.nil_append]
theorem Srt_lt {L : List BE} (h : Srt L) {i j : Nat} {x y : BE} (hi : L[i]? = some x) (hj : L[j]? = some y) (hij : i < j) : befE y x = false := by
  have h1 := List.pairwise_iff_getElem.mp h
  obtain ⟨a1, a2⟩ := List.getElem?_eq_some_iff.mp hi
  obtain ⟨b1, b2⟩ := List.getElem?_eq_some_iff.mp hj
  have := h1 i j a1 b1 hij
  rw [a2, b2] at this
  exact this
theorem off_ins {L : List BE} {e : BE} {q lim : Nat} (hs : Srt L) (hl : L.length < lim) (hq : q ≤ L.length) (h2 : ∀ i x, L[i]? = some x → q ≤ i → befE e x = true) (h1 : ∀ x, L[q - 1]? = some x → 0 < q → befE e x = false) : L.take q ++ e :: L.drop q = offL lim L e := by
  obtain ⟨c1, c2⟩ := cut_at (L := L) (e := e) (q := q) (fun i x hx hi => by
    rcases Nat.lt_or_ge i (q - 1) with g | g
    · obtain ⟨y, hy⟩ : ∃ y, L[q - 1]? = some y := ⟨L[q - 1]'(by omega), List.getElem?_eq_getElem (by omega)⟩
      have h3 := Srt_lt hs hx hy g
      have h4 := h1 y hy (by omega)
      cases h5 : befE e x
      · rfl
      · rw [befE_le h5 h3] at h4; exact h4
    · exact h1 x (by rw [show q - 1 = i by omega]; exact hx) (by omega)) h2
  unfold offL
  rw [c1, c2]
  exact (List.take_of_length_le (by rw [List.length_append, List.length_cons, List.length_take, List.length_drop]; omega)).symm
theorem off_no {L : List BE} {e y : BE} {lim : Nat} (hs : Srt L) (hl : L.length = lim) (hy : L[lim - 1]? = some y) (h : befE e y = false) (h0 : 0 < lim) : offL lim L e = L := by
  obtain ⟨c1, c2⟩ := cut_at (L := L) (e := e) (q := L.length) (fun i x hx hi => by
    rcases Nat.lt_or_ge i (lim - 1) with g | g
    · have h3 := Srt_lt hs hx hy g
      cases h5 : befE e x
      · rfl
      · rw [befE_le h5 h3] at h; exact h
    · rw [show i = lim - 1 by omega] at hx
      rw [hx] at hy
      cases hy
      exact h) (fun i x hx hi => by rw [List.getElem?_eq_none hi] at hx; cases hx)
  unfold offL
  rw [c1, c2, List.take_length, List.drop_length, List.take_append_of_le_length (by omega), List.take_of_length_le (by omega)]
theorem off_put {L : List BE} {e y : BE} {q lim : Nat} (hs : Srt L) (hl : L.length = lim) (hy : L[lim - 1]? = some y) (h : befE e y = true) (h0 : 0 < lim) (hq : q ≤ lim - 1) (h2 : ∀ i x, (L.take (lim - 1))[i]? = some x → q ≤ i → befE e x = true) (h1 : ∀ x, (L.take (lim - 1))[q - 1]? = some x → 0 < q → befE e x = false) : (L.take (lim - 1)).take q ++ e :: (L.take (lim - 1)).drop q = offL lim L e := by
  have h2' : ∀ i x, L[i]? = some x → q ≤ i → befE e x = true := fun i x hx hi => by
    have hil := (List.getElem?_eq_some_iff.mp hx).1
    rcases Nat.lt_or_ge i (lim - 1) with g | g
    · exact h2 i x (by rw [List.getElem?_take, if_pos g]; exact hx) hi
    · rw [show i = lim - 1 by omega] at hx
      rw [hx] at hy
      cases hy
      exact h
  obtain ⟨c1, c2⟩ := cut_at (L := L) (e := e) (q := q) (fun i x hx hi => by
    have h1' : ∀ x, L[q - 1]? = some x → 0 < q → befE e x = false := fun x hx hq0 => h1 x (by rw [List.getElem?_take, if_pos (by omega)]; exact hx) hq0
    rcases Nat.lt_or_ge i (q - 1) with g | g
    · obtain ⟨w, hw⟩ : ∃ w, L[q - 1]? = some w := ⟨L[q - 1]'(by omega), List.getElem?_eq_getElem (by omega)⟩
      have h3 := Srt_lt hs hx hw g
      have h4 := h1' w hw (by omega)
      cases h5 : befE e x
      · rfl
      · rw [befE_le h5 h3] at h4; exact h4
    · exact h1' x (by rw [show q - 1 = i by omega]; exact hx) (by omega)) h2'
  unfold offL
  rw [c1, c2, List.take_append, List.take_take, List.take_take, List.length_take, show min q (lim - 1) = q by omega, show min lim q = q by omega, show min q L.length = q by omega]
  obtain ⟨r, hr⟩ : ∃ r, lim - q = r + 1 := ⟨lim - q - 1, by omega⟩
  rw [hr, List.take_succ_cons, List.drop_take, show lim - 1 - q = r by omega]
theorem take_get {L : List BE} {n i : Nat} {x : BE} (h : (L.take n)[i]? = some x) : L[i]? = some x ∧ i < n := by
  rw [List.getElem?_take] at h
  by_cases g : i < n
  · rw [if_pos g] at h; exact ⟨h, g⟩
  · rw [if_neg g] at h; cases h
