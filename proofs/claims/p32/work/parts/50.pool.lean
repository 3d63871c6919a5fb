/-! ===== the law's walk: its context; its arrays join the pool one by one ===== -/
/-- the pool with one cell more, at the place j -/
def Gp (G : Geo) (j q : Nat) : Geo := (G.1, fun k => if k = j then q else G.2.1 k, G.2.2.1, G.2.2.2.1, j - 35)
/-- the pool without the last one -/
def Gd (G : Geo) : Geo := (G.1, G.2.1, G.2.2.1, G.2.2.2.1, 3)
theorem fvs_g {G G' : Geo} {X : St} {k : Nat} (ha : ∀ i, i < 36 → G'.2.1 i = G.2.1 i) : ∀ (fs : List (Option (Option Nat))) (i : Nat), (∀ c, some (some c) ∈ fs → c < 36) → (some none ∈ fs → ∀ j, i ≤ j → j < i + fs.length → Zf X k j < 36) → fvs G' X k i fs = fvs G X k i fs
  | [], _, _, _ => rfl
  | none :: t, i, h1, h2 => by
    rw [fvs, fvs, fvs_g ha t (i + 1) (fun c hc => h1 c (List.mem_cons_of_mem _ hc)) (fun hc j g1 g2 => h2 (List.mem_cons_of_mem _ hc) j (by omega) (by rw [List.length_cons]; omega))]
  | some none :: t, i, h1, h2 => by
    rw [fvs, fvs, fvs_g ha t (i + 1) (fun c hc => h1 c (List.mem_cons_of_mem _ hc)) (fun hc j g1 g2 => h2 (List.mem_cons_of_mem _ hc) j (by omega) (by rw [List.length_cons]; omega)), ha _ (h2 List.mem_cons_self i (Nat.le_refl i) (by rw [List.length_cons]; omega))]
  | some (some c) :: t, i, h1, h2 => by
    rw [fvs, fvs, fvs_g ha t (i + 1) (fun c hc => h1 c (List.mem_cons_of_mem _ hc)) (fun hc j g1 g2 => h2 (List.mem_cons_of_mem _ hc) j (by omega) (by rw [List.length_cons]; omega)), ha c (h1 c List.mem_cons_self)]
theorem lay_rs : ∀ k, k < 40 → ((lay k).2.2.all (fun f => match f with | some (some c) => decide (c < 36) | some none => decide (k = 25) | none => true) = true) ∧ ((lay k).1 = 4 → (lay k).2.1 = 11) ∧ (lay k).1 ≤ 4 := by decide +kernel
theorem sE_g {G G' : Geo} {X : St} {k : Nat} (hk : k < 40) (ha : ∀ i, i < 36 → G'.2.1 i = G.2.1 i) (h2 : G'.2.2.1 = G.2.2.1) (hf : ∀ i, i < 2 → Zf X 25 i < 36) : sE G' X k = sE G X k := by
  obtain ⟨h3, h4, h5⟩ := lay_rs k hk
  have h6 : fvs G' X k 0 (lay k).2.2 = fvs G X k 0 (lay k).2.2 := fvs_g ha _ 0 (fun c hc => by
    have := List.all_eq_true.mp h3 _ hc
    simpa using this) (fun hc j _ hj => by
    have := List.all_eq_true.mp h3 _ hc
    have e : k = 25 := by simpa using this
    subst e
    exact hf j (by simpa [lay] using hj))
  unfold sE
  generalize lay k = w at *
  obtain ⟨a, n, fs⟩ := w
  have h7 : a ≤ 4 := h5
  have h8 : fvs G' X k 0 fs = fvs G X k 0 fs := h6
  rcases (show a = 0 ∨ a = 1 ∨ a = 2 ∨ a = 3 ∨ a = 4 by omega) with rfl | rfl | rfl | rfl | rfl
  · show Sum.inr (n, fvs G' X k 0 fs) = Sum.inr (n, fvs G X k 0 fs)
    rw [h8]
  · show Sum.inl (G'.2.2.1 0, n, Sum.inl (Zv X k)) = Sum.inl (G.2.2.1 0, n, Sum.inl (Zv X k))
    rw [h2]
  · show Sum.inl (G'.2.2.1 1, n, Sum.inr (Sum.inl (Zu X k))) = Sum.inl (G.2.2.1 1, n, Sum.inr (Sum.inl (Zu X k)))
    rw [h2]
  · show Sum.inl (G'.2.2.1 2, n, Sum.inl (Zv X k)) = Sum.inl (G.2.2.1 2, n, Sum.inl (Zv X k))
    rw [h2]
  · have e4 : n = 11 := h4 rfl
    subst e4
    show Sum.inl (G'.2.2.1 3, 11, Sum.inr (Sum.inr (Sum.inr (Sum.inr (fun i => if i < 11 then some (G'.2.1 (14 + i)) else none))))) = Sum.inl (G.2.2.1 3, 11, Sum.inr (Sum.inr (Sum.inr (Sum.inr (fun i => if i < 11 then some (G.2.1 (14 + i)) else none)))))
    rw [h2]
    refine congrArg (fun z => Sum.inl (G.2.2.1 3, 11, Sum.inr (Sum.inr (Sum.inr (Sum.inr z))))) (funext fun i => ?_)
    by_cases hi : i < 11
    · rw [if_pos hi, if_pos hi, ha (14 + i) (by omega)]
    · rw [if_neg hi, if_neg hi]
theorem wsX_new {G : Geo} {X : St} {j q t0 n : Nat} (f : Nat → Int32) (hj : 36 + Gn G = j) (hj2 : j < 40) (hf : ∀ i, i < 2 → Zf X 25 i < 36) (hs : sE (Gp G j q) (Yv X j f) j = .inl (G.2.2.1 t0, n, .inl f)) : wsX G X ++ [(q, .inl (G.2.2.1 t0, n, .inl f))] = wsX (Gp G j q) (Yv X j f) := by
  subst hj
  have e : 36 + Gn (Gp G (36 + Gn G) q) = (36 + Gn G) + 1 := by
    show 36 + ((36 + Gn G) - 35) = _
    omega
  unfold wsX
  rw [e, List.range_succ, List.map_append]
  congr 1
  · refine List.map_congr_left fun k hk => ?_
    have hk : k < 36 + Gn G := List.mem_range.mp hk
    have e1 : (Gp G (36 + Gn G) q).2.1 k = G.2.1 k := by
      show (if k = 36 + Gn G then q else G.2.1 k) = _
      rw [if_neg (by omega)]
    have e2 : sE (Gp G (36 + Gn G) q) (Yv X (36 + Gn G) f) k = sE (Gp G (36 + Gn G) q) X k := sW_cong _ (fun _ => rfl) (by rw [Zv_Yv, if_neg (by omega)]) rfl (fun _ => rfl)
    rw [e1, e2, sE_g (G := G) (G' := Gp G (36 + Gn G) q) (X := X) (by omega) (fun i hi => by show (if i = 36 + Gn G then q else G.2.1 i) = _; rw [if_neg (by omega)]) rfl hf]
  · have e1 : (Gp G (36 + Gn G) q).2.1 (36 + Gn G) = q := by
      show (if 36 + Gn G = 36 + Gn G then q else G.2.1 (36 + Gn G)) = q
      rw [if_pos rfl]
    rw [List.map_cons, List.map_nil, e1, hs]
/-- the context of the law's walk: c0 cells and s0 words made by the constructors -/
def CbL (l : Launch) (G : Geo) (um : Nat) (J : JT) (JX : JXT) : Prop :=
  ∃ (p : Program) (e : Env) (s : State) (m : MethodId) (below : List Frame) (meth : Method) (c : Code) (c0 s0 : Nat), zCx p l room_1 s m #[Value.ref (Gb G)] c (fun q => s.heap.size ≤ q) RL cL_law 13 G 12 432 um c0 s0 ∧ meth.sig.returnType = ret ∧ meth.locks = false ∧ J = Jw p l e room_1 s m #[Value.ref (Gb G)] below meth c G (fun q => s.heap.size ≤ q) 13 c0 s0 (lw_Z below #[Value.ref (Gb G)] s) ∧ JX = Jx p l e room_1 s m #[Value.ref (Gb G)] below meth c G (fun q => s.heap.size ≤ q) 13 c0 s0 (lw_Z below #[Value.ref (Gb G)] s)
section ZLW
variable {l : Launch} {G : Geo} {um : Nat} {J : JT} {JX : JXT} {X : St} {u pc : Nat} {lv : List (Nat × Value)} {st : List Value}
theorem CbL.c (C : CbL l G um J JX) : Cb l RL cL_law 13 G 12 432 um J JX := by
  obtain ⟨p, e, s, m, below, meth, c, c0, s0, h1, h2, h3, h4, h5⟩ := C
  exact ⟨p, e, room_1, s, m, #[Value.ref (Gb G)], below, meth, c, _, c0, s0, _, h1, h4, h5⟩
theorem r_true (C : CbL l G um J JX) (hu : u ≤ um) (hdg : decode cL_law pc = .ok (.ireturn, 1)) : J X u pc lv [.int 1] := by
  obtain ⟨p, e, s, m, below, meth, c, c0, s0, ⟨hx, hb, hml, hown, hts, hK, hNw, hA, hZs, hfl, hfr, hlo, hRc, hRs, hSx⟩, hret, hlk, rfl, rfl⟩ := C
  intro H locs ls hP hD hS hl
  refine va_forget hS.2.2 ?_
  have hRc' : c0 + um ≤ 600130 := hRc
  have hRs' : s0 + 6 * um ≤ 7301080 := hRs
  refine W.widen (k := 600130) (n := 7301080) (by omega) (by omega) ?_
  exact lw_ret hx hb hret hlk hdg
theorem r_newI (C : CbL l G um J JX) (j : Nat) (hj : 36 + Gn G = j) (hj2 : j < 40) (hlay : lay j = (1, 16, [])) (hf : ∀ i, i < 2 → Zf X 25 i < 36) (hu : u + 3 ≤ um) (hdg : decode cL_law pc = .ok (.newarray .int, 2)) (k : ∀ (q : Nat) (J' : JT) (JX' : JXT), CbL l (Gp G j q) um J' JX' → J' (Yv X j (fun _ => 0)) (u + 3) (pc + 2) lv (.ref q :: st)) : J X u pc lv (.int 16 :: st) := by
  obtain ⟨p, e, s, m, below, meth, c, c0, s0, ⟨hx, hb, hml, hown, hts, hK, hNw, hA, hZs, hfl, hfr, hlo, hRc, hRs, hSx⟩, hret, hlk, rfl, rfl⟩ := C
  intro H locs ls hP hD hS hl
  have hRc' : c0 + um ≤ 600130 := hRc
  have hRs' : s0 + 6 * um ≤ 7301080 := hRs
  refine va_newa hx hb (atype := .int) (hts _ in_aI) (ty := .int) rfl hK hP hD hS hA (N' := 16) (a0 := (16, .inl (fun _ => 0))) (fun c9 => by first | exact (vp_cell_i _ _ _).trans rfl | rfl) (by decide) (by decide) (by decide) (by show _ ≤ 600130; omega) (by show _ ≤ 7301080; omega) hdg (fun q cA H1 hK1 hP1 hD1 hS1 => ?_)
  have e1 : cA = G.2.2.1 0 := ra_one (hK1.2 (gtys G).length (cA, .int) (by simp)).2 (hK.2 0 _ rfl).2
  subst e1
  have eW := wsX_new (q := q) (t0 := 0) (n := 16) (fun _ => 0) hj hj2 hf (by
    unfold sE
    rw [hlay]
    show Sum.inl (G.2.2.1 0, 16, Sum.inl (Zv (Yv X j (fun _ => 0)) j)) = _
    rw [Zv_Yv, if_pos rfl])
  rw [eW] at hP1 hD1
  refine W.widen (k := c0 + (u + 3)) (n := s0 + 6 * (u + 3)) (by omega) (by omega) ?_
  exact k q _ _ ⟨p, e, s, m, below, meth, c, c0, s0, ⟨hx, hb, hml, hown, hts, hK, hNw, hA, hZs, hfl, hfr, hlo, hRc, hRs, hSx⟩, hret, hlk, rfl, rfl⟩ H1 locs ls hP1 hD1 hS1 hl
theorem r_newZ (C : CbL l G um J JX) (j : Nat) (hj : 36 + Gn G = j) (hj2 : j < 40) (hlay : lay j = (3, 4, [])) (hf : ∀ i, i < 2 → Zf X 25 i < 36) (hu : u + 1 ≤ um) (hdg : decode cL_law pc = .ok (.newarray .boolean, 2)) (k : ∀ (q : Nat) (J' : JT) (JX' : JXT), CbL l (Gp G j q) um J' JX' → J' (Yv X j (fun _ => 0)) (u + 1) (pc + 2) lv (.ref q :: st)) : J X u pc lv (.int 4 :: st) := by
  obtain ⟨p, e, s, m, below, meth, c, c0, s0, ⟨hx, hb, hml, hown, hts, hK, hNw, hA, hZs, hfl, hfr, hlo, hRc, hRs, hSx⟩, hret, hlk, rfl, rfl⟩ := C
  intro H locs ls hP hD hS hl
  have hRc' : c0 + um ≤ 600130 := hRc
  have hRs' : s0 + 6 * um ≤ 7301080 := hRs
  refine va_newa hx hb (atype := .boolean) (hts _ in_aZ) (ty := .boolean) rfl hK hP hD hS hA (N' := 4) (a0 := (4, .inl (fun _ => 0))) (fun c9 => by first | exact (vp_cell_i _ _ _).trans rfl | rfl) (by decide) (by decide) (by decide) (by show _ ≤ 600130; omega) (by show _ ≤ 7301080; omega) hdg (fun q cA H1 hK1 hP1 hD1 hS1 => ?_)
  have e1 : cA = G.2.2.1 2 := ra_one (hK1.2 (gtys G).length (cA, .boolean) (by simp)).2 (hK.2 2 _ rfl).2
  subst e1
  have eW := wsX_new (q := q) (t0 := 2) (n := 4) (fun _ => 0) hj hj2 hf (by
    unfold sE
    rw [hlay]
    show Sum.inl (G.2.2.1 2, 4, Sum.inl (Zv (Yv X j (fun _ => 0)) j)) = _
    rw [Zv_Yv, if_pos rfl])
  rw [eW] at hP1 hD1
  refine W.widen (k := c0 + (u + 1)) (n := s0 + 6 * (u + 1)) (by omega) (by omega) ?_
  exact k q _ _ ⟨p, e, s, m, below, meth, c, c0, s0, ⟨hx, hb, hml, hown, hts, hK, hNw, hA, hZs, hfl, hfr, hlo, hRc, hRs, hSx⟩, hret, hlk, rfl, rfl⟩ H1 locs ls hP1 hD1 hS1 hl
theorem r_drop (C : CbL l G um J JX) (hG : Gn G = 4) (k : ∀ (J' : JT) (JX' : JXT), CbL l (Gd G) um J' JX' → J' X u pc lv st) : J X u pc lv st := by
  obtain ⟨p, e, s, m, below, meth, c, c0, s0, ⟨hx, hb, hml, hown, hts, hK, hNw, hA, hZs, hfl, hfr, hlo, hRc, hRs, hSx⟩, hret, hlk, rfl, rfl⟩ := C
  intro H locs ls hP hD hS hl
  have e0 : (List.range 39).map (fun i => (wsX G X)[i]?) = (wsX (Gd G) X).map some := by
    show _ = ((List.range 39).map fun k => (G.2.1 k, sE G X k)).map some
    rw [List.map_map]
    refine List.map_congr_left fun i hi => ?_
    rw [wsX_get G X (by have := List.mem_range.mp hi; omega)]
    rfl
  exact k _ _ ⟨p, e, s, m, below, meth, c, c0, s0, ⟨hx, hb, hml, hown, hts, hK, hNw, hA, hZs, hfl, hfr, hlo, hRc, hRs, hSx⟩, hret, hlk, rfl, rfl⟩ H locs ls (subP hP _ e0) (hD.sub _ (by decide +kernel) e0) hS hl
end ZLW
