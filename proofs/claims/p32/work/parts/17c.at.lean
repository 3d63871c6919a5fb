/-! ===== contracts whose answer is an object ===== -/
/-- as Con, at one place of the pool -/
def ConAt (l : Launch) (G : Geo) (y : MethodName) (cc : ByteArray) (n : Nat) (ret : Option FieldType) (fr lo u : Nat) (ar : List Value) (X : St) (K : Option Value → St → Prop) (KX : String → St → Prop) : Prop :=
  ∀ (sz : Nat), vx_Met l y (ws_ y cc n ret) (zRm fr lo u) (va_Pc ar (zPK G X sz)) (zQK G (zA G sz) K) (zXK G (zA G sz) KX) u (6 * u) (zA G sz)
theorem conAt_of {l : Launch} {G : Geo} {y : MethodName} {cc : ByteArray} {n : Nat} {ret : Option FieldType} {fr lo u : Nat} {ar : List Value} {X : St} {K : Option Value → St → Prop} {KX : String → St → Prop} {lv : List (Nat × Value)} (hfl : l.stackTraces = false) (hy : plainName y.cls = true) (hlv : lv_args 0 ar = lv) (hsl : (lg_sl ar).length ≤ n)
    (body : ∀ (J : JT) (JX : JXT), Cl l y.cls cc n ret [] G fr lo u K KX J JX → J X 0 0 lv []) : ConAt l G y cc n ret fr lo u ar X K KX := by
  intro sz
  refine vx_ofW (cc := cc) (maxL := n) (ret := ret) hy rfl ?_
  intro p e s m args below meth c s₁ B hml hex hv
  obtain ⟨rfl, rfl, ⟨hP, hD⟩, hK, hNw, hZs, hSx⟩ := hv
  have hts := atoms_spec (ws := ws_ y cc n ret) B.pre
  have hown : s.vm.findClass y.cls = some m.cls := findClass_of_methodNamed B.named
  have hcx : zCx p l (zRm fr lo u) s m ar.toArray c (zA G s.heap.size) y.cls cc n G fr lo u 0 0 := ⟨B.exec, B.bytes, hml, hown, fun w h => hts w (List.mem_cons_of_mem _ h), hK, hNw, fun q h => Or.inr h, hZs, hfl, rfl, rfl, by show 0 + u ≤ u; omega, by show 0 + 6 * u ≤ 6 * u; omega, hSx⟩
  have hb := body _ _ ⟨p, e, s, m, ar.toArray, below, meth, c, zA G s.heap.size, hcx, B.returns, B.notSynchronized, (by
    cases hc : c.exceptionTable.toList with
    | nil => rfl
    | cons x t => exact (hex x (by rw [hc]; exact List.mem_cons_self)).elim), rfl, rfl⟩
  have hl := lv_entry ar (n := n) hsl
  rw [lg_entry_eq]
  rw [hlv] at hl
  exact hb s.heap [] _ hP hD va_S.rf (lvOk_of hl)
theorem cl_solved {l : Launch} {cc : ByteArray} {nL : Nat} {G : Geo} {fr lo um fr' lo' : Nat} {J : JT} {JX : JXT} {X : St} {u pc : Nat} {lv : List (Nat × Value)} {st : List Value} {PP : St → Prop} (C : Cb l RX5 cc nL G fr lo um J JX) (hM : ConAt l G yX5_solved cX5_solved 1 (some (.object "AssignmentDesk$Solver")) fr' lo' 0 [.ref (G.2.1 0)] X (fun v X' => v = some (.ref (G.2.1 7)) ∧ PP X') kF) (hdg : decode cc pc = .ok (.invokevirtual 136, 3)) (hR : fr' + 1 ≤ fr ∧ 8 + (1 + 11) + lo' ≤ lo) (hu : u ≤ um) (hs8 : (st.map fun v => v.category).sum ≤ 8) (kk : ∀ X', PP X' → J X' u (pc + 3) lv (.ref (G.2.1 7) :: st)) : J X u pc lv (.ref (G.2.1 0) :: st) := by
  obtain ⟨p, e, R, s, m, args, below, meth, c, A, c0, s0, Q, ⟨hx, hb, hml, hown, hts, hK, hNw, hA, hZs, hfl, hfr, hlo, hRc, hRs, hSx⟩, rfl, rfl⟩ := C
  intro H locs ls hP hD hS hl
  have hq := wsX_get G X (k := 0) (gl (by decide))
  rw [sE_o G X (k := 0) rfl] at hq
  have hM9 := hM H.size
  exact zcall (u' := 0) (vx_runV (As := []) (rest := st) (C := RX5) (own := RX5) (Ts := lw_all) ⟨hx, hb, hml, hown, hts⟩ hM9 ⟨⟨rfl, rfl, by rw [hfr]; exact hR.1, by rw [hlo]; exact hR.2, pay_in hts (good_all cw_X5_solved), List.mem_cons_self, hts _ cw_X5_solved, hts _ ik_RX5, nm_X5_solved.1, nm_X5_solved.len, hts _ lk_RX5_136⟩, hts _ im_X5_solved, hts _ se_X5_solved⟩ ⟨zblind, va_recv hK hP (show ncl[0]? = some (RX5, TX5, 5) from rfl) hq, fun U hU hW => ⟨rfl, zstart hP hD hS hK hNw hZs hSx hA hU hW⟩⟩ rfl rfl hl.1 rfl (lv_room hs8) hdg ⟨by omega, by omega⟩) hP hD hS hl hA (fun _ _ h9 => h9.elim) (fun v X' h9 => by obtain ⟨rfl, h8⟩ := h9; exact kk X' h8)
/-- a static method's contract at one place of the pool, called -/
theorem r_cSAt {l : Launch} {own : String} {cc : ByteArray} {nL : Nat} {G : Geo} {fr lo um : Nat} {J : JT} {JX : JXT} {X : St} {u pc : Nat} {lv : List (Nat × Value)} {st stk : List Value} {y : MethodName} {bc : ByteArray} {n0 fr' lo' u' idx na : Nat} {ret : Option FieldType} {K : Option Value → St → Prop} {KX : String → St → Prop} (C : Cb l own cc nL G fr lo um J JX) (As : List Value) (hM : ConAt l G y bc n0 ret fr' lo' u' As X K KX) (hcw : Cond.code y bc n0 ret ∈ lw_all) (hst0 : Cond.static y ∈ lw_all) (hik : Cond.initialized y.cls ∈ lw_all) (hnm : zNm y na) (hlk : Cond.methodLink own idx y ∈ lw_all) (hdg : decode cc pc = .ok (.invokestatic idx, 3)) (hna : As.length = na) (hstk : stk = As.reverse ++ st) (hR : fr' + 1 ≤ fr ∧ 8 + (n0 + 11) + lo' ≤ lo) (hu : u + u' ≤ um) (hs8 : (st.map fun v => v.category).sum ≤ 8) (kx : ∀ E X', KX E X' → JX X' (u + u') pc lv E) (kk : ∀ v X', K v X' → J X' (u + u') (pc + 3) lv (v.toList ++ st)) : J X u pc lv stk := by
  obtain ⟨p, e, R, s, m, args, below, meth, c, A, c0, s0, Q, ⟨hx, hb, hml, hown, hts, hK, hNw, hA, hZs, hfl, hfr, hlo, hRc, hRs, hSx⟩, rfl, rfl⟩ := C
  intro H locs ls hP hD hS hl
  have hM9 := hM H.size
  subst hstk
  exact zcall (vx_runS (As := As) (rest := st) (own := own) (Ts := lw_all) ⟨hx, hb, hml, hown, hts⟩ hM9 ⟨⟨rfl, rfl, by rw [hfr]; exact hR.1, by rw [hlo]; exact hR.2, pay_in hts (good_all hcw), List.mem_cons_self, hts _ hcw, hts _ hik, hnm.1, hnm.len, hts _ hlk⟩, hts _ hst0⟩ ⟨zblind, fun U hU hW => ⟨rfl, zstart hP hD hS hK hNw hZs hSx hA hU hW⟩⟩ rfl hna hl.1 rfl (lv_room hs8) hdg ⟨by omega, by omega⟩) hP hD hS hl hA kx kk
theorem vp_in_nI2 {i L : Nat} (h : i < L) (h1 : i < 2 ^ 31) : vp_in (nI i) L := by
  rintro (q | q)
  · have q' : i32 (i : Int) < i32 0 := q
    exact absurd ((i32_lt ⟨by omega, by omega⟩ (by decide)).mp q') (by omega)
  · rw [nI_clamp h1] at q
    omega
/-- a place of the script is read -/
theorem r_scr {l : Launch} {own : String} {cc : ByteArray} {nL : Nat} {G : Geo} {fr lo um : Nat} {J : JT} {JX : JXT} {X : St} {u pc : Nat} {lv : List (Nat × Value)} {st : List Value} (C : Cb l own cc nL G fr lo um J JX) (j : Nat) {i : Int32} (hi : i = nI j) (hj : j < Gl G) (hj2 : j < 2 ^ 31) (hdg : decode cc pc = .ok (.iaload, 1)) (kk : J X u (pc + 1) lv (.int (Gx G j) :: st)) : J X u pc lv (.int i :: .ref (Gb G) :: st) := by
  obtain ⟨p, e, R, s, m, args, below, meth, c, A, c0, s0, Q, ⟨hx, hb, hml, hown, hts, hK, hNw, hA, hZs, hfl, hfr, hlo, hRc, hRs, hSx⟩, rfl, rfl⟩ := C
  subst hi
  intro H locs ls hP hD hS hl
  refine va_sld hx hb hSx.1 hSx.2.1 hSx.2.2 hS (vp_in_nI2 hj hj2) hdg ?_
  rw [nI_clamp hj2]
  exact kk H locs ls hP hD hS hl
theorem r_scl {l : Launch} {own : String} {cc : ByteArray} {nL : Nat} {G : Geo} {fr lo um : Nat} {J : JT} {JX : JXT} {X : St} {u pc : Nat} {lv : List (Nat × Value)} {st : List Value} (C : Cb l own cc nL G fr lo um J JX) (hdg : decode cc pc = .ok (.arraylength, 1)) (kk : J X u (pc + 1) lv (.int (nI (Gl G)) :: st)) : J X u pc lv (.ref (Gb G) :: st) := by
  obtain ⟨p, e, R, s, m, args, below, meth, c, A, c0, s0, Q, ⟨hx, hb, hml, hown, hts, hK, hNw, hA, hZs, hfl, hfr, hlo, hRc, hRs, hSx⟩, rfl, rfl⟩ := C
  intro H locs ls hP hD hS hl
  exact va_slen hx hb hSx.1 hSx.2.1 hSx.2.2 hS hdg (kk H locs ls hP hD hS hl)
abbrev fgo (f g : Nat) : Prop := (f = 26 ∧ g = 31) ∨ (f = 31 ∧ g = 26)
theorem fgo.f {f g : Nat} (h : fgo f g) : f = 26 ∨ f = 31 := by rcases h with h | h <;> simp [h]
theorem fgo.g {f g : Nat} (h : fgo f g) : g = 26 ∨ g = 31 := by rcases h with h | h <;> simp [h]
theorem BH_fr {X Y : St} {P : Nat → Prop} {b : Nat} {L : List BE} (h : BH X b L) (hF : Fr P X Y) (hP : ∀ k, b ≤ k → k ≤ b + 4 → ¬ P k) : BH Y b L := by
  refine ⟨by rw [(hF b (hP b (by omega) (by omega))).1 4]; exact h.1, h.2.1, fun i e he => ⟨?_, (h.2.2 i e he).2⟩⟩
  obtain ⟨h1, h2, h3, h4⟩ := (h.2.2 i e he).1
  exact ⟨by rw [(hF _ (hP _ (by omega) (by omega))).2.1]; exact h1, by rw [(hF _ (hP _ (by omega) (by omega))).2.2.1]; exact h2, by rw [(hF _ (hP _ (by omega) (by omega))).2.1]; exact h3, by rw [(hF _ (hP _ (by omega) (by omega))).2.1]; exact h4⟩
theorem BH_nil {X : St} {b : Nat} : BH (Ym X b 4 0) b [] := ⟨by rw [Zm_Ym, if_pos ⟨rfl, rfl⟩]; rfl, Nat.zero_le _, fun i e h => by cases h⟩
abbrev Qr (k : Nat) : Prop := 25 ≤ k ∧ k ≤ 35
