theorem zblind2 {G : Geo} {ar : List Value} {X : St} {sz : Nat} (a : Array Value) (U V : State) (h9 : V.heap = U.heap) (hv : V.vm = U.vm) (h : va_Pc ar (zPK G X sz) a U) : va_Pc ar (zPK G X sz) a V := by
  obtain ⟨h1, h2, h3, h4, h5, h6⟩ := h
  have hal : U.vm.Alike V.vm := by rw [hv]; exact Vm.Alike.refl _
  refine ⟨h1, ?_, ?_, va_K.moved hal h4, zNw.same hv.symm h5, ?_⟩
  · rw [h9]; exact h2
  · rw [h9]; exact h3
  · rw [h9]; exact ⟨h6.1.moved hal, h6.2.moved hal⟩
section ZR2
variable {l : Launch} {cc : ByteArray} {nL : Nat} {G : Geo} {fr lo um : Nat} {J : JT} {JX : JXT} {X : St} {u pc : Nat} {lv : List (Nat × Value)} {st : List Value}
/-- Math.rint of n eighths -/
theorem r_rint (hfl0 : l.stackTraces = false) (C : Cb l RX6 cc nL G fr lo um J JX) {n : Nat} {s9 : Bool} {x : UInt64} (h : Pd 3 s9 n x) (hn : n ≤ 16000000) (hu : u ≤ um) (hfr1 : 4 ≤ fr) (hlo1 : 1109 ≤ lo) (hs8 : (st.map fun v => v.category).sum ≤ 8) (hdg : decode cc pc = .ok (.invokestatic 117, 3)) (kk : ∀ r, Pd 0 s9 (n8 n) r → J X u (pc + 3) lv (.double r :: st)) : J X u pc lv (.double x :: st) := by
  obtain ⟨p, e, R, s, m, args, below, meth, c, A, c0, s0, Q, ⟨hx, hb, hml, hown, hts, hK, hNw, hA, hZs, hfl, hfr, hlo, hRc, hRs⟩, rfl, rfl⟩ := C
  intro H locs ls hP hD hS hl
  have hM := con_Jxfc994_rint_294c1 l hfl0 X h hn G H.size
  have hpay := pay_in hts (good_all cw_J9_rint_294c1)
  have hB : Back l R p e below s args yJ9_rint_294c1 3 8 _ _ := zr_back hM (fun a U V h1 h2 h3 => zblind2 a U V h1 h2 h3) (fun E st t q => by
      obtain ⟨⟨X1, q1, _⟩, _⟩ := q
      exact q1) (fun a st o t q => by
      obtain ⟨⟨v, X1, h1, ⟨r, h2, h3, h4⟩, h5⟩, h6⟩ := q
      subst h2
      exact ⟨r, h1, Pd_n64 h3⟩) (fun a st st' o t h1 q => by
      obtain ⟨q1, q2, q3⟩ := q
      exact ⟨q1, by rw [h1]; exact q2, by rw [h1]; exact q3⟩) rfl rfl (by rw [hfr]; exact hfr1) (by rw [hlo]; exact hlo1) (pay_in hts (good_all cw_Jxfc994_rint_294c1)) List.mem_cons_self (fun a' U hW => hpay _ List.mem_cons_self a' U hW) (fun a' U hW => hpay _ (List.mem_cons_of_mem _ ik_RJxfc994) a' U hW)
  refine zcall (u' := 0) (K := kD (fun r9 X' => Pd 0 s9 (n8 n) r9 ∧ X = X')) (KX := kF) (a := [Value.double x].toArray) ?_ hP hD hS hl hA (fun _ _ h9 => h9.elim) (fun v X' h9 => by
    obtain ⟨r, rfl, h8, rfl⟩ := h9
    exact kk r h8)
  intro T hT Xs
  obtain ⟨v, vm₁, ⟨U', l2, c2, s2⟩, hW₁, X', ⟨g', mk, t, L, e1, e2, hq, h1, hL, h2, h3⟩, sg⟩ := callS Xs hx (bytes := cJ9_rint_294c1) (maxL := 2) (ret := some .double) hown (hts _ lk_RX6_117) (hts _ st_J9_rint_294c1) (hts _ ik_RJ9) (hts _ cw_J9_rint_294c1) (by decide +kernel) hB (g := F0 m pc ls (.double x :: st)) rfl (hl.1.trans hml.symm) (argsL := [.double x]) (rest := st) (fun sig h => nm_J9_rint_294c1.len sig h) rfl (lv_room hs8) (by rw [hb]; exact hdg) (fun vm₁ hW₁ => ⟨by show c0 + u + 0 ≤ R.cells; omega, by show s0 + 6 * u + 0 ≤ R.slots; omega, ⟨rfl, zstart hP hD hS hK hNw hZs hA (U := T.setVm vm₁) hT hW₁⟩, x, rfl⟩)
  dsimp only [Pt.U, Pt.locs, Pt.cells, Pt.slots] at X' e1 e2 h1 h2 h3 sg
  subst h1; subst h2; subst h3
  exact Or.inl ⟨v, (T.setVm vm₁).calling g' mk [Value.double x].toArray, t, U', L, hT, X', hL, e1, e2, hq, sg⟩
end ZR2
