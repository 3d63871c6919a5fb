/-! ===== constructors: a judgement over the cells made so far ===== -/
abbrev JK : Type := va_W → Nat → Nat → Nat → List (Nat × Value) → List Value → Prop
def Jk (p : Program) (l : Launch) (e : Env) (R : Room) (s : State) (m : MethodId) (args : Array Value) (below : List Frame) (meth : Method) (c : Code) (G : Geo) (A : Nat → Prop) (nL : Nat) (Q : State → Prop) (ws : va_W) (cells slots pc : Nat) (lv : List (Nat × Value)) (st : List Value) : Prop :=
  ∀ (H : Heap) (locs : List Loc) (ls : Array Slot), va_P G.1 ncl ws H → va_D A ws → va_S A s.heap H locs → lvOk ls nL lv → W p l e R s m args below meth c H locs cells slots Q (F0 m pc ls st)
/-- what a constructor's walk stands on -/
def zCk (p : Program) (R : Room) (s : State) (m : MethodId) (args : Array Value) (meth : Method) (c : Code) (A : Nat → Prop) (own : String) (cc : ByteArray) (nL : Nat) (G : Geo) (nm : String) (fr lo rc rs : Nat) : Prop :=
  p.tables.exec = Jvm.exec ∧ c.code = cc ∧ c.maxLocals = nL ∧ s.vm.findClass own = some m.cls ∧ (∀ w ∈ lw_all, w.before args s = true) ∧ va_K G.1 ncl (gtys G) s ∧ zNw s ∧ va_AOA .int s ∧ (∀ q, s.heap.size ≤ q → A q) ∧ meth.name = nm ∧ R.frames = fr ∧ R.locals = lo ∧ R.cells = rc ∧ R.slots = rs
def Cq (l : Launch) (own : String) (cc : ByteArray) (nL : Nat) (G : Geo) (nm : String) (fr lo rc rs : Nat) (J : JK) : Prop :=
  ∃ (p : Program) (e : Env) (R : Room) (s : State) (m : MethodId) (args : Array Value) (below : List Frame) (meth : Method) (c : Code) (A : Nat → Prop) (Q : State → Prop), zCk p R s m args meth c A own cc nL G nm fr lo rc rs ∧ J = Jk p l e R s m args below meth c G A nL Q
def at0 (G : Geo) (A : Nat → Prop) (w : va_W) (t : State) : Prop := va_P G.1 ncl w t.heap ∧ va_D A w
def kPr (G : Geo) (sz : Nat) (ws : va_W) (U : State) : Prop := U.heap.size = sz ∧ va_P G.1 ncl ws U.heap ∧ va_K G.1 ncl (gtys G) U ∧ zNw U ∧ va_AOA .int U ∧ va_D (fun _ => True) ws
/-- a constructor's contract: from the cells w0 to cells of the shape S -/
def ConK (l : Launch) (y : MethodName) (cc : ByteArray) (nL fr lo mc ms : Nat) (ar : List Value) (G : Geo) (w0 : va_W) (S : va_W → Prop) : Prop :=
  ∀ sz : Nat, Met l y (ws_ y cc nL none) { frames := fr, cells := mc, slots := ms, locals := lo } (va_Pc ar (kPr G sz w0)) (va_Qv S (at0 G (va_A w0 sz)) (va_A w0 sz)) mc ms (va_A w0 sz)
/-- its walk, with its end -/
def Cr (l : Launch) (own : String) (cc : ByteArray) (nL : Nat) (G : Geo) (nm : String) (fr lo mc ms : Nat) (S : va_W → Prop) (J : JK) : Prop :=
  ∃ (p : Program) (e : Env) (s : State) (m : MethodId) (args : Array Value) (below : List Frame) (meth : Method) (c : Code) (A : Nat → Prop), zCk p { frames := fr, cells := mc, slots := ms, locals := lo } s m args meth c A own cc nL G nm fr lo mc ms ∧ meth.sig.returnType = none ∧ meth.locks = false ∧ J = Jk p l e { frames := fr, cells := mc, slots := ms, locals := lo } s m args below meth c G A nL (MQ below (va_Qv S (at0 G A) A) args s mc ms A)
theorem va_AOA.moved {u U : State} (hvm : u.vm.Alike U.vm) (h : va_AOA .int u) : va_AOA .int U := Jvm.Stand.arrayOver_alikeB hvm h
theorem ra_one {U : State} {a b : ClassId} {ty : FieldType} (h1 : va_RA U a ty) (h2 : va_RA U b ty) : a = b := by
  cases ty with
  | object C =>
    obtain ⟨_, _, _, _, _, e1⟩ := h1
    obtain ⟨_, _, _, _, _, e2⟩ := h2
    exact Option.some.inj (e1.symm.trans e2)
  | _ => exact Option.some.inj (Eq.trans (Eq.symm h1) h2)
theorem in_oi : Cond.instanceMethod objectInit ∈ lw_all := in_all (i := 35) (by decide +kernel) rfl
theorem in_oc : Cond.code objectInit ⟨#[0xb1]⟩ 1 none ∈ lw_all := in_all (i := 36) (by decide +kernel) rfl
theorem in_aI : Cond.arrayClass .int ∈ lw_all := in_all (i := 68) (by decide +kernel) rfl
theorem in_aJ : Cond.arrayClass .long ∈ lw_all := in_all (i := 149) (by decide +kernel) rfl
theorem in_aZ : Cond.arrayClass .boolean ∈ lw_all := in_all (i := 447) (by decide +kernel) rfl
section ZK
variable {l : Launch} {own : String} {cc : ByteArray} {nL : Nat} {G : Geo} {nm : String} {fr lo rc rs : Nat} {J : JK} {ws : va_W} {cells slots pc : Nat} {lv : List (Nat × Value)} {st : List Value}
theorem Cr.q {S : va_W → Prop} (C : Cr l own cc nL G nm fr lo rc rs S J) : Cq l own cc nL G nm fr lo rc rs J := by
  obtain ⟨p, e, s, m, args, below, meth, c, A, h1, h2, h3, h4⟩ := C
  exact ⟨p, e, _, s, m, args, below, meth, c, A, _, h1, h4⟩
theorem k_n {J : JK} {ws ws' : va_W} {c1 c2 s1 s2 : Nat} (hw : ws = ws') (hc : c1 = c2) (hs : s1 = s2) (k : J ws' c2 s2 pc lv st) : J ws c1 s1 pc lv st := by
  subst hw; subst hc; subst hs
  exact k
theorem k_sub (C : Cq l own cc nL G nm fr lo rc rs J) {lv' : List (Nat × Value)} (hs : lvSub lv lv') (k : J ws cells slots pc lv' st) : J ws cells slots pc lv st := by
  obtain ⟨p, e, R, s, m, args, below, meth, c, A, Q, ⟨hx, hb, hml, hown, hts, hK, hNw, hAO, hA, hnm, hfr, hlo, hRc, hRs⟩, rfl⟩ := C
  intro H locs ls hP hD hS hl
  exact k H locs ls hP hD hS (lvOk_sub hl hs)
theorem k_aload_n (C : Cq l own cc nL G nm fr lo rc rs J) {k9 : Fin 4} {i : Nat} {x : Nat} (hdg : decode cc pc = .ok (.aload_n k9, 1)) (hi : (k9 : Nat) = i) (hf : afind lv i = some (.ref x)) (k : J ws cells slots (pc + 1) lv (.ref x :: st)) : J ws cells slots pc lv (st) := by
  obtain ⟨p, e, R, s, m, args, below, meth, c, A, Q, ⟨hx, hb, hml, hown, hts, hK, hNw, hAO, hA, hnm, hfr, hlo, hRc, hRs⟩, rfl⟩ := C
  intro H locs ls hP hD hS hl
  exact lv_aload_n hx hb hdg hi (hl.2.2 _ _ hf) (k H locs ls hP hD hS hl)
theorem k_dup (C : Cq l own cc nL G nm fr lo rc rs J) {v : Value} (hdg : decode cc pc = .ok (.dup, 1)) (hc : v.category = 1) (k : J ws cells slots (pc + 1) lv (v :: v :: st)) : J ws cells slots pc lv (v :: st) := by
  obtain ⟨p, e, R, s, m, args, below, meth, c, A, Q, ⟨hx, hb, hml, hown, hts, hK, hNw, hAO, hA, hnm, hfr, hlo, hRc, hRs⟩, rfl⟩ := C
  intro H locs ls hP hD hS hl
  exact lv_dup hx hb hdg hc (k H locs ls hP hD hS hl)
theorem k_bipush (C : Cq l own cc nL G nm fr lo rc rs J) {n : Int} {v : Int32} (hdg : decode cc pc = .ok (.bipush n, 2)) (hv : (Int8.ofInt n).toInt32 = v) (k : J ws cells slots (pc + 2) lv (.int v :: st)) : J ws cells slots pc lv (st) := by
  obtain ⟨p, e, R, s, m, args, below, meth, c, A, Q, ⟨hx, hb, hml, hown, hts, hK, hNw, hAO, hA, hnm, hfr, hlo, hRc, hRs⟩, rfl⟩ := C
  intro H locs ls hP hD hS hl
  exact lv_bipush hx hb hdg hv (k H locs ls hP hD hS hl)
theorem k_sipush (C : Cq l own cc nL G nm fr lo rc rs J) {n : Int} {v : Int32} (hdg : decode cc pc = .ok (.sipush n, 3)) (hv : (Int16.ofInt n).toInt32 = v) (k : J ws cells slots (pc + 3) lv (.int v :: st)) : J ws cells slots pc lv (st) := by
  obtain ⟨p, e, R, s, m, args, below, meth, c, A, Q, ⟨hx, hb, hml, hown, hts, hK, hNw, hAO, hA, hnm, hfr, hlo, hRc, hRs⟩, rfl⟩ := C
  intro H locs ls hP hD hS hl
  exact lv_sipush hx hb hdg hv (k H locs ls hP hD hS hl)
theorem k_iconst (C : Cq l own cc nL G nm fr lo rc rs J) {n : Int} {v : Int32} (hdg : decode cc pc = .ok (.iconst n, 1)) (hv : Int32.ofInt n = v) (k : J ws cells slots (pc + 1) lv (.int v :: st)) : J ws cells slots pc lv (st) := by
  obtain ⟨p, e, R, s, m, args, below, meth, c, A, Q, ⟨hx, hb, hml, hown, hts, hK, hNw, hAO, hA, hnm, hfr, hlo, hRc, hRs⟩, rfl⟩ := C
  intro H locs ls hP hD hS hl
  exact lv_iconst hx hb hdg hv (k H locs ls hP hD hS hl)
theorem k_iload_n (C : Cq l own cc nL G nm fr lo rc rs J) {k9 : Fin 4} {i : Nat} {x : Int32} (hdg : decode cc pc = .ok (.iload_n k9, 1)) (hi : (k9 : Nat) = i) (hf : afind lv i = some (.int x)) (k : J ws cells slots (pc + 1) lv (.int x :: st)) : J ws cells slots pc lv (st) := by
  obtain ⟨p, e, R, s, m, args, below, meth, c, A, Q, ⟨hx, hb, hml, hown, hts, hK, hNw, hAO, hA, hnm, hfr, hlo, hRc, hRs⟩, rfl⟩ := C
  intro H locs ls hP hD hS hl
  exact lv_iload_n hx hb hdg hi (hl.2.2 _ _ hf) (k H locs ls hP hD hS hl)
theorem k_istore_n (C : Cq l own cc nL G nm fr lo rc rs J) {k9 : Fin 4} {i : Nat} {x : Int32} (hdg : decode cc pc = .ok (.istore_n k9, 1)) (hi : (k9 : Nat) = i) (hn : i < nL) (k : J ws cells slots (pc + 1) ((i, .int x) :: lv) st) : J ws cells slots pc lv (.int x :: st) := by
  obtain ⟨p, e, R, s, m, args, below, meth, c, A, Q, ⟨hx, hb, hml, hown, hts, hK, hNw, hAO, hA, hnm, hfr, hlo, hRc, hRs⟩, rfl⟩ := C
  intro H locs ls hP hD hS hl
  exact lv_istore_n hx hb hdg hi (alist_has hl) hn rfl (fun ls9 h9 => k H locs ls9 hP hD hS (lvOk_put1 hl rfl h9))
theorem k_astore_n (C : Cq l own cc nL G nm fr lo rc rs J) {k9 : Fin 4} {i : Nat} {x : Nat} (hdg : decode cc pc = .ok (.astore_n k9, 1)) (hi : (k9 : Nat) = i) (hn : i < nL) (k : J ws cells slots (pc + 1) ((i, .ref x) :: lv) st) : J ws cells slots pc lv (.ref x :: st) := by
  obtain ⟨p, e, R, s, m, args, below, meth, c, A, Q, ⟨hx, hb, hml, hown, hts, hK, hNw, hAO, hA, hnm, hfr, hlo, hRc, hRs⟩, rfl⟩ := C
  intro H locs ls hP hD hS hl
  exact lv_astore_n hx hb hdg hi (alist_has hl) hn rfl (fun ls9 h9 => k H locs ls9 hP hD hS (lvOk_put1 hl rfl h9))
theorem k_istore (C : Cq l own cc nL G nm fr lo rc rs J) {i : Nat} {x : Int32} (hdg : decode cc pc = .ok (.istore i, 2)) (hn : i < nL) (k : J ws cells slots (pc + 2) ((i, .int x) :: lv) st) : J ws cells slots pc lv (.int x :: st) := by
  obtain ⟨p, e, R, s, m, args, below, meth, c, A, Q, ⟨hx, hb, hml, hown, hts, hK, hNw, hAO, hA, hnm, hfr, hlo, hRc, hRs⟩, rfl⟩ := C
  intro H locs ls hP hD hS hl
  exact lv_istore hx hb hdg (alist_has hl) hn rfl (fun ls9 h9 => k H locs ls9 hP hD hS (lvOk_put1 hl rfl h9))
theorem k_iinc (C : Cq l own cc nL G nm fr lo rc rs J) {i : Nat} {n : Int} {x v : Int32} (hdg : decode cc pc = .ok (.iinc i n, 3)) (hf : afind lv i = some (.int x)) (hv : x + Int32.ofInt n = v) (k : J ws cells slots (pc + 3) ((i, .int v) :: lv) st) : J ws cells slots pc lv st := by
  obtain ⟨p, e, R, s, m, args, below, meth, c, A, Q, ⟨hx, hb, hml, hown, hts, hK, hNw, hAO, hA, hnm, hfr, hlo, hRc, hRs⟩, rfl⟩ := C
  intro H locs ls hP hD hS hl
  have hm := alist_mem hl hf
  obtain ⟨k9, hk9⟩ := List.getElem?_of_mem hm
  exact lv_iinc hx hb hdg (alist_has hl) hk9 hv (lvOk_lt hl hf) rfl (fun ls9 h9 => k H locs ls9 hP hD hS (lvOk_put1 hl rfl h9))
theorem k_goto (C : Cq l own cc nL G nm fr lo rc rs J) {off : Int} {tgt : Nat} (hdg : decode cc pc = .ok (.goto off, 3)) (ht : (pc : Int) + off = (tgt : Int)) (k : J ws cells slots tgt lv st) : J ws cells slots pc lv st := by
  obtain ⟨p, e, R, s, m, args, below, meth, c, A, Q, ⟨hx, hb, hml, hown, hts, hK, hNw, hAO, hA, hnm, hfr, hlo, hRc, hRs⟩, rfl⟩ := C
  intro H locs ls hP hD hS hl
  exact lv_goto hx hb hdg ht (k H locs ls hP hD hS hl)
theorem k_icmp_ge (C : Cq l own cc nL G nm fr lo rc rs J) {x y : Int32} {off : Int} {tgt : Nat} (hdg : decode cc pc = .ok (.if_icmp .ge off, 3)) (ht : (pc : Int) + off = (tgt : Int)) (kt : y ≤ x → J ws cells slots tgt lv st) (kf : ¬ y ≤ x → J ws cells slots (pc + 3) lv st) : J ws cells slots pc lv (.int y :: .int x :: st) := by
  obtain ⟨p, e, R, s, m, args, below, meth, c, A, Q, ⟨hx, hb, hml, hown, hts, hK, hNw, hAO, hA, hnm, hfr, hlo, hRc, hRs⟩, rfl⟩ := C
  intro H locs ls hP hD hS hl
  exact lv_icmp_ge hx hb hdg ht (fun q => kt q H locs ls hP hD hS hl) (fun q => kf q H locs ls hP hD hS hl)
theorem k_obj (C : Cq l own cc nL G nm fr lo rc rs J) {idx a : Nat} (hlk : Cond.methodLink own idx objectInit ∈ lw_all) (hdg : decode cc pc = .ok (.invokespecial idx, 3)) (hfr1 : 1 ≤ fr) (hlo1 : (st.map fun v => v.category).sum + 12 ≤ lo) (k : J ws cells slots (pc + 3) lv st) : J ws cells slots pc lv (.ref a :: st) := by
  obtain ⟨p, e, R, s, m, args, below, meth, c, A, Q, ⟨hx, hb, hml, hown, hts, hK, hNw, hAO, hA, hnm, hfr, hlo, hRc, hRs⟩, rfl⟩ := C
  intro H locs ls hP hD hS hl
  refine W.objInit hx hb hown (hts _ hlk) (hts _ in_oi) (hts _ in_oc) rfl (by rw [hml]; exact hl.1) rfl hdg (by rw [hfr]; exact hfr1) (by rw [hlo]; show 2 * 0 + _ + 12 ≤ lo; omega) ?_
  exact k H locs ls hP hD hS hl
theorem k_new (C : Cq l own cc nL G nm fr lo rc rs J) {idx ci N : Nat} {C0 : String} {T : u_T} (ty0 : Nat → FieldType) (hw : ∀ w ∈ u_ws C0 T N, w ∈ lw_all) (hty : ∀ k, k < N → parseFieldDescriptor (T k).2.2.1 = some (ty0 k)) (hck : Cond.classLink own idx C0 ∈ lw_all) (hnw : Cond.instantiable C0 N ∈ lw_all) (hik : Cond.initialized C0 ∈ lw_all) (hc : ncl[ci]? = some (C0, T, N)) (fs : List Value) (hfs : ∀ j, j < N → defaultValue (ty0 j) = vp_V fs j) (hcells : cells + 1 ≤ rc) (hslots : slots + N ≤ rs) (hdg : decode cc pc = .ok (.new idx, 3)) (k : ∀ q, J (ws ++ [(q, .inr (ci, fs))]) (cells + 1) (slots + N) (pc + 3) lv (.ref q :: st)) : J ws cells slots pc lv st := by
  obtain ⟨p, e, R, s, m, args, below, meth, c, A, Q, ⟨hx, hb, hml, hown, hts, hK, hNw, hAO, hA, hnm, hfr, hlo, hRc, hRs⟩, rfl⟩ := C
  intro H locs ls hP hD hS hl
  exact va_new hx hb hts hw ty0 hty hown (hts _ hck) (hts _ hnw) (hts _ hik) hK hP hD hS hA hc hfs (by omega) (by omega) hdg (fun q H1 hP1 hD1 hS1 => k q H1 locs ls hP1 hD1 hS1 hl)
theorem k_newa (C : Cq l own cc nL G nm fr lo rc rs J) {atype : ArrayType} {ty : FieldType} (t0 : Nat) (hty : newarray.typeOf atype = ty) (harr : Cond.arrayClass ty ∈ lw_all) (ht : (gtys G)[t0]? = some (G.2.2.1 t0, ty)) {n : Int32} (N' : Nat) (a0 : vp_A) (ha : ∀ cA : ClassId, vp_cell cA a0 = arrV cA N' (fun _ => defaultValue ty)) (hn : ¬ n < 0) (hN : n.toNatClampNeg = N') (hby : N' * componentBytes ty ≤ 536870912) (hcells : cells + 1 ≤ rc) (hslots : slots + N' ≤ rs) (hdg : decode cc pc = .ok (.newarray atype, 2)) (k : ∀ q, J (ws ++ [(q, .inl (G.2.2.1 t0, a0))]) (cells + 1) (slots + N') (pc + 2) lv (.ref q :: st)) : J ws cells slots pc lv (.int n :: st) := by
  obtain ⟨p, e, R, s, m, args, below, meth, c, A, Q, ⟨hx, hb, hml, hown, hts, hK, hNw, hAO, hA, hnm, hfr, hlo, hRc, hRs⟩, rfl⟩ := C
  intro H locs ls hP hD hS hl
  refine va_newa hx hb (hts _ (by rw [hty]; exact harr)) hty hK hP hD hS hA ha hn hN hby (by omega) (by omega) hdg (fun q cA H1 hK1 hP1 hD1 hS1 => ?_)
  have e1 : cA = G.2.2.1 t0 := ra_one (hK1.2 (gtys G).length (cA, ty) (by simp)).2 (hK.2 t0 _ ht).2
  subst e1
  exact k q H1 locs ls hP1 hD1 hS1 hl
theorem k_mna (C : Cq l own cc nL G nm fr lo rc rs J) {idx : Nat} (hck : Cond.classLink own idx "[[I" ∈ lw_all) {n k9 : Int32} (N' K' : Nat) (hn : ¬ n < 0) (hk : ¬ k9 < 0) (hN : n.toNatClampNeg = N') (hM : k9.toNatClampNeg = K') (hb1 : N' * 4 ≤ 536870912) (hb2 : K' * 4 ≤ 536870912) (hb3 : K' ≤ 536870912) (hcells : cells + (1 + N') ≤ rc) (hslots : slots + (N' + N' * K') ≤ rs) (hdg : decode cc pc = .ok (.multianewarray idx 2, 4)) (k : ∀ (q : Nat) (r : Nat → Nat), J (ws ++ [(q, .inl (G.2.2.1 3, N', .inr (.inr (.inr (.inr (fun i => if i < N' then some (r i) else none))))))] ++ (List.range N').map (fun i => (r i, .inl (G.2.2.1 0, K', .inl (fun _ => 0))))) (cells + 1 + N') (slots + N' + N' * K') (pc + 4) lv (.ref q :: st)) : J ws cells slots pc lv (.int k9 :: .int n :: st) := by
  obtain ⟨p, e, R, s, m, args, below, meth, c, A, Q, ⟨hx, hb, hml, hown, hts, hK, hNw, hAO, hA, hnm, hfr, hlo, hRc, hRs⟩, rfl⟩ := C
  intro H locs ls hP hD hS hl
  have hcy : s.vm.findClass (FieldType.array .int).toString = some (G.2.2.1 0) := (hK.2 0 _ rfl).2
  have e0 : ws ++ va_pl [] (fun _ => (.inr (0, []) : va_E)) = ws := by simp [va_pl]
  refine va_mna (X := ws) (L := []) (f := fun _ => .inr (0, [])) (ty := .int) (z := (K', .inl (fun _ => 0))) hx hb hown (hts _ hck) hAO (hts _ in_aI) hcy hK (by rw [e0]; exact hP) (by rw [e0]; exact hD) hS hA hn hk hN hM hb1 hb2 hb3 rfl rfl (by omega) (by omega) (fun c9 => ?_) hdg (fun q r cA H1 _ _ hK1 hP1 hD1 hS1 => ?_)
  · rw [vp_cell_i]
    unfold Jvm.Free.Multi.innerC
    exact arrV_new _ _ _
  · have e1 : cA = G.2.2.1 3 := ra_one (hK1.2 (gtys G).length (cA, .array .int) (by simp)).2 (hK.2 3 _ rfl).2
    subst e1
    have e2 : va_pl ([] ++ (List.range N').map r) (vr_up (fun _ => (.inr (0, []) : va_E)) ((List.range N').map r) (.inl (G.2.2.1 0, K', .inl (fun _ => 0)))) = (List.range N').map (fun i => (r i, (.inl (G.2.2.1 0, K', .inl (fun _ => 0)) : va_E))) := by
      unfold va_pl
      rw [List.nil_append, List.map_map]
      refine List.map_congr_left (fun a ha => ?_)
      show (r a, vr_up _ _ _ (r a)) = _
      rw [vr_up_in (List.mem_map_of_mem ha)]
    rw [e2] at hP1 hD1
    exact k q r H1 locs ls hP1 hD1 hS1 hl
theorem k_put (C : Cq l own cc nL G nm fr lo rc rs J) {idx ci N a : Nat} {ref C0 : String} {T : u_T} (i0 : Nat) {fs : List Value} (he : ws[i0]? = some (a, .inr (ci, fs))) (ty0 : Nat → FieldType) (hw : ∀ w ∈ u_ws C0 T N, w ∈ lw_all) (hty : ∀ k, k < N → parseFieldDescriptor (T k).2.2.1 = some (ty0 k)) (hnm9 : ∀ a, a < N → ∀ b, b < N → a ≠ b → (T a).2.1 ≠ (T b).2.1) (hc : ncl[ci]? = some (C0, T, N)) (k : Nat) (hk : k < N) (hlink : Cond.fieldLink own idx ref (T k).2.1 (T k).2.2.1 ∈ lw_all) (hsame : ∀ (s : State) x, s.fieldFound? (T k).1 (T k).2.1 (T k).2.2.1 = some x → s.fieldFound? ref (T k).2.1 (T k).2.2.1 = some x) (hfin : (T k).2.2.2 = false ∨ ((T k).2.2.2 = true ∧ nm = "<init>" ∧ (T k).1 = own)) {ty : FieldType} {v : Value} (hd : parseFieldDescriptor (T k).2.2.1 = some ty) (hn : narrow ty v = v) (hfit : fits ty v = true) (hl9 : k < fs.length) (hdg : decode cc pc = .ok (.putfield idx, 3)) (kk : J (ws.set i0 (a, .inr (ci, fs.set k v))) cells slots (pc + 3) lv st) : J ws cells slots pc lv (v :: .ref a :: st) := by
  obtain ⟨p, e, R, s, m, args, below, meth, c, A, Q, ⟨hx, hb, hml, hown, hts, hK, hNw, hAO, hA, hnm, hfr, hlo, hRc, hRs⟩, rfl⟩ := C
  intro H locs ls hP hD hS hl
  rcases hfin with hf | ⟨hf, h1, h2⟩
  · exact va_put hx hb hts hw ty0 hty hnm9 hown hK hP hD hS i0 he hc k hk (hts _ hlink) (hsame s) hf hd hn hfit hl9 hdg (fun H1 locs1 hP1 hD1 hS1 => kk H1 locs1 ls hP1 hD1 hS1 hl)
  · exact va_putF hx hb hts hw ty0 hty hnm9 hown hK hP hD hS i0 he hc k hk (hts _ hlink) (hsame s) hf (hnm.trans h1) h2 hd hn hfit hl9 hdg (fun H1 locs1 hP1 hD1 hS1 => kk H1 locs1 ls hP1 hD1 hS1 hl)
theorem k_get (C : Cq l own cc nL G nm fr lo rc rs J) {idx ci N a : Nat} {ref C0 : String} {T : u_T} (i0 : Nat) {fs : List Value} (he : ws[i0]? = some (a, .inr (ci, fs))) (hw : ∀ w ∈ u_ws C0 T N, w ∈ lw_all) (hc : ncl[ci]? = some (C0, T, N)) (k : Nat) (hk : k < N) (hlink : Cond.fieldLink own idx ref (T k).2.1 (T k).2.2.1 ∈ lw_all) (hsame : ∀ (s : State) x, s.fieldFound? (T k).1 (T k).2.1 (T k).2.2.1 = some x → s.fieldFound? ref (T k).2.1 (T k).2.2.1 = some x) {v : Value} (hv : fs[k]? = some v) (hdg : decode cc pc = .ok (.getfield idx, 3)) (kk : J ws cells slots (pc + 3) lv (v :: st)) : J ws cells slots pc lv (.ref a :: st) := by
  obtain ⟨p, e, R, s, m, args, below, meth, c, A, Q, ⟨hx, hb, hml, hown, hts, hK, hNw, hAO, hA, hnm, hfr, hlo, hRc, hRs⟩, rfl⟩ := C
  intro H locs ls hP hD hS hl
  exact va_get hx hb hts hw hown hK hP i0 he hc k hk (hts _ hlink) (hsame s) hv hdg (kk H locs ls hP hD hS hl)
theorem k_alen (C : Cq l own cc nL G nm fr lo rc rs J) {a n : Nat} (i0 : Nat) {f : Nat → Int32} (he : ws[i0]? = some (a, .inl (G.2.2.1 0, n, .inl f))) (hdg : decode cc pc = .ok (.arraylength, 1)) (kk : J ws cells slots (pc + 1) lv (.int (nI n) :: st)) : J ws cells slots pc lv (.ref a :: st) := by
  obtain ⟨p, e, R, s, m, args, below, meth, c, A, Q, ⟨hx, hb, hml, hown, hts, hK, hNw, hAO, hA, hnm, hfr, hlo, hRc, hRs⟩, rfl⟩ := C
  intro H locs ls hP hD hS hl
  exact va_alen hx hb hK hP i0 0 he rfl rfl hdg (kk H locs ls hP hD hS hl)
theorem k_iast (C : Cq l own cc nL G nm fr lo rc rs J) {a n : Nat} (i0 : Nat) {f : Nat → Int32} (he : ws[i0]? = some (a, .inl (G.2.2.1 0, n, .inl f))) (j : Nat) {x : Int32} (hj : j < n) (hn : n < 2 ^ 31) (hdg : decode cc pc = .ok (.iastore, 1)) (kk : J (ws.set i0 (a, .inl (G.2.2.1 0, n, .inl (upd f j x)))) cells slots (pc + 1) lv st) : J ws cells slots pc lv (.int x :: .int (nI j) :: .ref a :: st) := by
  obtain ⟨p, e, R, s, m, args, below, meth, c, A, Q, ⟨hx, hb, hml, hown, hts, hK, hNw, hAO, hA, hnm, hfr, hlo, hRc, hRs⟩, rfl⟩ := C
  intro H locs ls hP hD hS hl
  refine va_iast hx hb hK hP hD hS i0 0 he rfl (vp_in_nI hj hn) hdg (fun H1 locs1 hP1 hD1 hS1 => ?_)
  rw [nI_clamp (by omega)] at hP1 hD1
  exact kk H1 locs1 ls hP1 hD1 hS1 hl
theorem k_ret {S : va_W → Prop} (C : Cr l own cc nL G nm fr lo rc rs S J) (hdg : decode cc pc = .ok (.return_, 1)) (hS9 : S ws) : J ws rc rs pc lv [] := by
  obtain ⟨p, e, s, m, args, below, meth, c, A, ⟨hx, hb, hml, hown, hts, hK, hNw, hAO, hA, hnm, hfr, hlo, hRc, hRs⟩, hr, hlocks, rfl⟩ := C
  intro H locs ls hP hD hS hl
  exact W.vret hx hb hr (fun t ht hW => ⟨⟨ws, rfl, hS9, by rw [ht]; exact hP, hD⟩, hS.F ht⟩) hS.2.2 hdg
theorem kPr.blind {ar : List Value} {sz : Nat} {w0 : va_W} : FrameBlind (va_Pc ar (kPr G sz w0)) := by
  intro a U g mk h
  obtain ⟨h1, h2, h3, h4, h5, h6, h7⟩ := h
  exact ⟨h1, h2, h3, va_K.moved (u := U) (U := U.calling g mk a) (Vm.Alike.refl U.vm) h4, zNw.same (u := U) (U := U.calling g mk a) rfl h5, va_AOA.moved (u := U) (U := U.calling g mk a) (Vm.Alike.refl U.vm) h6, h7⟩
theorem subP {D : va_G} {cl : List vw_C} {ws wc : va_W} {H : Heap} (hP : va_P D cl ws H) (isC : List Nat) (hC : isC.map (fun i => ws[i]?) = wc.map some) : va_P D cl wc H := by
  intro k q h
  have h1 : (isC.map (fun i => ws[i]?))[k]? = some (some q) := by rw [hC, List.getElem?_map, h]; rfl
  rw [List.getElem?_map] at h1
  cases hi : isC[k]? with
  | none => rw [hi] at h1; cases h1
  | some i => rw [hi] at h1; exact hP i q (Option.some.inj h1)
theorem kPr.go {s U : State} {A : Nat → Prop} {H : Heap} {wc : va_W} (isC : List Nat) (hP : va_P G.1 ncl ws H) (hD : va_D A ws) (hC : isC.map (fun i => ws[i]?) = wc.map some) (hnC : va_nd isC = true) (hK : va_K G.1 ncl (gtys G) s) (hNw : zNw s) (hAO : va_AOA .int s) (hU : U.heap = H) (hW : s.WarmedH U.vm) : kPr G H.size wc U := by
  subst hU
  exact ⟨rfl, subP hP isC hC, va_K.moved hW.alike hK, zNw.warm hW hNw, va_AOA.moved hW.alike hAO, (hD.sub isC hnC hC).weaken (fun _ _ _ _ => trivial)⟩
theorem kcall {p : Program} {e : Env} {R : Room} {s : State} {m : MethodId} {args : Array Value} {below : List Frame} {meth : Method} {c : Code} {A : Nat → Prop} {Q : State → Prop} {H : Heap} {locs : List Loc} {ls : Array Slot} {st0 rest : List Value} {S : va_W → Prop} {wc wr : va_W} {a : Array Value} {mc ms : Nat} (isC isR : List Nat) (hC : isC.map (fun i => ws[i]?) = wc.map some) (hR : isR.map (fun i => ws[i]?) = wr.map some) (hn : va_nd isR = true) (hdis : ∀ i ∈ isR, i ∉ isC)
    (hr : va_Run p l e R s m args below meth c H locs cells slots mc ms (F0 m pc ls st0) rest (va_Qv S (at0 G (va_A wc H.size)) (va_A wc H.size) a) (va_A wc H.size))
    (hP : va_P G.1 ncl ws H) (hD : va_D A ws) (hS : va_S A s.heap H locs) (hl : lvOk ls nL lv) (hA : ∀ q, s.heap.size ≤ q → A q)
    (kk : ∀ w1, S w1 → Jk p l e R s m args below meth c G A nL Q (wr ++ w1) (cells + mc) (slots + ms) (pc + 3) lv rest) : W p l e R s m args below meth c H locs cells slots Q (F0 m pc ls st0) := by
  have hFc := va_free hD hS hA isC hC
  refine va_callv hr hS (fun q _ h => hFc q h) hFc (fun u t H1 locs1 ht hvm hu hB hz1 hk1 hS1 => ?_)
  obtain ⟨hP1, hD1⟩ := hB
  rw [ht] at hP1
  obtain ⟨hP2, hD2⟩ := va_join hP hD isC isR hC hR hn hdis hk1 hFc hP1 hD1
  exact kk u hu H1 locs1 ls hP2 hD2 hS1 hl
theorem k_callI (C : Cq l own cc nL G nm fr lo rc rs J) {idx b mc ms fr' lo' n0 : Nat} {y : MethodName} {bc : ByteArray} {S : va_W → Prop} {wc wr : va_W} (hM : ConK l y bc n0 fr' lo' mc ms [.ref b] G wc S) (isC isR : List Nat) (hC : isC.map (fun i => ws[i]?) = wc.map some) (hnC : va_nd isC = true) (hR : isR.map (fun i => ws[i]?) = wr.map some) (hn : va_nd isR = true) (hdis : ∀ i ∈ isR, i ∉ isC) (hcw : Cond.code y bc n0 none ∈ lw_all) (him : Cond.instanceMethod y ∈ lw_all) (hik : Cond.initialized y.cls ∈ lw_all) (hlk : Cond.methodLink own idx y ∈ lw_all) (hy : y.name = "<init>") (hy2 : y.cls ≠ "java/lang/invoke/MethodHandle" ∧ y.cls ≠ "java/lang/invoke/VarHandle" ∧ (parseMethodDescriptor y.desc).map (fun d => d.parameters.length) = some 0) (hdg : decode cc pc = .ok (.invokespecial idx, 3)) (hR9 : fr' + 1 ≤ fr ∧ 8 + (n0 + 11) + lo' ≤ lo) (hc9 : cells + mc ≤ rc) (hs9 : slots + ms ≤ rs) (hs8 : (st.map fun v => v.category).sum ≤ 8) (kk : ∀ w1, S w1 → J (wr ++ w1) (cells + mc) (slots + ms) (pc + 3) lv st) : J ws cells slots pc lv (.ref b :: st) := by
  obtain ⟨p, e, R, s, m, args, below, meth, c, A, Q, ⟨hx, hb, hml, hown, hts, hK, hNw, hAO, hA, hnm, hfr, hlo, hRc, hRs⟩, rfl⟩ := C
  intro H locs ls hP hD hS hl
  exact kcall isC isR hC hR hn hdis (va_runI (As := []) (rest := st) ⟨hx, hb, hml, hown, hts⟩ (hM H.size) (cwI 0 hts (good_all hcw) rfl rfl rfl (hts _ hik) (hts _ hlk) (hts _ him) hy hy2 (by rw [hfr, hlo]; exact hR9)) ⟨kPr.blind, fun U hU hW => ⟨rfl, kPr.go isC hP hD hC hnC hK hNw hAO hU hW⟩⟩ rfl rfl hl.1 rfl (lv_room hs8) hdg ⟨by omega, by omega⟩) hP hD hS hl hA kk
theorem k_callIN (C : Cq l own cc nL G nm fr lo rc rs J) {idx b mc ms fr' lo' n0 : Nat} {host : String} {y : MethodName} {bc : ByteArray} {S : va_W → Prop} {wc wr : va_W} (hM : ConK l y bc n0 fr' lo' mc ms [.ref b] G wc S) (isC isR : List Nat) (hC : isC.map (fun i => ws[i]?) = wc.map some) (hnC : va_nd isC = true) (hR : isR.map (fun i => ws[i]?) = wr.map some) (hn : va_nd isR = true) (hdis : ∀ i ∈ isR, i ∉ isC) (hcw : Cond.code y bc n0 none ∈ lw_all) (him : Cond.instanceMethod y ∈ lw_all) (hik : Cond.initialized y.cls ∈ lw_all) (hlk : Cond.methodLinkNest own idx y host ∈ lw_nst) (hy : y.name = "<init>") (hy2 : y.cls ≠ "java/lang/invoke/MethodHandle" ∧ y.cls ≠ "java/lang/invoke/VarHandle" ∧ (parseMethodDescriptor y.desc).map (fun d => d.parameters.length) = some 0) (hdg : decode cc pc = .ok (.invokespecial idx, 3)) (hR9 : fr' + 1 ≤ fr ∧ 8 + (n0 + 11) + lo' ≤ lo) (hc9 : cells + mc ≤ rc) (hs9 : slots + ms ≤ rs) (hs8 : (st.map fun v => v.category).sum ≤ 8) (kk : ∀ w1, S w1 → J (wr ++ w1) (cells + mc) (slots + ms) (pc + 3) lv st) : J ws cells slots pc lv (.ref b :: st) := by
  obtain ⟨p, e, R, s, m, args, below, meth, c, A, Q, ⟨hx, hb, hml, hown, hts, hK, hNw, hAO, hA, hnm, hfr, hlo, hRc, hRs⟩, rfl⟩ := C
  intro H locs ls hP hD hS hl
  exact kcall isC isR hC hR hn hdis (va_runIN (As := []) (rest := st) ⟨hx, hb, hml, hown, hts⟩ (hM H.size) ⟨va_cnB 0 hts (good_all hcw) rfl rfl rfl (hNw.1 _ hlk) (hts _ hik) hy2 (by rw [hfr, hlo]; exact hR9), hy, hts _ him⟩ ⟨kPr.blind, fun U hU hW => ⟨rfl, kPr.go isC hP hD hC hnC hK hNw hAO hU hW⟩⟩ rfl rfl hl.1 rfl (lv_room hs8) hdg ⟨by omega, by omega⟩) hP hD hS hl hA kk
theorem k_callS (C : Cq l own cc nL G nm fr lo rc rs J) {idx mc ms fr' lo' n0 na : Nat} {y : MethodName} {bc : ByteArray} {S : va_W → Prop} {wc wr : va_W} {ar stk : List Value} (hM : ConK l y bc n0 fr' lo' mc ms ar G wc S) (isC isR : List Nat) (hC : isC.map (fun i => ws[i]?) = wc.map some) (hnC : va_nd isC = true) (hR : isR.map (fun i => ws[i]?) = wr.map some) (hn : va_nd isR = true) (hdis : ∀ i ∈ isR, i ∉ isC) (hcw : Cond.code y bc n0 none ∈ lw_all) (hst9 : Cond.static y ∈ lw_all) (hik : Cond.initialized y.cls ∈ lw_all) (hlk : Cond.methodLink own idx y ∈ lw_all) (hy2 : y.cls ≠ "java/lang/invoke/MethodHandle" ∧ y.cls ≠ "java/lang/invoke/VarHandle" ∧ (parseMethodDescriptor y.desc).map (fun d => d.parameters.length) = some na) (hna : ar.length = na) (hstk : stk = ar.reverse ++ st) (hdg : decode cc pc = .ok (.invokestatic idx, 3)) (hR9 : fr' + 1 ≤ fr ∧ 8 + (n0 + 11) + lo' ≤ lo) (hc9 : cells + mc ≤ rc) (hs9 : slots + ms ≤ rs) (hs8 : (st.map fun v => v.category).sum ≤ 8) (kk : ∀ w1, S w1 → J (wr ++ w1) (cells + mc) (slots + ms) (pc + 3) lv st) : J ws cells slots pc lv stk := by
  obtain ⟨p, e, R, s, m, args, below, meth, c, A, Q, ⟨hx, hb, hml, hown, hts, hK, hNw, hAO, hA, hnm, hfr, hlo, hRc, hRs⟩, rfl⟩ := C
  intro H locs ls hP hD hS hl
  subst hstk
  exact kcall isC isR hC hR hn hdis (va_runS (As := ar) (rest := st) ⟨hx, hb, hml, hown, hts⟩ (hM H.size) ⟨callB_of na hts (good_all hcw) rfl rfl rfl (hts _ hik) (hts _ hlk) hy2 (by rw [hfr, hlo]; exact hR9), hts _ hst9⟩ ⟨kPr.blind, fun U hU hW => ⟨rfl, kPr.go isC hP hD hC hnC hK hNw hAO hU hW⟩⟩ rfl hna hl.1 rfl (lv_room hs8) hdg ⟨by omega, by omega⟩) hP hD hS hl hA kk
end ZK
theorem conK_of {l : Launch} {y : MethodName} {cc : ByteArray} {nL fr lo mc ms : Nat} {ar : List Value} {G : Geo} {w0 : va_W} {S : va_W → Prop} {lv : List (Nat × Value)} (hy : plainName y.cls = true) (hlv : lv_args 0 ar = lv) (hsl : (lg_sl ar).length ≤ nL)
    (body : ∀ (J : JK), Cr l y.cls cc nL G y.name fr lo mc ms S J → J w0 0 0 0 lv []) : ConK l y cc nL fr lo mc ms ar G w0 S := by
  intro sz
  refine Met.ofW (cc := cc) (maxL := nL) (ret := none) hy rfl ?_
  intro p e s m args below meth c s₁ B hml hv
  obtain ⟨rfl, rfl, hP, hK, hNw, hAO, hD0⟩ := hv
  have hts := atoms_spec (ws := ws_ y cc nL none) B.pre
  have hown : s.vm.findClass y.cls = some m.cls := findClass_of_methodNamed B.named
  have hb := body _ ⟨p, e, s, m, ar.toArray, below, meth, c, va_A w0 s.heap.size, ⟨B.exec, B.bytes, hml, hown, fun w h => hts w (List.mem_cons_of_mem _ h), hK, hNw, hAO, fun q h => Or.inr h, (name_of_methodNamed B.named B.method).1, rfl, rfl, rfl, rfl⟩, B.returns, B.notSynchronized, rfl⟩
  have hl := lv_entry ar (n := nL) hsl
  rw [lg_entry_eq]
  rw [hlv] at hl
  exact hb s.heap [] _ hP hD0.self va_S.rf (lvOk_of hl)
