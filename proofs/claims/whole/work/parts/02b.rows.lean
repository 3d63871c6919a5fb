/-! ===== a judgement over the pool; contracts ===== -/
/-- all words of the tables that a method's call keeps -/
def lw_all : List Cond := lw_tbl.filter goodWord
/-- the words of nest mates -/
def zNst : Cond → Bool
  | .fieldLinkNest .. => true
  | .methodLinkNest .. => true
  | _ => false
def lw_nst : List Cond := lw_tbl.filter zNst
def zStr : Cond → Bool
  | .stringRef .. => true
  | _ => false
def lw_str : List Cond := lw_tbl.filter zStr
theorem in_all {w : Cond} {i : Nat} (h : lw_tbl[i]? = some w) (hg : goodWord w = true) : w ∈ lw_all := List.mem_filter.mpr ⟨List.mem_of_getElem? h, hg⟩
theorem in_nst {w : Cond} {i : Nat} (h : lw_tbl[i]? = some w) (hg : zNst w = true) : w ∈ lw_nst := List.mem_filter.mpr ⟨List.mem_of_getElem? h, hg⟩
theorem in_str {w : Cond} {i : Nat} (h : lw_tbl[i]? = some w) (hg : zStr w = true) : w ∈ lw_str := List.mem_filter.mpr ⟨List.mem_of_getElem? h, hg⟩
/-- what a state's tables hold beside the good words -/
def zNw (U : State) : Prop := (∀ w ∈ lw_nst, va_Nw w U) ∧ ∀ own k tx, Cond.stringRef own k tx ∈ lw_str → ∃ a, vk_R own k tx a U
theorem zNw.warm {s U : State} (hW : s.WarmedH U.vm) (h : zNw s) : zNw U := by
  refine ⟨fun w hw => ?_, fun own k tx hw => ?_⟩
  · have h0 := (List.mem_filter.mp hw).2
    have h1 := h.1 w hw
    cases w <;> first | exact va_Nw.warmF hW h1 | exact va_Nw.warmM hW h1 | (simp [zNst] at h0)
  · obtain ⟨a, ha⟩ := h.2 own k tx hw
    exact ⟨a, ha.warm hW⟩
theorem zNw.same {u U : State} (hv : u.vm = U.vm) (h : zNw u) : zNw U := by
  refine ⟨fun w hw => ?_, fun own k tx hw => ?_⟩
  · have h0 := (List.mem_filter.mp hw).2
    have h1 := h.1 w hw
    cases w <;> first | exact va_Nw.same rfl hv h1 | (simp [zNst] at h0)
  · obtain ⟨a, ha⟩ := h.2 own k tx hw
    exact ⟨a, ha.same hv.symm⟩
/-- the two statics that a new exception reads -/
def zZs (A : Nat → Prop) (U : State) (H : Heap) : Prop := vx_Zq Bundle.tN "UNASSIGNED_STACK" Bundle.steD A U H ∧ vx_Zq Bundle.tN "SUPPRESSED_SENTINEL" Bundle.listD A U H
/-- which cells a method may change: the pool's, and those that are new -/
def zA (G : Geo) (sz : Nat) : Nat → Prop := fun q => (∃ k, k < 60 ∧ q = G.2.1 k) ∨ sz ≤ q
def zWD (G : Geo) (X : St) (A : Nat → Prop) (H : Heap) : Prop := va_P G.1 ncl (wsX G X) H ∧ va_D A (wsX G X)
/-- what holds at a method's start -/
def zPK (G : Geo) (X : St) (sz : Nat) (U : State) : Prop := U.heap.size = sz ∧ zWD G X (zA G sz) U.heap ∧ va_K G.1 ncl (gtys G) U ∧ zNw U ∧ zZs (zA G sz) U U.heap
/-- what holds at its end -/
def zQK (G : Geo) (A : Nat → Prop) (K : Option Value → St → Prop) : Array Value → State → Outcome → State → Prop := fun _ st oc t => (∃ (v : Option Value) (X' : St), oc = .returned v ∧ K v X' ∧ zWD G X' A t.heap) ∧ va_F A st t
def zXK (G : Geo) (A : Nat → Prop) (KX : String → St → Prop) : String → State → State → Prop := fun E st t => (∃ X' : St, KX E X' ∧ zWD G X' A t.heap) ∧ va_F A st t
abbrev ws_ (y : MethodName) (cc : ByteArray) (n : Nat) (ret : Option FieldType) : List Cond := .code y cc n ret :: lw_all
abbrev wsH_ (y : MethodName) (cc : ByteArray) (n : Nat) (ret : Option FieldType) (hh : List (Nat × Nat × Nat × Nat)) : List Cond := .codeWith y cc n ret hh :: lw_all
abbrev zRm (fr lo u : Nat) : Room := { frames := fr, cells := u, slots := 6 * u, locals := lo }
/-- A CONTRACT: from the state X, method y on the arguments ar ends with K of its answer and state, or throws with KX; fr frames, lo words, u exceptions -/
def Con (l : Launch) (y : MethodName) (cc : ByteArray) (n : Nat) (ret : Option FieldType) (fr lo u : Nat) (ar : Geo → List Value) (X : St) (K : Option Value → St → Prop) (KX : String → St → Prop) : Prop :=
  ∀ (G : Geo) (sz : Nat), vx_Met l y (ws_ y cc n ret) (zRm fr lo u) (va_Pc (ar G) (zPK G X sz)) (zQK G (zA G sz) K) (zXK G (zA G sz) KX) u (6 * u) (zA G sz)
def ConH (l : Launch) (y : MethodName) (cc : ByteArray) (n : Nat) (ret : Option FieldType) (hh : List (Nat × Nat × Nat × Nat)) (fr lo u : Nat) (ar : Geo → List Value) (X : St) (K : Option Value → St → Prop) (KX : String → St → Prop) : Prop :=
  ∀ (G : Geo) (sz : Nat), vx_Met l y (wsH_ y cc n ret hh) (zRm fr lo u) (va_Pc (ar G) (zPK G X sz)) (zQK G (zA G sz) K) (zXK G (zA G sz) KX) u (6 * u) (zA G sz)
/-- never -/
def kF : String → St → Prop := fun _ _ => False
def kI (P : Int32 → St → Prop) : Option Value → St → Prop := fun v X => ∃ r, v = some (.int r) ∧ P r X
def kL (P : Int64 → St → Prop) : Option Value → St → Prop := fun v X => ∃ r, v = some (.long r) ∧ P r X
def kD (P : UInt64 → St → Prop) : Option Value → St → Prop := fun v X => ∃ r, v = some (.double r) ∧ P r X
def kV (P : St → Prop) : Option Value → St → Prop := fun v X => v = none ∧ P X
/-- where a walk stands: the program, the method, its start -/
def zCx (p : Program) (l : Launch) (R : Room) (s : State) (m : MethodId) (args : Array Value) (c : Code) (A : Nat → Prop) (own : String) (cc : ByteArray) (nL : Nat) (G : Geo) (fr lo um c0 s0 : Nat) : Prop :=
  p.tables.exec = Jvm.exec ∧ c.code = cc ∧ c.maxLocals = nL ∧ s.vm.findClass own = some m.cls ∧ (∀ w ∈ lw_all, w.before args s = true) ∧ va_K G.1 ncl (gtys G) s ∧ zNw s ∧ (∀ q, s.heap.size ≤ q → A q) ∧ zZs A s s.heap ∧ l.stackTraces = false ∧ R.frames = fr ∧ R.locals = lo ∧ c0 + um ≤ R.cells ∧ s0 + 6 * um ≤ R.slots
def Jw (p : Program) (l : Launch) (e : Env) (R : Room) (s : State) (m : MethodId) (args : Array Value) (below : List Frame) (meth : Method) (c : Code) (G : Geo) (A : Nat → Prop) (nL c0 s0 : Nat) (Q : State → Prop) (X : St) (u pc : Nat) (lv : List (Nat × Value)) (st : List Value) : Prop :=
  ∀ (H : Heap) (locs : List Loc) (ls : Array Slot), va_P G.1 ncl (wsX G X) H → va_D A (wsX G X) → va_S A s.heap H locs → lvOk ls nL lv → W p l e R s m args below meth c H locs (c0 + u) (s0 + 6 * u) Q (F0 m pc ls st)
def Jx (p : Program) (l : Launch) (e : Env) (R : Room) (s : State) (m : MethodId) (args : Array Value) (below : List Frame) (meth : Method) (c : Code) (G : Geo) (A : Nat → Prop) (nL c0 s0 : Nat) (Q : State → Prop) (X : St) (u pc : Nat) (lv : List (Nat × Value)) (E : String) : Prop :=
  ∀ (H : Heap) (locs : List Loc) (ls : Array Slot) (q : Addr) (ce : Cell) (rest : List Value), va_P G.1 ncl (wsX G X) H → va_D A (wsX G X) → va_S A s.heap H locs → lvOk ls nL lv → H[q]? = some ce → ce.vm = .none → s.vm.findClass E = some ce.cls → vx_W p l e R s m args below meth c H locs (c0 + u) (s0 + 6 * u) Q (F0 m pc ls rest) q
abbrev JT : Type := St → Nat → Nat → List (Nat × Value) → List Value → Prop
abbrev JXT : Type := St → Nat → Nat → List (Nat × Value) → String → Prop
/-- THE CONTEXT of a walk's rows -/
def Cb (l : Launch) (own : String) (cc : ByteArray) (nL : Nat) (G : Geo) (fr lo um : Nat) (J : JT) (JX : JXT) : Prop :=
  ∃ (p : Program) (e : Env) (R : Room) (s : State) (m : MethodId) (args : Array Value) (below : List Frame) (meth : Method) (c : Code) (A : Nat → Prop) (c0 s0 : Nat) (Q : State → Prop), zCx p l R s m args c A own cc nL G fr lo um c0 s0 ∧ J = Jw p l e R s m args below meth c G A nL c0 s0 Q ∧ JX = Jx p l e R s m args below meth c G A nL c0 s0 Q
section ZJ
variable {l : Launch} {own : String} {cc : ByteArray} {nL : Nat} {G : Geo} {fr lo um : Nat} {J : JT} {JX : JXT} {X : St} {u pc : Nat} {lv : List (Nat × Value)} {st : List Value}

theorem r_iconst (C : Cb l own cc nL G fr lo um J JX) {n : Int} {v : Int32} (hdg : decode cc pc = .ok (.iconst n, 1)) (hv : Int32.ofInt n = v) (k : J X u (pc + 1) lv (.int v :: st)) : J X u pc lv (st) := by
  obtain ⟨p, e, R, s, m, args, below, meth, c, A, c0, s0, Q, ⟨hx, hb, hml, hown, hts, hK, hNw, hA, hZs, hfl, hfr, hlo, hRc, hRs⟩, rfl, rfl⟩ := C
  intro H locs ls hP hD hS hl
  exact lv_iconst hx hb hdg hv (k H locs ls hP hD hS hl)
theorem r_bipush (C : Cb l own cc nL G fr lo um J JX) {n : Int} {v : Int32} (hdg : decode cc pc = .ok (.bipush n, 2)) (hv : (Int8.ofInt n).toInt32 = v) (k : J X u (pc + 2) lv (.int v :: st)) : J X u pc lv (st) := by
  obtain ⟨p, e, R, s, m, args, below, meth, c, A, c0, s0, Q, ⟨hx, hb, hml, hown, hts, hK, hNw, hA, hZs, hfl, hfr, hlo, hRc, hRs⟩, rfl, rfl⟩ := C
  intro H locs ls hP hD hS hl
  exact lv_bipush hx hb hdg hv (k H locs ls hP hD hS hl)
theorem r_sipush (C : Cb l own cc nL G fr lo um J JX) {n : Int} {v : Int32} (hdg : decode cc pc = .ok (.sipush n, 3)) (hv : (Int16.ofInt n).toInt32 = v) (k : J X u (pc + 3) lv (.int v :: st)) : J X u pc lv (st) := by
  obtain ⟨p, e, R, s, m, args, below, meth, c, A, c0, s0, Q, ⟨hx, hb, hml, hown, hts, hK, hNw, hA, hZs, hfl, hfr, hlo, hRc, hRs⟩, rfl, rfl⟩ := C
  intro H locs ls hP hD hS hl
  exact lv_sipush hx hb hdg hv (k H locs ls hP hD hS hl)
theorem r_lconst (C : Cb l own cc nL G fr lo um J JX) {n : Fin 2} {v : Int64} (hdg : decode cc pc = .ok (.lconst n, 1)) (hv : Int64.ofNat (n : Nat) = v) (k : J X u (pc + 1) lv (.long v :: st)) : J X u pc lv (st) := by
  obtain ⟨p, e, R, s, m, args, below, meth, c, A, c0, s0, Q, ⟨hx, hb, hml, hown, hts, hK, hNw, hA, hZs, hfl, hfr, hlo, hRc, hRs⟩, rfl, rfl⟩ := C
  intro H locs ls hP hD hS hl
  exact lv_lconst hx hb hdg hv (k H locs ls hP hD hS hl)
theorem r_iload_n (C : Cb l own cc nL G fr lo um J JX) {k9 : Fin 4} {i : Nat} {x : Int32} (hdg : decode cc pc = .ok (.iload_n k9, 1)) (hi : (k9 : Nat) = i) (hf : afind lv i = some (.int x)) (k : J X u (pc + 1) lv (.int x :: st)) : J X u pc lv (st) := by
  obtain ⟨p, e, R, s, m, args, below, meth, c, A, c0, s0, Q, ⟨hx, hb, hml, hown, hts, hK, hNw, hA, hZs, hfl, hfr, hlo, hRc, hRs⟩, rfl, rfl⟩ := C
  intro H locs ls hP hD hS hl
  exact lv_iload_n hx hb hdg hi (hl.2.2 _ _ hf) (k H locs ls hP hD hS hl)
theorem r_iload (C : Cb l own cc nL G fr lo um J JX) {i : Nat} {x : Int32} (hdg : decode cc pc = .ok (.iload i, 2)) (hf : afind lv i = some (.int x)) (k : J X u (pc + 2) lv (.int x :: st)) : J X u pc lv (st) := by
  obtain ⟨p, e, R, s, m, args, below, meth, c, A, c0, s0, Q, ⟨hx, hb, hml, hown, hts, hK, hNw, hA, hZs, hfl, hfr, hlo, hRc, hRs⟩, rfl, rfl⟩ := C
  intro H locs ls hP hD hS hl
  exact lv_iload hx hb hdg (hl.2.2 _ _ hf) (k H locs ls hP hD hS hl)
theorem r_istore_n (C : Cb l own cc nL G fr lo um J JX) {k9 : Fin 4} {i : Nat} {x : Int32} (hdg : decode cc pc = .ok (.istore_n k9, 1)) (hi : (k9 : Nat) = i) (hn : i < nL) (k : J X u (pc + 1) ((i, .int x) :: lv) st) : J X u pc lv (.int x :: st) := by
  obtain ⟨p, e, R, s, m, args, below, meth, c, A, c0, s0, Q, ⟨hx, hb, hml, hown, hts, hK, hNw, hA, hZs, hfl, hfr, hlo, hRc, hRs⟩, rfl, rfl⟩ := C
  intro H locs ls hP hD hS hl
  exact lv_istore_n hx hb hdg hi (alist_has hl) hn rfl (fun ls9 h9 => k H locs ls9 hP hD hS (lvOk_put1 hl rfl h9))
theorem r_istore (C : Cb l own cc nL G fr lo um J JX) {i : Nat} {x : Int32} (hdg : decode cc pc = .ok (.istore i, 2)) (hn : i < nL) (k : J X u (pc + 2) ((i, .int x) :: lv) st) : J X u pc lv (.int x :: st) := by
  obtain ⟨p, e, R, s, m, args, below, meth, c, A, c0, s0, Q, ⟨hx, hb, hml, hown, hts, hK, hNw, hA, hZs, hfl, hfr, hlo, hRc, hRs⟩, rfl, rfl⟩ := C
  intro H locs ls hP hD hS hl
  exact lv_istore hx hb hdg (alist_has hl) hn rfl (fun ls9 h9 => k H locs ls9 hP hD hS (lvOk_put1 hl rfl h9))
theorem r_lload_n (C : Cb l own cc nL G fr lo um J JX) {k9 : Fin 4} {i : Nat} {x : Int64} (hdg : decode cc pc = .ok (.lload_n k9, 1)) (hi : (k9 : Nat) = i) (hf : afind lv i = some (.long x)) (k : J X u (pc + 1) lv (.long x :: st)) : J X u pc lv (st) := by
  obtain ⟨p, e, R, s, m, args, below, meth, c, A, c0, s0, Q, ⟨hx, hb, hml, hown, hts, hK, hNw, hA, hZs, hfl, hfr, hlo, hRc, hRs⟩, rfl, rfl⟩ := C
  intro H locs ls hP hD hS hl
  exact lv_lload_n hx hb hdg hi (hl.2.2 _ _ hf) (k H locs ls hP hD hS hl)
theorem r_lload (C : Cb l own cc nL G fr lo um J JX) {i : Nat} {x : Int64} (hdg : decode cc pc = .ok (.lload i, 2)) (hf : afind lv i = some (.long x)) (k : J X u (pc + 2) lv (.long x :: st)) : J X u pc lv (st) := by
  obtain ⟨p, e, R, s, m, args, below, meth, c, A, c0, s0, Q, ⟨hx, hb, hml, hown, hts, hK, hNw, hA, hZs, hfl, hfr, hlo, hRc, hRs⟩, rfl, rfl⟩ := C
  intro H locs ls hP hD hS hl
  exact lv_lload hx hb hdg (hl.2.2 _ _ hf) (k H locs ls hP hD hS hl)
theorem r_lstore_n (C : Cb l own cc nL G fr lo um J JX) {k9 : Fin 4} {i : Nat} {x : Int64} (hdg : decode cc pc = .ok (.lstore_n k9, 1)) (hi : (k9 : Nat) = i) (hn : i + 1 < nL) (k : J X u (pc + 1) ((i, .long x) :: lv) st) : J X u pc lv (.long x :: st) := by
  obtain ⟨p, e, R, s, m, args, below, meth, c, A, c0, s0, Q, ⟨hx, hb, hml, hown, hts, hK, hNw, hA, hZs, hfl, hfr, hlo, hRc, hRs⟩, rfl, rfl⟩ := C
  intro H locs ls hP hD hS hl
  exact lv_lstore_n hx hb hdg hi (alist_has hl) hn rfl (fun ls9 h9 => k H locs ls9 hP hD hS (lvOk_put2 hl rfl h9))
theorem r_lstore (C : Cb l own cc nL G fr lo um J JX) {i : Nat} {x : Int64} (hdg : decode cc pc = .ok (.lstore i, 2)) (hn : i + 1 < nL) (k : J X u (pc + 2) ((i, .long x) :: lv) st) : J X u pc lv (.long x :: st) := by
  obtain ⟨p, e, R, s, m, args, below, meth, c, A, c0, s0, Q, ⟨hx, hb, hml, hown, hts, hK, hNw, hA, hZs, hfl, hfr, hlo, hRc, hRs⟩, rfl, rfl⟩ := C
  intro H locs ls hP hD hS hl
  exact lv_lstore hx hb hdg (alist_has hl) hn rfl (fun ls9 h9 => k H locs ls9 hP hD hS (lvOk_put2 hl rfl h9))
theorem r_aload_n (C : Cb l own cc nL G fr lo um J JX) {k9 : Fin 4} {i : Nat} {x : Nat} (hdg : decode cc pc = .ok (.aload_n k9, 1)) (hi : (k9 : Nat) = i) (hf : afind lv i = some (.ref x)) (k : J X u (pc + 1) lv (.ref x :: st)) : J X u pc lv (st) := by
  obtain ⟨p, e, R, s, m, args, below, meth, c, A, c0, s0, Q, ⟨hx, hb, hml, hown, hts, hK, hNw, hA, hZs, hfl, hfr, hlo, hRc, hRs⟩, rfl, rfl⟩ := C
  intro H locs ls hP hD hS hl
  exact lv_aload_n hx hb hdg hi (hl.2.2 _ _ hf) (k H locs ls hP hD hS hl)
theorem r_aload (C : Cb l own cc nL G fr lo um J JX) {i : Nat} {x : Nat} (hdg : decode cc pc = .ok (.aload i, 2)) (hf : afind lv i = some (.ref x)) (k : J X u (pc + 2) lv (.ref x :: st)) : J X u pc lv (st) := by
  obtain ⟨p, e, R, s, m, args, below, meth, c, A, c0, s0, Q, ⟨hx, hb, hml, hown, hts, hK, hNw, hA, hZs, hfl, hfr, hlo, hRc, hRs⟩, rfl, rfl⟩ := C
  intro H locs ls hP hD hS hl
  exact lv_aload hx hb hdg (hl.2.2 _ _ hf) (k H locs ls hP hD hS hl)
theorem r_astore_n (C : Cb l own cc nL G fr lo um J JX) {k9 : Fin 4} {i : Nat} {x : Nat} (hdg : decode cc pc = .ok (.astore_n k9, 1)) (hi : (k9 : Nat) = i) (hn : i < nL) (k : J X u (pc + 1) ((i, .ref x) :: lv) st) : J X u pc lv (.ref x :: st) := by
  obtain ⟨p, e, R, s, m, args, below, meth, c, A, c0, s0, Q, ⟨hx, hb, hml, hown, hts, hK, hNw, hA, hZs, hfl, hfr, hlo, hRc, hRs⟩, rfl, rfl⟩ := C
  intro H locs ls hP hD hS hl
  exact lv_astore_n hx hb hdg hi (alist_has hl) hn rfl (fun ls9 h9 => k H locs ls9 hP hD hS (lvOk_put1 hl rfl h9))
theorem r_astore (C : Cb l own cc nL G fr lo um J JX) {i : Nat} {x : Nat} (hdg : decode cc pc = .ok (.astore i, 2)) (hn : i < nL) (k : J X u (pc + 2) ((i, .ref x) :: lv) st) : J X u pc lv (.ref x :: st) := by
  obtain ⟨p, e, R, s, m, args, below, meth, c, A, c0, s0, Q, ⟨hx, hb, hml, hown, hts, hK, hNw, hA, hZs, hfl, hfr, hlo, hRc, hRs⟩, rfl, rfl⟩ := C
  intro H locs ls hP hD hS hl
  exact lv_astore hx hb hdg (alist_has hl) hn rfl (fun ls9 h9 => k H locs ls9 hP hD hS (lvOk_put1 hl rfl h9))
theorem r_dload_n (C : Cb l own cc nL G fr lo um J JX) {k9 : Fin 4} {i : Nat} {x : UInt64} (hdg : decode cc pc = .ok (.dload_n k9, 1)) (hi : (k9 : Nat) = i) (hf : afind lv i = some (.double x)) (k : J X u (pc + 1) lv (.double x :: st)) : J X u pc lv (st) := by
  obtain ⟨p, e, R, s, m, args, below, meth, c, A, c0, s0, Q, ⟨hx, hb, hml, hown, hts, hK, hNw, hA, hZs, hfl, hfr, hlo, hRc, hRs⟩, rfl, rfl⟩ := C
  intro H locs ls hP hD hS hl
  exact lv_dload_n hx hb hdg hi (hl.2.2 _ _ hf) (k H locs ls hP hD hS hl)
theorem r_dload (C : Cb l own cc nL G fr lo um J JX) {i : Nat} {x : UInt64} (hdg : decode cc pc = .ok (.dload i, 2)) (hf : afind lv i = some (.double x)) (k : J X u (pc + 2) lv (.double x :: st)) : J X u pc lv (st) := by
  obtain ⟨p, e, R, s, m, args, below, meth, c, A, c0, s0, Q, ⟨hx, hb, hml, hown, hts, hK, hNw, hA, hZs, hfl, hfr, hlo, hRc, hRs⟩, rfl, rfl⟩ := C
  intro H locs ls hP hD hS hl
  exact lv_dload hx hb hdg (hl.2.2 _ _ hf) (k H locs ls hP hD hS hl)
theorem r_dstore_n (C : Cb l own cc nL G fr lo um J JX) {k9 : Fin 4} {i : Nat} {x : UInt64} (hdg : decode cc pc = .ok (.dstore_n k9, 1)) (hi : (k9 : Nat) = i) (hn : i + 1 < nL) (k : J X u (pc + 1) ((i, .double x) :: lv) st) : J X u pc lv (.double x :: st) := by
  obtain ⟨p, e, R, s, m, args, below, meth, c, A, c0, s0, Q, ⟨hx, hb, hml, hown, hts, hK, hNw, hA, hZs, hfl, hfr, hlo, hRc, hRs⟩, rfl, rfl⟩ := C
  intro H locs ls hP hD hS hl
  exact lv_dstore_n hx hb hdg hi (alist_has hl) hn rfl (fun ls9 h9 => k H locs ls9 hP hD hS (lvOk_put2 hl rfl h9))
theorem r_dstore (C : Cb l own cc nL G fr lo um J JX) {i : Nat} {x : UInt64} (hdg : decode cc pc = .ok (.dstore i, 2)) (hn : i + 1 < nL) (k : J X u (pc + 2) ((i, .double x) :: lv) st) : J X u pc lv (.double x :: st) := by
  obtain ⟨p, e, R, s, m, args, below, meth, c, A, c0, s0, Q, ⟨hx, hb, hml, hown, hts, hK, hNw, hA, hZs, hfl, hfr, hlo, hRc, hRs⟩, rfl, rfl⟩ := C
  intro H locs ls hP hD hS hl
  exact lv_dstore hx hb hdg (alist_has hl) hn rfl (fun ls9 h9 => k H locs ls9 hP hD hS (lvOk_put2 hl rfl h9))
theorem r_iadd (C : Cb l own cc nL G fr lo um J JX) {x y : Int32} (hdg : decode cc pc = .ok (.iadd, 1)) (k : J X u (pc + 1) lv (.int (x + y) :: st)) : J X u pc lv (.int y :: .int x :: st) := by
  obtain ⟨p, e, R, s, m, args, below, meth, c, A, c0, s0, Q, ⟨hx, hb, hml, hown, hts, hK, hNw, hA, hZs, hfl, hfr, hlo, hRc, hRs⟩, rfl, rfl⟩ := C
  intro H locs ls hP hD hS hl
  exact lv_iadd hx hb hdg (k H locs ls hP hD hS hl)
theorem r_isub (C : Cb l own cc nL G fr lo um J JX) {x y : Int32} (hdg : decode cc pc = .ok (.isub, 1)) (k : J X u (pc + 1) lv (.int (x - y) :: st)) : J X u pc lv (.int y :: .int x :: st) := by
  obtain ⟨p, e, R, s, m, args, below, meth, c, A, c0, s0, Q, ⟨hx, hb, hml, hown, hts, hK, hNw, hA, hZs, hfl, hfr, hlo, hRc, hRs⟩, rfl, rfl⟩ := C
  intro H locs ls hP hD hS hl
  exact lv_isub hx hb hdg (k H locs ls hP hD hS hl)
theorem r_imul (C : Cb l own cc nL G fr lo um J JX) {x y : Int32} (hdg : decode cc pc = .ok (.imul, 1)) (k : J X u (pc + 1) lv (.int (x * y) :: st)) : J X u pc lv (.int y :: .int x :: st) := by
  obtain ⟨p, e, R, s, m, args, below, meth, c, A, c0, s0, Q, ⟨hx, hb, hml, hown, hts, hK, hNw, hA, hZs, hfl, hfr, hlo, hRc, hRs⟩, rfl, rfl⟩ := C
  intro H locs ls hP hD hS hl
  exact lv_imul hx hb hdg (k H locs ls hP hD hS hl)
theorem r_iand (C : Cb l own cc nL G fr lo um J JX) {x y : Int32} (hdg : decode cc pc = .ok (.iand, 1)) (k : J X u (pc + 1) lv (.int (x &&& y) :: st)) : J X u pc lv (.int y :: .int x :: st) := by
  obtain ⟨p, e, R, s, m, args, below, meth, c, A, c0, s0, Q, ⟨hx, hb, hml, hown, hts, hK, hNw, hA, hZs, hfl, hfr, hlo, hRc, hRs⟩, rfl, rfl⟩ := C
  intro H locs ls hP hD hS hl
  exact lv_iand hx hb hdg (k H locs ls hP hD hS hl)
theorem r_ior (C : Cb l own cc nL G fr lo um J JX) {x y : Int32} (hdg : decode cc pc = .ok (.ior, 1)) (k : J X u (pc + 1) lv (.int (x ||| y) :: st)) : J X u pc lv (.int y :: .int x :: st) := by
  obtain ⟨p, e, R, s, m, args, below, meth, c, A, c0, s0, Q, ⟨hx, hb, hml, hown, hts, hK, hNw, hA, hZs, hfl, hfr, hlo, hRc, hRs⟩, rfl, rfl⟩ := C
  intro H locs ls hP hD hS hl
  exact lv_ior hx hb hdg (k H locs ls hP hD hS hl)
theorem r_ixor (C : Cb l own cc nL G fr lo um J JX) {x y : Int32} (hdg : decode cc pc = .ok (.ixor, 1)) (k : J X u (pc + 1) lv (.int (x ^^^ y) :: st)) : J X u pc lv (.int y :: .int x :: st) := by
  obtain ⟨p, e, R, s, m, args, below, meth, c, A, c0, s0, Q, ⟨hx, hb, hml, hown, hts, hK, hNw, hA, hZs, hfl, hfr, hlo, hRc, hRs⟩, rfl, rfl⟩ := C
  intro H locs ls hP hD hS hl
  exact lv_ixor hx hb hdg (k H locs ls hP hD hS hl)
theorem r_ishl (C : Cb l own cc nL G fr lo um J JX) {x y : Int32} (hdg : decode cc pc = .ok (.ishl, 1)) (k : J X u (pc + 1) lv (.int (x <<< (y &&& 31)) :: st)) : J X u pc lv (.int y :: .int x :: st) := by
  obtain ⟨p, e, R, s, m, args, below, meth, c, A, c0, s0, Q, ⟨hx, hb, hml, hown, hts, hK, hNw, hA, hZs, hfl, hfr, hlo, hRc, hRs⟩, rfl, rfl⟩ := C
  intro H locs ls hP hD hS hl
  exact lv_ishl hx hb hdg (k H locs ls hP hD hS hl)
theorem r_ishr (C : Cb l own cc nL G fr lo um J JX) {x y : Int32} (hdg : decode cc pc = .ok (.ishr, 1)) (k : J X u (pc + 1) lv (.int (x >>> (y &&& 31)) :: st)) : J X u pc lv (.int y :: .int x :: st) := by
  obtain ⟨p, e, R, s, m, args, below, meth, c, A, c0, s0, Q, ⟨hx, hb, hml, hown, hts, hK, hNw, hA, hZs, hfl, hfr, hlo, hRc, hRs⟩, rfl, rfl⟩ := C
  intro H locs ls hP hD hS hl
  exact lv_ishr hx hb hdg (k H locs ls hP hD hS hl)
theorem r_ladd (C : Cb l own cc nL G fr lo um J JX) {x y : Int64} (hdg : decode cc pc = .ok (.ladd, 1)) (k : J X u (pc + 1) lv (.long (x + y) :: st)) : J X u pc lv (.long y :: .long x :: st) := by
  obtain ⟨p, e, R, s, m, args, below, meth, c, A, c0, s0, Q, ⟨hx, hb, hml, hown, hts, hK, hNw, hA, hZs, hfl, hfr, hlo, hRc, hRs⟩, rfl, rfl⟩ := C
  intro H locs ls hP hD hS hl
  exact lv_ladd hx hb hdg (k H locs ls hP hD hS hl)
theorem r_lsub (C : Cb l own cc nL G fr lo um J JX) {x y : Int64} (hdg : decode cc pc = .ok (.lsub, 1)) (k : J X u (pc + 1) lv (.long (x - y) :: st)) : J X u pc lv (.long y :: .long x :: st) := by
  obtain ⟨p, e, R, s, m, args, below, meth, c, A, c0, s0, Q, ⟨hx, hb, hml, hown, hts, hK, hNw, hA, hZs, hfl, hfr, hlo, hRc, hRs⟩, rfl, rfl⟩ := C
  intro H locs ls hP hD hS hl
  exact lv_lsub hx hb hdg (k H locs ls hP hD hS hl)
theorem r_lmul (C : Cb l own cc nL G fr lo um J JX) {x y : Int64} (hdg : decode cc pc = .ok (.lmul, 1)) (k : J X u (pc + 1) lv (.long (x * y) :: st)) : J X u pc lv (.long y :: .long x :: st) := by
  obtain ⟨p, e, R, s, m, args, below, meth, c, A, c0, s0, Q, ⟨hx, hb, hml, hown, hts, hK, hNw, hA, hZs, hfl, hfr, hlo, hRc, hRs⟩, rfl, rfl⟩ := C
  intro H locs ls hP hD hS hl
  exact lv_lmul hx hb hdg (k H locs ls hP hD hS hl)
theorem r_land (C : Cb l own cc nL G fr lo um J JX) {x y : Int64} (hdg : decode cc pc = .ok (.land, 1)) (k : J X u (pc + 1) lv (.long (x &&& y) :: st)) : J X u pc lv (.long y :: .long x :: st) := by
  obtain ⟨p, e, R, s, m, args, below, meth, c, A, c0, s0, Q, ⟨hx, hb, hml, hown, hts, hK, hNw, hA, hZs, hfl, hfr, hlo, hRc, hRs⟩, rfl, rfl⟩ := C
  intro H locs ls hP hD hS hl
  exact lv_land hx hb hdg (k H locs ls hP hD hS hl)
theorem r_lor (C : Cb l own cc nL G fr lo um J JX) {x y : Int64} (hdg : decode cc pc = .ok (.lor, 1)) (k : J X u (pc + 1) lv (.long (x ||| y) :: st)) : J X u pc lv (.long y :: .long x :: st) := by
  obtain ⟨p, e, R, s, m, args, below, meth, c, A, c0, s0, Q, ⟨hx, hb, hml, hown, hts, hK, hNw, hA, hZs, hfl, hfr, hlo, hRc, hRs⟩, rfl, rfl⟩ := C
  intro H locs ls hP hD hS hl
  exact lv_lor hx hb hdg (k H locs ls hP hD hS hl)
theorem r_idiv (C : Cb l own cc nL G fr lo um J JX) {x y : Int32} (hdg : decode cc pc = .ok (.idiv, 1)) (hne : ¬ y = 0) (k : J X u (pc + 1) lv (.int (x / y) :: st)) : J X u pc lv (.int y :: .int x :: st) := by
  obtain ⟨p, e, R, s, m, args, below, meth, c, A, c0, s0, Q, ⟨hx, hb, hml, hown, hts, hK, hNw, hA, hZs, hfl, hfr, hlo, hRc, hRs⟩, rfl, rfl⟩ := C
  intro H locs ls hP hD hS hl
  exact lv_idiv hx hb hdg hne (k H locs ls hP hD hS hl)
theorem r_ineg (C : Cb l own cc nL G fr lo um J JX) {x : Int32} (hdg : decode cc pc = .ok (.ineg, 1)) (k : J X u (pc + 1) lv (.int (-x) :: st)) : J X u pc lv (.int x :: st) := by
  obtain ⟨p, e, R, s, m, args, below, meth, c, A, c0, s0, Q, ⟨hx, hb, hml, hown, hts, hK, hNw, hA, hZs, hfl, hfr, hlo, hRc, hRs⟩, rfl, rfl⟩ := C
  intro H locs ls hP hD hS hl
  exact lv_ineg hx hb hdg (k H locs ls hP hD hS hl)
theorem r_i2l (C : Cb l own cc nL G fr lo um J JX) {x : Int32} (hdg : decode cc pc = .ok (.i2l, 1)) (k : J X u (pc + 1) lv (.long x.toInt64 :: st)) : J X u pc lv (.int x :: st) := by
  obtain ⟨p, e, R, s, m, args, below, meth, c, A, c0, s0, Q, ⟨hx, hb, hml, hown, hts, hK, hNw, hA, hZs, hfl, hfr, hlo, hRc, hRs⟩, rfl, rfl⟩ := C
  intro H locs ls hP hD hS hl
  exact lv_i2l hx hb hdg rfl (k H locs ls hP hD hS hl)
theorem r_l2i (C : Cb l own cc nL G fr lo um J JX) {x : Int64} (hdg : decode cc pc = .ok (.l2i, 1)) (k : J X u (pc + 1) lv (.int x.toInt32 :: st)) : J X u pc lv (.long x :: st) := by
  obtain ⟨p, e, R, s, m, args, below, meth, c, A, c0, s0, Q, ⟨hx, hb, hml, hown, hts, hK, hNw, hA, hZs, hfl, hfr, hlo, hRc, hRs⟩, rfl, rfl⟩ := C
  intro H locs ls hP hD hS hl
  exact lv_l2i hx hb hdg rfl (k H locs ls hP hD hS hl)
theorem r_iushr (C : Cb l own cc nL G fr lo um J JX) {x y v : Int32} (hdg : decode cc pc = .ok (.iushr, 1)) (hv : (x.toUInt32 >>> (y.toUInt32 &&& Int32.toUInt32 31)).toInt32 = v) (k : J X u (pc + 1) lv (.int v :: st)) : J X u pc lv (.int y :: .int x :: st) := by
  obtain ⟨p, e, R, s, m, args, below, meth, c, A, c0, s0, Q, ⟨hx, hb, hml, hown, hts, hK, hNw, hA, hZs, hfl, hfr, hlo, hRc, hRs⟩, rfl, rfl⟩ := C
  intro H locs ls hP hD hS hl
  exact lv_iushr hx hb hdg hv (k H locs ls hP hD hS hl)
theorem r_lshl (C : Cb l own cc nL G fr lo um J JX) {x : Int64} {y : Int32} (hdg : decode cc pc = .ok (.lshl, 1)) (k : J X u (pc + 1) lv (.long (x <<< (y.toInt64 &&& 63)) :: st)) : J X u pc lv (.int y :: .long x :: st) := by
  obtain ⟨p, e, R, s, m, args, below, meth, c, A, c0, s0, Q, ⟨hx, hb, hml, hown, hts, hK, hNw, hA, hZs, hfl, hfr, hlo, hRc, hRs⟩, rfl, rfl⟩ := C
  intro H locs ls hP hD hS hl
  exact lv_lshl hx hb hdg rfl (k H locs ls hP hD hS hl)
theorem r_lshr (C : Cb l own cc nL G fr lo um J JX) {x : Int64} {y : Int32} (hdg : decode cc pc = .ok (.lshr, 1)) (k : J X u (pc + 1) lv (.long (x >>> (y.toInt64 &&& 63)) :: st)) : J X u pc lv (.int y :: .long x :: st) := by
  obtain ⟨p, e, R, s, m, args, below, meth, c, A, c0, s0, Q, ⟨hx, hb, hml, hown, hts, hK, hNw, hA, hZs, hfl, hfr, hlo, hRc, hRs⟩, rfl, rfl⟩ := C
  intro H locs ls hP hD hS hl
  exact lv_lshr hx hb hdg rfl (k H locs ls hP hD hS hl)
theorem r_lcmp (C : Cb l own cc nL G fr lo um J JX) {x y : Int64} (hdg : decode cc pc = .ok (.lcmp, 1)) (k : J X u (pc + 1) lv (.int (lg_cmp x y) :: st)) : J X u pc lv (.long y :: .long x :: st) := by
  obtain ⟨p, e, R, s, m, args, below, meth, c, A, c0, s0, Q, ⟨hx, hb, hml, hown, hts, hK, hNw, hA, hZs, hfl, hfr, hlo, hRc, hRs⟩, rfl, rfl⟩ := C
  intro H locs ls hP hD hS hl
  exact W.lcmp hx hb hdg (k H locs ls hP hD hS hl)
theorem r_dup (C : Cb l own cc nL G fr lo um J JX) {v : Value} (hdg : decode cc pc = .ok (.dup, 1)) (hc : v.category = 1) (k : J X u (pc + 1) lv (v :: v :: st)) : J X u pc lv (v :: st) := by
  obtain ⟨p, e, R, s, m, args, below, meth, c, A, c0, s0, Q, ⟨hx, hb, hml, hown, hts, hK, hNw, hA, hZs, hfl, hfr, hlo, hRc, hRs⟩, rfl, rfl⟩ := C
  intro H locs ls hP hD hS hl
  exact lv_dup hx hb hdg hc (k H locs ls hP hD hS hl)
theorem r_dup2 (C : Cb l own cc nL G fr lo um J JX) {v w : Value} (hdg : decode cc pc = .ok (.dup2, 1)) (hc : v.category = 1) (hc2 : w.category = 1) (k : J X u (pc + 1) lv (v :: w :: v :: w :: st)) : J X u pc lv (v :: w :: st) := by
  obtain ⟨p, e, R, s, m, args, below, meth, c, A, c0, s0, Q, ⟨hx, hb, hml, hown, hts, hK, hNw, hA, hZs, hfl, hfr, hlo, hRc, hRs⟩, rfl, rfl⟩ := C
  intro H locs ls hP hD hS hl
  exact lv_dup2_11 hx hb hdg hc hc2 (k H locs ls hP hD hS hl)
theorem r_i2d (C : Cb l own cc nL G fr lo um J JX) {x : Int32} (hdg : decode cc pc = .ok (.i2d, 1)) (k : J X u (pc + 1) lv (.double (FP.i2d x) :: st)) : J X u pc lv (.int x :: st) := by
  obtain ⟨p, e, R, s, m, args, below, meth, c, A, c0, s0, Q, ⟨hx, hb, hml, hown, hts, hK, hNw, hA, hZs, hfl, hfr, hlo, hRc, hRs⟩, rfl, rfl⟩ := C
  intro H locs ls hP hD hS hl
  exact lv_i2d hx hb hdg (k H locs ls hP hD hS hl)
theorem r_d2i (C : Cb l own cc nL G fr lo um J JX) {x : UInt64} (hdg : decode cc pc = .ok (.d2i, 1)) (k : J X u (pc + 1) lv (.int (FP.d2i x) :: st)) : J X u pc lv (.double x :: st) := by
  obtain ⟨p, e, R, s, m, args, below, meth, c, A, c0, s0, Q, ⟨hx, hb, hml, hown, hts, hK, hNw, hA, hZs, hfl, hfr, hlo, hRc, hRs⟩, rfl, rfl⟩ := C
  intro H locs ls hP hD hS hl
  exact lv_d2i hx hb hdg (k H locs ls hP hD hS hl)
theorem r_d2l (C : Cb l own cc nL G fr lo um J JX) {x : UInt64} (hdg : decode cc pc = .ok (.d2l, 1)) (k : J X u (pc + 1) lv (.long (FP.d2l x) :: st)) : J X u pc lv (.double x :: st) := by
  obtain ⟨p, e, R, s, m, args, below, meth, c, A, c0, s0, Q, ⟨hx, hb, hml, hown, hts, hK, hNw, hA, hZs, hfl, hfr, hlo, hRc, hRs⟩, rfl, rfl⟩ := C
  intro H locs ls hP hD hS hl
  exact lv_d2l hx hb hdg (k H locs ls hP hD hS hl)
theorem r_dneg (C : Cb l own cc nL G fr lo um J JX) {x : UInt64} (hdg : decode cc pc = .ok (.dneg, 1)) (k : J X u (pc + 1) lv (.double (FP.dneg x) :: st)) : J X u pc lv (.double x :: st) := by
  obtain ⟨p, e, R, s, m, args, below, meth, c, A, c0, s0, Q, ⟨hx, hb, hml, hown, hts, hK, hNw, hA, hZs, hfl, hfr, hlo, hRc, hRs⟩, rfl, rfl⟩ := C
  intro H locs ls hP hD hS hl
  exact lv_dneg hx hb hdg (k H locs ls hP hD hS hl)
theorem r_dcmp (C : Cb l own cc nL G fr lo um J JX) {x y : UInt64} {op : CmpOp} (hdg : decode cc pc = .ok (.dcmp op, 1)) (k : J X u (pc + 1) lv (.int (Op.cmpValue (FP.dcmp x y) op) :: st)) : J X u pc lv (.double y :: .double x :: st) := by
  obtain ⟨p, e, R, s, m, args, below, meth, c, A, c0, s0, Q, ⟨hx, hb, hml, hown, hts, hK, hNw, hA, hZs, hfl, hfr, hlo, hRc, hRs⟩, rfl, rfl⟩ := C
  intro H locs ls hP hD hS hl
  exact lv_dcmp hx hb hdg (k H locs ls hP hD hS hl)
theorem r_dadd (C : Cb l own cc nL G fr lo um J JX) {x y : UInt64} (hdg : decode cc pc = .ok (.dadd, 1)) (hne : vf_n64 (FP.dadd x y)) (k : J X u (pc + 1) lv (.double (FP.dadd x y) :: st)) : J X u pc lv (.double y :: .double x :: st) := by
  obtain ⟨p, e, R, s, m, args, below, meth, c, A, c0, s0, Q, ⟨hx, hb, hml, hown, hts, hK, hNw, hA, hZs, hfl, hfr, hlo, hRc, hRs⟩, rfl, rfl⟩ := C
  intro H locs ls hP hD hS hl
  exact lv_dadd hx hb hdg hne (k H locs ls hP hD hS hl)
theorem r_dsub (C : Cb l own cc nL G fr lo um J JX) {x y : UInt64} (hdg : decode cc pc = .ok (.dsub, 1)) (hne : vf_n64 (FP.dsub x y)) (k : J X u (pc + 1) lv (.double (FP.dsub x y) :: st)) : J X u pc lv (.double y :: .double x :: st) := by
  obtain ⟨p, e, R, s, m, args, below, meth, c, A, c0, s0, Q, ⟨hx, hb, hml, hown, hts, hK, hNw, hA, hZs, hfl, hfr, hlo, hRc, hRs⟩, rfl, rfl⟩ := C
  intro H locs ls hP hD hS hl
  exact lv_dsub hx hb hdg hne (k H locs ls hP hD hS hl)
theorem r_dmul (C : Cb l own cc nL G fr lo um J JX) {x y : UInt64} (hdg : decode cc pc = .ok (.dmul, 1)) (hne : vf_n64 (FP.dmul x y)) (k : J X u (pc + 1) lv (.double (FP.dmul x y) :: st)) : J X u pc lv (.double y :: .double x :: st) := by
  obtain ⟨p, e, R, s, m, args, below, meth, c, A, c0, s0, Q, ⟨hx, hb, hml, hown, hts, hK, hNw, hA, hZs, hfl, hfr, hlo, hRc, hRs⟩, rfl, rfl⟩ := C
  intro H locs ls hP hD hS hl
  exact lv_dmul hx hb hdg hne (k H locs ls hP hD hS hl)
theorem r_ddiv (C : Cb l own cc nL G fr lo um J JX) {x y : UInt64} (hdg : decode cc pc = .ok (.ddiv, 1)) (hne : vf_n64 (FP.ddiv x y)) (k : J X u (pc + 1) lv (.double (FP.ddiv x y) :: st)) : J X u pc lv (.double y :: .double x :: st) := by
  obtain ⟨p, e, R, s, m, args, below, meth, c, A, c0, s0, Q, ⟨hx, hb, hml, hown, hts, hK, hNw, hA, hZs, hfl, hfr, hlo, hRc, hRs⟩, rfl, rfl⟩ := C
  intro H locs ls hP hD hS hl
  exact lv_ddiv hx hb hdg hne (k H locs ls hP hD hS hl)
theorem r_dconst0 (C : Cb l own cc nL G fr lo um J JX) (hdg : decode cc pc = .ok (.dconst 0, 1)) (k : J X u (pc + 1) lv (.double (FP.dconst0) :: st)) : J X u pc lv (st) := by
  obtain ⟨p, e, R, s, m, args, below, meth, c, A, c0, s0, Q, ⟨hx, hb, hml, hown, hts, hK, hNw, hA, hZs, hfl, hfr, hlo, hRc, hRs⟩, rfl, rfl⟩ := C
  intro H locs ls hP hD hS hl
  exact lv_dconst0 hx hb hdg (k H locs ls hP hD hS hl)
theorem r_dconst1 (C : Cb l own cc nL G fr lo um J JX) (hdg : decode cc pc = .ok (.dconst 1, 1)) (k : J X u (pc + 1) lv (.double (FP.dconst1) :: st)) : J X u pc lv (st) := by
  obtain ⟨p, e, R, s, m, args, below, meth, c, A, c0, s0, Q, ⟨hx, hb, hml, hown, hts, hK, hNw, hA, hZs, hfl, hfr, hlo, hRc, hRs⟩, rfl, rfl⟩ := C
  intro H locs ls hP hD hS hl
  exact lv_dconst1 hx hb hdg (k H locs ls hP hD hS hl)
theorem r_ldc (C : Cb l own cc nL G fr lo um J JX) {index : Nat} {v : Int32} (hdg : decode cc pc = .ok (.ldc index, 2)) (hc : Cond.constant own index v ∈ lw_all) (k : J X u (pc + 2) lv (.int v :: st)) : J X u pc lv (st) := by
  obtain ⟨p, e, R, s, m, args, below, meth, c, A, c0, s0, Q, ⟨hx, hb, hml, hown, hts, hK, hNw, hA, hZs, hfl, hfr, hlo, hRc, hRs⟩, rfl, rfl⟩ := C
  intro H locs ls hP hD hS hl
  exact lv_ldc hx hb hown (hts _ hc) hdg (k H locs ls hP hD hS hl)
theorem r_ldcw (C : Cb l own cc nL G fr lo um J JX) {index : Nat} {v : Int32} (hdg : decode cc pc = .ok (.ldc_w index, 3)) (hc : Cond.constant own index v ∈ lw_all) (k : J X u (pc + 3) lv (.int v :: st)) : J X u pc lv (st) := by
  obtain ⟨p, e, R, s, m, args, below, meth, c, A, c0, s0, Q, ⟨hx, hb, hml, hown, hts, hK, hNw, hA, hZs, hfl, hfr, hlo, hRc, hRs⟩, rfl, rfl⟩ := C
  intro H locs ls hP hD hS hl
  exact lv_ldcw hx hb hown (hts _ hc) hdg (k H locs ls hP hD hS hl)
theorem r_ldc2 (C : Cb l own cc nL G fr lo um J JX) {index : Nat} {v : Int64} (hdg : decode cc pc = .ok (.ldc2_w index, 3)) (hc : Cond.constantLong own index v ∈ lw_all) (k : J X u (pc + 3) lv (.long v :: st)) : J X u pc lv (st) := by
  obtain ⟨p, e, R, s, m, args, below, meth, c, A, c0, s0, Q, ⟨hx, hb, hml, hown, hts, hK, hNw, hA, hZs, hfl, hfr, hlo, hRc, hRs⟩, rfl, rfl⟩ := C
  intro H locs ls hP hD hS hl
  exact lv_ldc2 hx hb hown (hts _ hc) hdg (k H locs ls hP hD hS hl)
theorem r_ldc2d (C : Cb l own cc nL G fr lo um J JX) {index : Nat} {v : UInt64} (hdg : decode cc pc = .ok (.ldc2_w index, 3)) (hc : Cond.constantDouble own index v ∈ lw_all) (k : J X u (pc + 3) lv (.double v :: st)) : J X u pc lv (st) := by
  obtain ⟨p, e, R, s, m, args, below, meth, c, A, c0, s0, Q, ⟨hx, hb, hml, hown, hts, hK, hNw, hA, hZs, hfl, hfr, hlo, hRc, hRs⟩, rfl, rfl⟩ := C
  intro H locs ls hP hD hS hl
  exact lv_ldc2d hx hb hown (hts _ hc) hdg (k H locs ls hP hD hS hl)
theorem r_iinc (C : Cb l own cc nL G fr lo um J JX) {i : Nat} {n : Int} {x v : Int32} (hdg : decode cc pc = .ok (.iinc i n, 3)) (hf : afind lv i = some (.int x)) (hv : x + Int32.ofInt n = v) (k : J X u (pc + 3) ((i, .int v) :: lv) st) : J X u pc lv st := by
  obtain ⟨p, e, R, s, m, args, below, meth, c, A, c0, s0, Q, ⟨hx, hb, hml, hown, hts, hK, hNw, hA, hZs, hfl, hfr, hlo, hRc, hRs⟩, rfl, rfl⟩ := C
  intro H locs ls hP hD hS hl
  have hm := alist_mem hl hf
  obtain ⟨k9, hk9⟩ := List.getElem?_of_mem hm
  exact lv_iinc hx hb hdg (alist_has hl) hk9 hv (lvOk_lt hl hf) rfl (fun ls9 h9 => k H locs ls9 hP hD hS (lvOk_put1 hl rfl h9))
theorem r_goto (C : Cb l own cc nL G fr lo um J JX) {off : Int} {tgt : Nat} (hdg : decode cc pc = .ok (.goto off, 3)) (ht : (pc : Int) + off = (tgt : Int)) (k : J X u tgt lv st) : J X u pc lv st := by
  obtain ⟨p, e, R, s, m, args, below, meth, c, A, c0, s0, Q, ⟨hx, hb, hml, hown, hts, hK, hNw, hA, hZs, hfl, hfr, hlo, hRc, hRs⟩, rfl, rfl⟩ := C
  intro H locs ls hP hD hS hl
  exact lv_goto hx hb hdg ht (k H locs ls hP hD hS hl)
@@CONDS@@
theorem r_sub (C : Cb l own cc nL G fr lo um J JX) {lv' : List (Nat × Value)} (hs : lvSub lv lv') (k : J X u pc lv' st) : J X u pc lv st := by
  obtain ⟨p, e, R, s, m, args, below, meth, c, A, c0, s0, Q, ⟨hx, hb, hml, hown, hts, hK, hNw, hA, hZs, hfl, hfr, hlo, hRc, hRs⟩, rfl, rfl⟩ := C
  intro H locs ls hP hD hS hl
  exact k H locs ls hP hD hS (lvOk_sub hl hs)
theorem r_topi {J : JT} {X : St} {u pc : Nat} {lv : List (Nat × Value)} {st : List Value} {x y : Int32} (h : x = y) (k : J X u pc lv (.int y :: st)) : J X u pc lv (.int x :: st) := h ▸ k
theorem r_topl {J : JT} {X : St} {u pc : Nat} {lv : List (Nat × Value)} {st : List Value} {x y : Int64} (h : x = y) (k : J X u pc lv (.long y :: st)) : J X u pc lv (.long x :: st) := h ▸ k
theorem r_topd {J : JT} {X : St} {u pc : Nat} {lv : List (Nat × Value)} {st : List Value} {x y : UInt64} (h : x = y) (k : J X u pc lv (.double y :: st)) : J X u pc lv (.double x :: st) := h ▸ k
theorem r_top2 {J : JT} {X : St} {u pc : Nat} {lv : List (Nat × Value)} {st : List Value} {w : Value} {x y : Int32} (h : x = y) (k : J X u pc lv (w :: .int y :: st)) : J X u pc lv (w :: .int x :: st) := h ▸ k
theorem r_st {J : JT} {X Y : St} {u pc : Nat} {lv : List (Nat × Value)} {st : List Value} (h : X = Y) (k : J Y u pc lv st) : J X u pc lv st := h ▸ k
