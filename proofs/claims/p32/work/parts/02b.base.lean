/-! ===== a judgement over the pool; contracts ===== -/
/-- all words of the tables that a method's call keeps -/
def lw_all : List Cond := lw_tbl.filter goodWord
/-- the words of nest mates -/
def zNst : Cond → Bool
  | .fieldLinkNest .. => true
  | .methodLinkNest .. => true
  | .castable .. => true
  | .declares _ => true
  | _ => false
def lw_nst : List Cond := lw_tbl.filter zNst
def zStr : Cond → Bool
  | .stringRef .. => true
  | _ => false
def lw_str : List Cond := lw_tbl.filter zStr
theorem in_all {w : Cond} {i : Nat} (h : lw_tbl[i]? = some w) (hg : goodWord w = true) : w ∈ lw_all := List.mem_filter.mpr ⟨List.mem_of_getElem? h, hg⟩
theorem in_nst {w : Cond} {i : Nat} (h : lw_tbl[i]? = some w) (hg : zNst w = true) : w ∈ lw_nst := List.mem_filter.mpr ⟨List.mem_of_getElem? h, hg⟩
theorem in_str {w : Cond} {i : Nat} (h : lw_tbl[i]? = some w) (hg : zStr w = true) : w ∈ lw_str := List.mem_filter.mpr ⟨List.mem_of_getElem? h, hg⟩
/-- what a state's tables hold beside the good words -/
def zNw (U : State) : Prop := (∀ w ∈ lw_nst, va_Nw w U) ∧ ∀ own k tx, Cond.stringRef own k tx ∈ lw_str → ∃ a, vk_R own k tx a U
theorem zNw.warm {s U : State} (hW : s.WarmedH U.vm) (h : zNw s) : zNw U := by
  refine ⟨fun w hw => ?_, fun own k tx hw => ?_⟩
  · have h0 := (List.mem_filter.mp hw).2
    have h1 := h.1 w hw
    cases w <;> first | exact va_Nw.warmF hW h1 | exact va_Nw.warmM hW h1 | exact va_Nw.warmC hW h1 | exact va_Nw.warmD hW h1 | (simp [zNst] at h0)
  · obtain ⟨a, ha⟩ := h.2 own k tx hw
    exact ⟨a, ha.warm hW⟩
theorem zNw.same {u U : State} (hv : u.vm = U.vm) (h : zNw u) : zNw U := by
  refine ⟨fun w hw => ?_, fun own k tx hw => ?_⟩
  · have h0 := (List.mem_filter.mp hw).2
    have h1 := h.1 w hw
    cases w <;> first | exact va_Nw.same rfl hv h1 | (simp [zNst] at h0)
  · obtain ⟨a, ha⟩ := h.2 own k tx hw
    exact ⟨a, ha.same hv.symm⟩
theorem nst_ot {w : Cond} (h : w ∈ lw_nst) : w.onTables = true := by
  have h0 := (List.mem_filter.mp h).2
  cases w <;> first | rfl | (simp [zNst] at h0)
/-- the two statics that a new exception reads -/
def zZs (A : Nat → Prop) (U : State) (H : Heap) : Prop := vx_Zq Bundle.tN "UNASSIGNED_STACK" Bundle.steD A U H ∧ vx_Zq Bundle.tN "SUPPRESSED_SENTINEL" Bundle.listD A U H
/-- which cells a method may change: the pool's, and those that are new -/
def zA (G : Geo) (sz : Nat) : Nat → Prop := fun q => (∃ k, k < 36 + Gn G ∧ q = G.2.1 k) ∨ sz ≤ q
def zWD (G : Geo) (X : St) (A : Nat → Prop) (H : Heap) : Prop := va_P G.1 ncl (wsX G X) H ∧ va_D A (wsX G X)
/-- the script is there, and no method changes it -/
def zSx (G : Geo) (A : Nat → Prop) (U : State) : Prop := va_X (Gb G) (Gl G) (Gx G) U U.heap ∧ Gb G < U.heap.size ∧ ¬ A (Gb G)
/-- what holds at a method's start -/
def zPK (G : Geo) (X : St) (sz : Nat) (U : State) : Prop := U.heap.size = sz ∧ zWD G X (zA G sz) U.heap ∧ va_K G.1 ncl (gtys G) U ∧ zNw U ∧ zZs (zA G sz) U U.heap ∧ zSx G (zA G sz) U
/-- what holds at its end -/
def zQK (G : Geo) (A : Nat → Prop) (K : Option Value → St → Prop) : Array Value → State → Outcome → State → Prop := fun _ st oc t => (∃ (v : Option Value) (X' : St), oc = .returned v ∧ K v X' ∧ zWD G X' A t.heap) ∧ va_F A st t
def zXK (G : Geo) (A : Nat → Prop) (KX : String → St → Prop) : String → State → State → Prop := fun E st t => (∃ X' : St, KX E X' ∧ zWD G X' A t.heap) ∧ va_F A st t
abbrev ws_ (y : MethodName) (cc : ByteArray) (n : Nat) (ret : Option FieldType) : List Cond := .code y cc n ret :: lw_all
abbrev wsH_ (y : MethodName) (cc : ByteArray) (n : Nat) (ret : Option FieldType) (hh : List (Nat × Nat × Nat × Nat)) : List Cond := .codeWith y cc n ret hh :: lw_all
abbrev zRm (fr lo u : Nat) : Room := { frames := fr, cells := u, slots := 6 * u, locals := lo }
/-- A CONTRACT: from the state X, method y on the arguments ar ends with K of its answer and state, or throws with KX; fr frames, lo words, u exceptions -/
def Con (l : Launch) (y : MethodName) (cc : ByteArray) (n : Nat) (ret : Option FieldType) (fr lo u : Nat) (ar : Geo → List Value) (X : St) (K : Option Value → St → Prop) (KX : String → St → Prop) : Prop :=
  ∀ (G : Geo) (sz : Nat), vx_Met l y (ws_ y cc n ret) (zRm fr lo u) (va_Pc (ar G) (zPK G X sz)) (zQK G (zA G sz) K) (zXK G (zA G sz) KX) u (6 * u) (zA G sz)
def ConH (l : Launch) (y : MethodName) (cc : ByteArray) (n : Nat) (ret : Option FieldType) (hh : List (Nat × Nat × Nat × Nat)) (fr lo u : Nat) (ar : Geo → List Value) (X : St) (K : Option Value → St → Prop) (KX : String → St → Prop) : Prop :=
  ∀ (G : Geo) (sz : Nat), vx_Met l y (wsH_ y cc n ret hh) (zRm fr lo u) (va_Pc (ar G) (zPK G X sz)) (zQK G (zA G sz) K) (zXK G (zA G sz) KX) u (6 * u) (zA G sz)
/-- never -/
def kF : String → St → Prop := fun _ _ => False
def kI (P : Int32 → St → Prop) : Option Value → St → Prop := fun v X => ∃ r, v = some (.int r) ∧ P r X
def kL (P : Int64 → St → Prop) : Option Value → St → Prop := fun v X => ∃ r, v = some (.long r) ∧ P r X
def kD (P : UInt64 → St → Prop) : Option Value → St → Prop := fun v X => ∃ r, v = some (.double r) ∧ P r X
def kV (P : St → Prop) : Option Value → St → Prop := fun v X => v = none ∧ P X
/-- where a walk stands: the program, the method, its start -/
def zCx (p : Program) (l : Launch) (R : Room) (s : State) (m : MethodId) (args : Array Value) (c : Code) (A : Nat → Prop) (own : String) (cc : ByteArray) (nL : Nat) (G : Geo) (fr lo um c0 s0 : Nat) : Prop :=
  p.tables.exec = Jvm.exec ∧ c.code = cc ∧ c.maxLocals = nL ∧ s.vm.findClass own = some m.cls ∧ (∀ w ∈ lw_all, w.before args s = true) ∧ va_K G.1 ncl (gtys G) s ∧ zNw s ∧ (∀ q, s.heap.size ≤ q → A q) ∧ zZs A s s.heap ∧ l.stackTraces = false ∧ R.frames = fr ∧ R.locals = lo ∧ c0 + um ≤ R.cells ∧ s0 + 6 * um ≤ R.slots ∧ zSx G A s
def Jw (p : Program) (l : Launch) (e : Env) (R : Room) (s : State) (m : MethodId) (args : Array Value) (below : List Frame) (meth : Method) (c : Code) (G : Geo) (A : Nat → Prop) (nL c0 s0 : Nat) (Q : State → Prop) (X : St) (u pc : Nat) (lv : List (Nat × Value)) (st : List Value) : Prop :=
  ∀ (H : Heap) (locs : List Loc) (ls : Array Slot), va_P G.1 ncl (wsX G X) H → va_D A (wsX G X) → va_S A s.heap H locs → lvOk ls nL lv → W p l e R s m args below meth c H locs (c0 + u) (s0 + 6 * u) Q (F0 m pc ls st)
def Jx (p : Program) (l : Launch) (e : Env) (R : Room) (s : State) (m : MethodId) (args : Array Value) (below : List Frame) (meth : Method) (c : Code) (G : Geo) (A : Nat → Prop) (nL c0 s0 : Nat) (Q : State → Prop) (X : St) (u pc : Nat) (lv : List (Nat × Value)) (E : String) : Prop :=
  ∀ (H : Heap) (locs : List Loc) (ls : Array Slot) (q : Addr) (ce : Cell) (rest : List Value), va_P G.1 ncl (wsX G X) H → va_D A (wsX G X) → va_S A s.heap H locs → lvOk ls nL lv → H[q]? = some ce → ce.vm = .none → s.vm.findClass E = some ce.cls → vx_W p l e R s m args below meth c H locs (c0 + u) (s0 + 6 * u) Q (F0 m pc ls rest) q
abbrev JT : Type := St → Nat → Nat → List (Nat × Value) → List Value → Prop
abbrev JXT : Type := St → Nat → Nat → List (Nat × Value) → String → Prop
/-- THE CONTEXT of a walk's rows -/
def Cb (l : Launch) (own : String) (cc : ByteArray) (nL : Nat) (G : Geo) (fr lo um : Nat) (J : JT) (JX : JXT) : Prop :=
  ∃ (p : Program) (e : Env) (R : Room) (s : State) (m : MethodId) (args : Array Value) (below : List Frame) (meth : Method) (c : Code) (A : Nat → Prop) (c0 s0 : Nat) (Q : State → Prop), zCx p l R s m args c A own cc nL G fr lo um c0 s0 ∧ J = Jw p l e R s m args below meth c G A nL c0 s0 Q ∧ JX = Jx p l e R s m args below meth c G A nL c0 s0 Q
