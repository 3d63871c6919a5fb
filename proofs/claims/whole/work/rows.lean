section
/-! ===== BEGIN words of one list among another's, by their places ===== -/
theorem goodIn_r {big : List Cond} (ws : List Cond) (ps : List Nat) (hp : ws = ps.filterMap (fun i => big[i]?)) (h : ws.all goodWord = true) : GoodIn big ws := by
  intro w hw
  have h1 := List.all_eq_true.mp h w hw
  rw [hp] at hw
  obtain ⟨i, -, hi⟩ := List.mem_filterMap.mp hw
  have hm : w ∈ big := by first | exact List.mem_of_getElem? hi | exact List.getElem?_mem hi
  exact ⟨hm, good_of_word h1⟩
theorem goodIn_app {big a b : List Cond} (ha : GoodIn big a) (hb : GoodIn big b) : GoodIn big (a ++ b) := fun w h => (List.mem_append.mp h).elim (ha w) (hb w)
theorem goodIn_ca {big a b : List Cond} {c : Cond} (ha : GoodIn big (c :: a)) (hb : GoodIn big b) : GoodIn big (c :: (a ++ b)) := fun w h => (List.mem_cons.mp h).elim (fun e => ha w (List.mem_cons.mpr (Or.inl e))) (fun h => (List.mem_append.mp h).elim (fun h => ha w (List.mem_cons.mpr (Or.inr h))) (hb w))
theorem goodIn_sub {big ws : List Cond} (hm : ∀ w ∈ ws, w ∈ big) (h : ws.all goodWord = true) : GoodIn big ws := fun w hw => ⟨hm w hw, good_of_word (List.all_eq_true.mp h w hw)⟩
/-! ===== END ===== -/
/-! ===== BEGIN exceptions that leave a method, and their catching by the caller (launches without stack traces) ===== -/
section VXA
/-! The laws vx_back, vx_callV, vx_callS, vx_callSW, vx_throw0, vx_throwS follow proofs of the library, with one case more: JvmDerived/Free/Laws.lean (Back.of_free), Shelf42/LK1.lean (callV, callS), Shelf/KitTraced.lean (throwNew0V, throwNewS). -/
/-- where a method has thrown q: the class by its name, the cell, what was written, the world -/
def vx_T (XC : String → State → State → Prop) (st : State) (q : Addr) (t : State) (mc ms : Nat) (free : Addr → Prop) : Prop :=
  ∃ (E : String) (ce : Cell) (L : List Loc), XC E st t ∧ t.heap[q]? = some ce ∧ ce.vm = .none ∧ st.vm.findClass E = some ce.cls ∧ st.WarmedH t.vm ∧ st.sameButNew ({ t with vm := st.vm } : State) L mc ms ∧ ∀ z ∈ L, free z.base
def vx_Q (Qc : Array Value → State → Outcome → State → Prop) (XC : String → State → State → Prop) (mc ms : Nat) (free : Addr → Prop) : Array Value → State → Outcome → State → Prop := fun a st o t =>
  (Qc a st o t ∧ ∃ L, FrameEnd st o t L mc ms ∧ ∀ q ∈ L, free q.base) ∨ ∃ q, o = .threw q ∧ vx_T XC st q t mc ms free
/-- a callee that returns or throws -/
def vx_Met (l : Launch) (y : MethodName) (ws : List Cond) (rm : Room) (Pc : Array Value → State → Prop) (Qc : Array Value → State → Outcome → State → Prop) (XC : String → State → State → Prop) (mc ms : Nat) (free : Addr → Prop) : Prop :=
  MetFree l y (headSpec ws rm) Pc (fun _ _ _ _ _ => True) (vx_Q Qc XC mc ms free)
def vx_Post (XC : String → State → State → Prop) (mc ms : Nat) (free : Addr → Prop) : Pt → Array Value → Addr → Pt → Prop := fun A a q B =>
  ∃ (g : JFrame) (mk : MethodId) (t : State) (L : List Loc) (E : String) (ce : Cell), B.U.heap = t.heap ∧ B.U.vm = t.vm ∧ XC E (A.U.calling g mk a) t ∧ t.heap[q]? = some ce ∧ ce.vm = .none ∧ A.U.vm.findClass E = some ce.cls ∧ B.locs = A.locs ++ L ∧ (∀ z ∈ L, free z.base) ∧ B.cells = A.cells + mc ∧ B.slots = A.slots + ms
def vx_Back (l : Launch) (R : Room) (p : Program) (e : Env) (below : List Frame) (s : State) (sargs : Array Value) (y : MethodName) (len W9 : Nat)
    (Pre : Pt → Array Value → Prop) (Post : Pt → Array Value → Option Value → Pt → Prop) (PostX : Pt → Array Value → Addr → Pt → Prop) : Prop :=
  ∀ (m : MethodId) (meth : Method) (c : Code) (A : Pt) (g : JFrame) (ig : Instr) (mk : MethodId) (a : Array Value),
    Stand p l e R s m sargs below meth c A.U A.locs A.cells A.slots → g.method = m → g.locals.size = c.maxLocals → decode c.code g.pc = .ok (ig, len) →
    2 * g.monitorRoom + (g.stack.map fun v => v.category).sum ≤ W9 → A.U.methodNamed? y = some mk → Pre A a →
    (∃ (v : Option Value) (B : Pt), Stand p l e R s m sargs below meth c B.U B.locs B.cells B.slots ∧ Post A a v B ∧
      Steps p.tables e below (doInvoke e (A.U.setTop g) [] mk a).1 (B.U.setTop { g with pc := g.pc + len, stack := v.toList ++ g.stack })) ∨
    (∃ (q : Addr) (B : Pt), Stand p l e R s m sargs below meth c B.U B.locs B.cells B.slots ∧ PostX A a q B ∧
      Steps p.tables e below (doInvoke e (A.U.setTop g) [] mk a).1 ((B.U.setTop g).pushFrame (.throwing q)))
section Payer
variable {l : Launch} {R : Room} {p : Program} {e : Env} {below : List Frame} {s : State} {sargs : Array Value} {y : MethodName} {len W9 : Nat}
theorem vx_back {ws : List Cond} {rm : Room} {Pc : Array Value → State → Prop} {Qc : Array Value → State → Outcome → State → Prop} {XC : String → State → State → Prop} {mc ms : Nat} {free : Addr → Prop} {bytes : ByteArray} {maxL : Nat} {ret : Option FieldType}
    (hM : vx_Met l y ws rm Pc Qc XC mc ms free) (hblind : FrameBlind Pc) (hrc : rm.cells = mc) (hrs : rm.slots = ms)
    (hframes : rm.frames + 1 ≤ R.frames) (hlocals : W9 + (maxL + 11) + rm.locals ≤ R.locals)
    (hws : ∀ w ∈ ws, ∀ a' U, s.WarmedH U.vm → w.before a' U = true) (hcode : Cond.code y bytes maxL ret ∈ ws) (hinit : ∀ a' U, s.WarmedH U.vm → (Cond.initialized y.cls).before a' U = true) :
    vx_Back l R p e below s sargs y len W9 (PreOf R mc ms Pc) (PostOf Qc mc ms free) (vx_Post XC mc ms free) := by
  intro m meth c A g ig mk a X hg hsize hdg hW hn hp
  have h1 : (headSpec ws rm).pre.before a A.U = true := atoms_intro fun w hw => hws w hw _ _ X.warmed
  have h2 : (Cond.code y bytes maxL ret).before a A.U = true := hws _ hcode _ _ X.warmed
  have h3 : (Cond.initialized y.cls).before a A.U = true := hinit _ _ X.warmed
  have h4 : A.cells + (headSpec ws rm).room.cells ≤ R.cells := by rw [show (headSpec ws rm).room.cells = mc from hrc]; exact hp.1
  have h5 : A.slots + (headSpec ws rm).room.slots ≤ R.slots := by rw [show (headSpec ws rm).room.slots = ms from hrs]; exact hp.2.1
  have hPc : Pc a (A.U.calling g mk a) := hblind _ _ _ _ hp.2.2
  obtain ⟨U, Ls, c0, s0⟩ := A
  dsimp only [Pt.U, Pt.locs, Pt.cells, Pt.slots] at h1 h2 h3 h4 h5 X hn hPc ⊢
  obtain ⟨methY, cY, hmY, hcY, -, hlY, -, -, -, -⟩ := Cond.code_spec hn h2
  obtain ⟨kY, hkY, -⟩ := className_of_methodNamed hn
  have hinitY : kY.init = .initialized := Cond.initialized_spec (findClass_of_methodNamed hn) hkY h3
  have h : At U g.method c below := by rw [hg]; exact X.here
  have hlocals9 : W9 + (maxL + 11) + (headSpec ws rm).room.locals ≤ R.locals := hlocals
  have happ : (headSpec ws rm).appliesLoose y e.platform (U.calling g mk a) = true :=
    Spec.appliesLoose_calling (g := g) h hdg hn hkY hinitY
      (X.room_calling (g := g) (R' := (headSpec ws rm).room) hsize hmY hcY hframes (by rw [hlY]; omega) h4 h5) h1
  obtain ⟨mid, hmid⟩ := h.above
  have hfr : (U.setTop g).frames = (.java g :: mid) ++ below := by rw [State.frames_setTop' g h.top, hmid]; rfl
  obtain ⟨o, s₂, hsteps, -, hend, hq⟩ := Steps.callFree hM p X.admits X.cas X.clock (acts := []) hfr happ hPc trivial
  have hq' : vx_Q Qc XC mc ms free a (U.calling g mk a) o s₂ := hq
  rw [State.frames_setTop' g h.top] at hend
  obtain ⟨g₀, hg0⟩ := Option.isSome_iff_exists.mp h.top
  obtain ⟨r, hr⟩ := State.topJava?_eq_some.mp hg0
  have hr' : (({ U with heap := s₂.heap, slotsUsed := s₂.slotsUsed } : State).setVm s₂.vm).frames = .java g₀ :: r := hr
  rcases hq' with ⟨hqc, L, hfe, hL⟩ | ⟨q, rfl, E, ce, L, hx, hce, hcv, hcl, hW₂, hsm, hL⟩
  · obtain ⟨⟨v, rfl⟩, hW₂, e2, q2, q3, q4, q5, q6⟩ := id hfe
    have e3 : s₂ = ({ (U.calling g mk a).setFrames s₂.frames with heap := s₂.heap, slotsUsed := s₂.slotsUsed } : State).setVm s₂.vm := by
      have : s₂ = ({ s₂ with vm := (U.calling g mk a).vm } : State).setVm s₂.vm := rfl
      rw [e2] at this
      exact this
    obtain ⟨c₂, i₂, len₂, hc₂, hd₂, hf₂⟩ := hend
    have hW' : U.WarmedH s₂.vm := hW₂
    have hcc : c₂ = c := by
      have h1 : s₂.code? g.method = U.code? g.method := by
        rw [State.code?_eq, State.code?_eq, hW'.alike.method?]
      exact Option.some.inj (hc₂.symm.trans (h1.trans h.code))
    subst hcc
    have hlen : len₂ = len := by rw [hdg] at hd₂; cases hd₂; rfl
    subst hlen
    have hs₂ : s₂ = (({ U with heap := s₂.heap, slotsUsed := s₂.slotsUsed } : State).setVm s₂.vm).setTop { g with pc := g.pc + len₂, stack := v.toList ++ g.stack } := by
      refine e3.trans ?_
      rw [hf₂, State.calling_eq h.top, State.setFrames_setFrames, State.setTop_of_frames _ hr', hr]
      rfl
    have hsame : U.sameButNew ({ U with heap := s₂.heap, slotsUsed := s₂.slotsUsed } : State) L mc ms := by
      refine ⟨?_, q2, q3, q4, q5, q6⟩
      obtain ⟨t, ht, -⟩ := State.frames_cons hr
      show ({ U with heap := s₂.heap, slotsUsed := s₂.slotsUsed } : State) = { U.setFrames U.frames with heap := s₂.heap, slotsUsed := s₂.slotsUsed }
      rw [State.setFrames_self ht]
    subst hg
    refine Or.inl ⟨v, ⟨(({ U with heap := s₂.heap, slotsUsed := s₂.slotsUsed } : State).setVm s₂.vm), Ls ++ L, c0 + mc, s0 + ms⟩,
      ⟨X.admits, X.cas, X.clock, X.frames, X.room, X.hears, X.method, X.code, (X.here.setHeapUsed s₂.heap s₂.slotsUsed).setVm hW'.alike, X.tail, State.WarmedH.trans X.warmed hW', X.limits, X.bytes, X.same.trans (hsame.setVm s.vm)⟩,
      ⟨g, mk, s₂, L, rfl, rfl, hqc, rfl, hL, rfl, rfl⟩, ?_⟩
    show Steps p.tables e below _ ((({ U with heap := s₂.heap, slotsUsed := s₂.slotsUsed } : State).setVm s₂.vm).setTop { g with pc := g.pc + len₂, stack := v.toList ++ g.stack })
    rw [← hs₂]
    exact hsteps
  · obtain ⟨e2, q2, q3, q4, q5, q6⟩ := id hsm
    have e3 : s₂ = ({ (U.calling g mk a).setFrames s₂.frames with heap := s₂.heap, slotsUsed := s₂.slotsUsed } : State).setVm s₂.vm := by
      have : s₂ = ({ s₂ with vm := (U.calling g mk a).vm } : State).setVm s₂.vm := rfl
      rw [e2] at this
      exact this
    have hf₂ : s₂.frames = .throwing q :: .java g :: U.frames.tail := hend
    have hW' : U.WarmedH s₂.vm := hW₂
    have hs₂ : s₂ = ((({ U with heap := s₂.heap, slotsUsed := s₂.slotsUsed } : State).setVm s₂.vm).setTop g).pushFrame (.throwing q) := by
      refine e3.trans ?_
      rw [hf₂, State.calling_eq h.top, State.setFrames_setFrames, State.pushFrame, State.frames_setTop _ hr', State.setTop_of_frames _ hr', State.setFrames_setFrames, hr]
      rfl
    have hsame : U.sameButNew ({ U with heap := s₂.heap, slotsUsed := s₂.slotsUsed } : State) L mc ms := by
      refine ⟨?_, q2, q3, q4, q5, q6⟩
      obtain ⟨t, ht, -⟩ := State.frames_cons hr
      show ({ U with heap := s₂.heap, slotsUsed := s₂.slotsUsed } : State) = { U.setFrames U.frames with heap := s₂.heap, slotsUsed := s₂.slotsUsed }
      rw [State.setFrames_self ht]
    subst hg
    refine Or.inr ⟨q, ⟨(({ U with heap := s₂.heap, slotsUsed := s₂.slotsUsed } : State).setVm s₂.vm), Ls ++ L, c0 + mc, s0 + ms⟩,
      ⟨X.admits, X.cas, X.clock, X.frames, X.room, X.hears, X.method, X.code, (X.here.setHeapUsed s₂.heap s₂.slotsUsed).setVm hW'.alike, X.tail, State.WarmedH.trans X.warmed hW', X.limits, X.bytes, X.same.trans (hsame.setVm s.vm)⟩,
      ⟨g, mk, s₂, L, E, ce, rfl, rfl, hx, hce, hcv, hcl, rfl, hL, rfl, rfl⟩, ?_⟩
    show Steps p.tables e below _ (((({ U with heap := s₂.heap, slotsUsed := s₂.slotsUsed } : State).setVm s₂.vm).setTop g).pushFrame (.throwing q))
    rw [← hs₂]
    exact hsteps
end Payer
section Calls
variable {p : Program} {l : Launch} {e : Env} {R : Room} {s : State} {m : MethodId} {args : Array Value} {below : List Frame} {meth : Method} {c : Code} {T : State} {locs : List Loc} {cells slots : Nat}
theorem vx_callV (X : Stand p l e R s m args below meth c T locs cells slots) (hexec : p.tables.exec = Jvm.exec) {own C : String} {index : Nat} {y : MethodName} {bytes : ByteArray} {maxL : Nat} {ret : Option FieldType}
    (hown : s.vm.findClass own = some m.cls) (hlink : (Cond.methodLink own index y).before args s = true) (hinst : (Cond.instanceMethod y).before args s = true) (hsel : (Cond.selects C y y).before args s = true)
    (hcode : (Cond.code y bytes maxL ret).before args s = true) (hy : y.cls ≠ "java/lang/invoke/MethodHandle" ∧ y.cls ≠ "java/lang/invoke/VarHandle")
    {W9 : Nat} {Pre : Pt → Array Value → Prop} {Post : Pt → Array Value → Option Value → Pt → Prop} {PostX : Pt → Array Value → Addr → Pt → Prop} (hK : vx_Back l R p e below s args y 3 W9 Pre Post PostX)
    {b : Addr} {cellB : Cell} (hcell : T.heap[b]? = some cellB) (hobj : cellB.vm.isStatics = false) (hcls : s.vm.findClass C = some cellB.cls)
    {g : JFrame} (hg : g.method = m) (hsize : g.locals.size = c.maxLocals) {argsL rest : List Value} (hlen : ∀ sig, parseMethodDescriptor y.desc = some sig → argsL.length = sig.parameters.length)
    (hstack : g.stack = argsL.reverse ++ .ref b :: rest) (hW : 2 * g.monitorRoom + (rest.map fun v => v.category).sum ≤ W9) (hdg : decode c.code g.pc = .ok (.invokevirtual index, 3))
    (hpre : ∀ vm₁, s.WarmedH vm₁ → Pre ⟨T.setVm vm₁, locs, cells, slots⟩ (Value.ref b :: argsL).toArray) :
    (∃ (v : Option Value) (vm₁ : Vm) (B : Pt), s.WarmedH vm₁ ∧ Stand p l e R s m args below meth c B.U B.locs B.cells B.slots ∧ Post ⟨T.setVm vm₁, locs, cells, slots⟩ (Value.ref b :: argsL).toArray v B ∧
      ∀ target, Steps p.tables e below (B.U.setTop { g with pc := g.pc + 3, stack := v.toList ++ rest }) target → Steps p.tables e below (T.setTop g) target) ∨
    (∃ (q : Addr) (vm₁ : Vm) (B : Pt), s.WarmedH vm₁ ∧ Stand p l e R s m args below meth c B.U B.locs B.cells B.slots ∧ PostX ⟨T.setVm vm₁, locs, cells, slots⟩ (Value.ref b :: argsL).toArray q B ∧
      Steps p.tables e below (T.setTop g) ((B.U.setTop { g with stack := rest }).pushFrame (.throwing q))) := by
  obtain ⟨mk, methM, hnamed, hmethM, hstM, habM⟩ := Cond.instanceMethod_spec hinst
  obtain ⟨methM', cM, hmethM', -, -, -, -, -, -, hsigM⟩ := Cond.code_spec hnamed hcode
  cases hmethM.symm.trans hmethM'
  obtain ⟨c2, r2, m2, q1, q2, q3, q4, kP, hkP, hkPi⟩ := Cond.selects_spec hsel
  cases hcls.symm.trans q1
  cases (State.methodFound?_of_named hnamed hy).symm.trans q2
  cases hnamed.symm.trans q3
  have hselP : selectMethod e.platform s.vm cellB.cls mk = .method mk := by rw [Launch.admits_selectMethod X.admits]; exact q4
  obtain ⟨vm₁, X₁, hstep₁⟩ := X.invokevirtual hexec hown hlink hnamed hmethM hstM hkP hkPi hy (a := b) (cell := cellB) hcell
    (fun z h => by rw [h] at hobj; cases hobj) hselP hmethM habM hkP hkPi (g := g) hg (argsL := argsL) (rest := rest) (hlen _ hsigM) hstack hdg
  rcases hK m meth c ⟨T.setVm vm₁, locs, cells, slots⟩ { g with stack := rest } (.invokevirtual index) mk (Value.ref b :: argsL).toArray X₁ hg hsize hdg hW (X₁.named hnamed) (hpre vm₁ X₁.warmed) with ⟨v, B, X', hpost, hsteps⟩ | ⟨q, B, X', hpost, hsteps⟩
  · exact Or.inl ⟨v, vm₁, B, X₁.warmed, X', hpost, fun target h => hstep₁ _ fun acts => by rw [doInvoke_state]; exact hsteps.trans h⟩
  · exact Or.inr ⟨q, vm₁, B, X₁.warmed, X', hpost, hstep₁ _ fun acts => by rw [doInvoke_state]; exact hsteps⟩
theorem vx_callS (X : Stand p l e R s m args below meth c T locs cells slots) (hexec : p.tables.exec = Jvm.exec) {own : String} {index : Nat} {y : MethodName} {bytes : ByteArray} {maxL : Nat} {ret : Option FieldType}
    (hown : s.vm.findClass own = some m.cls) (hlink : (Cond.methodLink own index y).before args s = true) (hstat : (Cond.static y).before args s = true) (hinit : (Cond.initialized y.cls).before args s = true)
    (hcode : (Cond.code y bytes maxL ret).before args s = true) (hy : y.cls ≠ "java/lang/invoke/MethodHandle" ∧ y.cls ≠ "java/lang/invoke/VarHandle")
    {W9 : Nat} {Pre : Pt → Array Value → Prop} {Post : Pt → Array Value → Option Value → Pt → Prop} {PostX : Pt → Array Value → Addr → Pt → Prop} (hK : vx_Back l R p e below s args y 3 W9 Pre Post PostX)
    {g : JFrame} (hg : g.method = m) (hsize : g.locals.size = c.maxLocals) {argsL rest : List Value} (hlen : ∀ sig, parseMethodDescriptor y.desc = some sig → argsL.length = sig.parameters.length)
    (hstack : g.stack = argsL.reverse ++ rest) (hW : 2 * g.monitorRoom + (rest.map fun v => v.category).sum ≤ W9) (hdg : decode c.code g.pc = .ok (.invokestatic index, 3))
    (hpre : ∀ vm₁, s.WarmedH vm₁ → Pre ⟨T.setVm vm₁, locs, cells, slots⟩ argsL.toArray) :
    (∃ (v : Option Value) (vm₁ : Vm) (B : Pt), s.WarmedH vm₁ ∧ Stand p l e R s m args below meth c B.U B.locs B.cells B.slots ∧ Post ⟨T.setVm vm₁, locs, cells, slots⟩ argsL.toArray v B ∧
      ∀ target, Steps p.tables e below (B.U.setTop { g with pc := g.pc + 3, stack := v.toList ++ rest }) target → Steps p.tables e below (T.setTop g) target) ∨
    (∃ (q : Addr) (vm₁ : Vm) (B : Pt), s.WarmedH vm₁ ∧ Stand p l e R s m args below meth c B.U B.locs B.cells B.slots ∧ PostX ⟨T.setVm vm₁, locs, cells, slots⟩ argsL.toArray q B ∧
      Steps p.tables e below (T.setTop g) ((B.U.setTop { g with stack := rest }).pushFrame (.throwing q))) := by
  obtain ⟨mk, hnamed⟩ := Cond.code_named hcode
  obtain ⟨methM, cM, hmethM, -, -, -, -, -, -, hsigM⟩ := Cond.code_spec hnamed hcode
  have hstatic : methM.isStatic = true := Cond.static_spec hnamed hmethM hstat
  obtain ⟨kP, hkP, -⟩ := className_of_methodNamed hnamed
  have hinitP : kP.init = .initialized := Cond.initialized_spec (findClass_of_methodNamed hnamed) hkP hinit
  obtain ⟨vm₁, X₁, hstep₁⟩ := X.invokestatic hexec hown hlink hnamed hmethM hstatic hkP hinitP hy (g := g) hg (argsL := argsL) (rest := rest) (hlen _ hsigM) hstack hdg
  rcases hK m meth c ⟨T.setVm vm₁, locs, cells, slots⟩ { g with stack := rest } (.invokestatic index) mk argsL.toArray X₁ hg hsize hdg hW (X₁.named hnamed) (hpre vm₁ X₁.warmed) with ⟨v, B, X', hpost, hsteps⟩ | ⟨q, B, X', hpost, hsteps⟩
  · exact Or.inl ⟨v, vm₁, B, X₁.warmed, X', hpost, fun target h => hstep₁ _ fun acts => by rw [doInvoke_state]; exact hsteps.trans h⟩
  · exact Or.inr ⟨q, vm₁, B, X₁.warmed, X', hpost, hstep₁ _ fun acts => by rw [doInvoke_state]; exact hsteps⟩
end Calls
theorem vx_cls {s : State} {T : State} {vm₁ : Vm} {E : String} {k : ClassId} (hW : s.WarmedH vm₁) (h : (T.setVm vm₁).vm.findClass E = some k) : s.vm.findClass E = some k := by
  have h1 : vm₁.findClass E = some k := h
  rw [hW.alike.findClass] at h1
  exact h1
/-- the method's frame g, with q thrown over it -/
def vx_W (p : Program) (l : Launch) (e : Env) (R : Room) (s : State) (m : MethodId) (args : Array Value) (below : List Frame) (meth : Method) (c : Code) (H : Heap) (locs : List Loc) (cells slots : Nat) (Q : State → Prop) (g : JFrame) (q : Addr) : Prop :=
  ∀ T : State, T.heap = H → Stand p l e R s m args below meth c T locs cells slots → ∃ t, Steps p.tables e below ((T.setTop g).pushFrame (.throwing q)) t ∧ Q t
def vx_Run (p : Program) (l : Launch) (e : Env) (R : Room) (s : State) (m : MethodId) (args : Array Value) (below : List Frame) (meth : Method) (c : Code) (H : Heap) (locs : List Loc) (cells slots mc ms : Nat) (g : JFrame) (rest : List Value) (Qa : State → Outcome → State → Prop) (XC : String → State → State → Prop) (free : Addr → Prop) : Prop :=
  ∀ T : State, T.heap = H → Stand p l e R s m args below meth c T locs cells slots →
    (∃ (v : Option Value) (st₀ t T' : State) (L : List Loc), st₀.heap = H ∧ Stand p l e R s m args below meth c T' (locs ++ L) (cells + mc) (slots + ms) ∧ (∀ q ∈ L, free q.base) ∧ T'.heap = t.heap ∧ T'.vm = t.vm ∧ Qa st₀ (.returned v) t ∧
      Goes p e below T g T' { g with pc := g.pc + 3, stack := v.toList ++ rest }) ∨
    (∃ (q : Addr) (st₀ t T' : State) (L : List Loc) (E : String) (ce : Cell), st₀.heap = H ∧ Stand p l e R s m args below meth c T' (locs ++ L) (cells + mc) (slots + ms) ∧ (∀ z ∈ L, free z.base) ∧ T'.heap = t.heap ∧ T'.vm = t.vm ∧ XC E st₀ t ∧ t.heap[q]? = some ce ∧ ce.vm = .none ∧ s.vm.findClass E = some ce.cls ∧
      Steps p.tables e below (T.setTop g) ((T'.setTop { g with stack := rest }).pushFrame (.throwing q)))
def vx_X {S : Type} (px : S → Prop) (B : String → S → State → Prop) (A : Nat → Prop) : String → State → State → Prop := fun E st t => ∃ u : S, px u ∧ B E u t ∧ va_F A st t
section Runs
variable {p : Program} {l : Launch} {e : Env} {R : Room} {s : State} {m : MethodId} {args : Array Value} {below : List Frame} {meth : Method} {c : Code} {H : Heap} {locs : List Loc} {cells slots : Nat}
variable {y : MethodName} {bytes cc : ByteArray} {maxL nL mc ms n index : Nat} {ret : Option FieldType} {ws : List Cond} {rm : Room} {Pc : Array Value → State → Prop} {Qc : Array Value → State → Outcome → State → Prop} {XC : String → State → State → Prop} {free : Addr → Prop} {Ts : List Cond} {own C : String} {b : Addr} {As rest : List Value} {g : JFrame}
theorem vx_callBack (cb : CallB R s args own index y bytes maxL ret ws rm mc ms n) (hM : vx_Met l y ws rm Pc Qc XC mc ms free) (hbl : FrameBlind Pc) : vx_Back l R p e below s args y 3 8 (PreOf R mc ms Pc) (PostOf Qc mc ms free) (vx_Post XC mc ms free) := by
  obtain ⟨hrc, hrs, hfr, hlo, hws, hcw, -, hini, -⟩ := cb
  exact vx_back (bytes := bytes) (maxL := maxL) (ret := ret) hM hbl hrc hrs hfr hlo hws hcw (fun a' U hW => word_at hW (Or.inl (by first | rfl | simp [Cond.onTables, Cond.keeps, Cond.steady])) hini)
theorem vx_runV (S : CallFix p m c cc nL s args Ts own) (hM : vx_Met l y ws rm Pc Qc XC mc ms free) (cw : CallW R s args own C index y bytes maxL ret ws rm mc ms n) (hp : PreV s H C b Pc As)
    (hg : g.method = m) (hn : As.length = n) (hsize : g.locals.size = nL) (hstack : g.stack = As.reverse ++ .ref b :: rest) (hW : 2 * g.monitorRoom + (rest.map fun v => v.category).sum ≤ 8) (hdg : decode cc g.pc = .ok (.invokevirtual index, 3)) (hf : cells + mc ≤ R.cells ∧ slots + ms ≤ R.slots) :
    vx_Run p l e R s m args below meth c H locs cells slots mc ms g rest (Qc (Value.ref b :: As).toArray) XC free := by
  have hK : vx_Back l R p e below s args y 3 8 (PreOf R mc ms Pc) (PostOf Qc mc ms free) (vx_Post XC mc ms free) := vx_callBack cw.1 hM hp.1
  obtain ⟨⟨-, -, -, -, -, -, hcode, -, hy, hlen, hl⟩, hin, hse⟩ := cw
  obtain ⟨hx, hb, hml, ho, -⟩ := S
  obtain ⟨-, ⟨cellB, hcB, hoB, hclB⟩, hPc⟩ := hp
  intro T hT X
  rcases vx_callV X hx (C := C) (bytes := bytes) (maxL := maxL) (ret := ret) ho hl hin hse hcode hy hK (by rw [hT]; exact hcB) hoB hclB hg (hsize.trans hml.symm) (argsL := As) (rest := rest) (fun sig h => hn.trans (hlen sig h)) hstack hW (by rw [hb]; exact hdg)
    (fun vm₁ hW₁ => ⟨hf.1, hf.2, hPc (T.setVm vm₁) hT hW₁⟩) with ⟨v, vm₁, ⟨U', l2, c2, s2⟩, hW₁, X', ⟨g', mk, t, L, e1, e2, hq, h1, hL, h2, h3⟩, st⟩ | ⟨q, vm₁, ⟨U', l2, c2, s2⟩, hW₁, X', ⟨g', mk, t, L, E, ce, e1, e2, hq, hce, hcv, hcl, h1, hL, h2, h3⟩, st⟩
  · dsimp only [Pt.U, Pt.locs, Pt.cells, Pt.slots] at X' e1 e2 h1 h2 h3 st
    subst h1; subst h2; subst h3
    exact Or.inl ⟨v, (T.setVm vm₁).calling g' mk (Value.ref b :: As).toArray, t, U', L, hT, X', hL, e1, e2, hq, st⟩
  · dsimp only [Pt.U, Pt.locs, Pt.cells, Pt.slots] at X' e1 e2 h1 h2 h3 st hcl
    subst h1; subst h2; subst h3
    exact Or.inr ⟨q, (T.setVm vm₁).calling g' mk (Value.ref b :: As).toArray, t, U', L, E, ce, hT, X', hL, e1, e2, hq, hce, hcv, vx_cls hW₁ hcl, st⟩
theorem vx_runS (S : CallFix p m c cc nL s args Ts own) (hM : vx_Met l y ws rm Pc Qc XC mc ms free) (cw : CallB R s args own index y bytes maxL ret ws rm mc ms n ∧ (Cond.static y).before args s = true) (hp : PreS s H Pc As)
    (hg : g.method = m) (hn : As.length = n) (hsize : g.locals.size = nL) (hstack : g.stack = As.reverse ++ rest) (hW : 2 * g.monitorRoom + (rest.map fun v => v.category).sum ≤ 8) (hdg : decode cc g.pc = .ok (.invokestatic index, 3)) (hf : cells + mc ≤ R.cells ∧ slots + ms ≤ R.slots) :
    vx_Run p l e R s m args below meth c H locs cells slots mc ms g rest (Qc As.toArray) XC free := by
  have hK : vx_Back l R p e below s args y 3 8 (PreOf R mc ms Pc) (PostOf Qc mc ms free) (vx_Post XC mc ms free) := vx_callBack cw.1 hM hp.1
  obtain ⟨⟨-, -, -, -, -, -, hcode, hini, hy, hlen, hl⟩, hstt⟩ := cw
  obtain ⟨hx, hb, hml, ho, -⟩ := S
  intro T hT X
  rcases vx_callS X hx (bytes := bytes) (maxL := maxL) (ret := ret) ho hl hstt hini hcode hy hK hg (hsize.trans hml.symm) (argsL := As) (rest := rest) (fun sig h => hn.trans (hlen sig h)) hstack hW (by rw [hb]; exact hdg)
    (fun vm₁ hW₁ => ⟨hf.1, hf.2, hp.2 (T.setVm vm₁) hT hW₁⟩) with ⟨v, vm₁, ⟨U', l2, c2, s2⟩, hW₁, X', ⟨g', mk, t, L, e1, e2, hq, h1, hL, h2, h3⟩, st⟩ | ⟨q, vm₁, ⟨U', l2, c2, s2⟩, hW₁, X', ⟨g', mk, t, L, E, ce, e1, e2, hq, hce, hcv, hcl, h1, hL, h2, h3⟩, st⟩
  · dsimp only [Pt.U, Pt.locs, Pt.cells, Pt.slots] at X' e1 e2 h1 h2 h3 st
    subst h1; subst h2; subst h3
    exact Or.inl ⟨v, (T.setVm vm₁).calling g' mk As.toArray, t, U', L, hT, X', hL, e1, e2, hq, st⟩
  · dsimp only [Pt.U, Pt.locs, Pt.cells, Pt.slots] at X' e1 e2 h1 h2 h3 st hcl
    subst h1; subst h2; subst h3
    exact Or.inr ⟨q, (T.setVm vm₁).calling g' mk As.toArray, t, U', L, E, ce, hT, X', hL, e1, e2, hq, hce, hcv, vx_cls hW₁ hcl, st⟩
end Runs
section Rows
variable {p : Program} {l : Launch} {e : Env} {R : Room} {s : State} {m : MethodId} {args : Array Value} {below : List Frame} {meth : Method} {c : Code} {H : Heap} {locs : List Loc} {cells slots : Nat} {Q : State → Prop}
variable {mc ms : Nat} {free : Addr → Prop} {A0 A1 : Nat → Prop} {H0 : Heap} {a : Array Value} {pc : Nat} {ls : Array Slot} {st0 rest : List Value}
theorem vx_keep {st₀ t T' : State} {L : List Loc} (h0 : st₀.heap = H) (e1 : T'.heap = t.heap) (hS : va_S A0 H0 H locs) (hA : ∀ q, q < H.size → A1 q → A0 q) (hf : ∀ q, free q → A0 q) (hL : ∀ q ∈ L, free q.base) (hF : va_F A1 st₀ t) :
    H.size ≤ T'.heap.size ∧ (∀ q : Nat, q < H.size → ¬ A1 q → T'.heap[q]? = H[q]?) ∧ va_S A0 H0 T'.heap (locs ++ L) := by
  obtain ⟨hz, hk⟩ := hF
  rw [h0] at hz hk
  exact ⟨by rw [e1]; exact hz, fun q h1 h2 => by rw [e1]; exact hk q h1 h2,
    ⟨Nat.le_trans hS.1 (by rw [e1]; exact hz), fun q h1 h2 => by rw [e1, hk q (Nat.lt_of_lt_of_le h1 hS.1) (fun z => h2 (hA q (Nat.lt_of_lt_of_le h1 hS.1) z))]; exact hS.2.1 q h1 h2, fun q hq => by
      rcases List.mem_append.mp hq with h | h
      · exact hS.2.2 q h
      · exact hf _ (hL q h)⟩⟩
theorem vx_calli {S SX : Type} {post : Int32 → S → Prop} {px : SX → Prop} {B : S → State → Prop} {BX : String → SX → State → Prop} {AX : Nat → Prop} (hr : vx_Run p l e R s m args below meth c H locs cells slots mc ms (F0 m pc ls st0) rest (va_Qi post B A1 a) (vx_X px BX AX) free) (hS : va_S A0 H0 H locs) (hA : ∀ q, q < H.size → A1 q → A0 q) (hf : ∀ q, free q → A0 q) (hAX : ∀ q, q < H.size → AX q → A0 q)
    (kx : ∀ (E : String) (ce : Cell) (q9 : Addr) (u : SX) (t : State) (H1 : Heap) (locs1 : List Loc), t.heap = H1 → s.vm.Alike t.vm → px u → BX E u t → H.size ≤ H1.size → (∀ q : Nat, q < H.size → ¬ AX q → H1[q]? = H[q]?) → va_S A0 H0 H1 locs1 → H1[q9]? = some ce → ce.vm = .none → s.vm.findClass E = some ce.cls → vx_W p l e R s m args below meth c H1 locs1 (cells + mc) (slots + ms) Q (F0 m pc ls rest) q9)
    (kk : ∀ (r : Int32) (u : S) (t : State) (H1 : Heap) (locs1 : List Loc), t.heap = H1 → s.vm.Alike t.vm → post r u → B u t → H.size ≤ H1.size → (∀ q : Nat, q < H.size → ¬ A1 q → H1[q]? = H[q]?) → va_S A0 H0 H1 locs1 → W p l e R s m args below meth c H1 locs1 (cells + mc) (slots + ms) Q (F0 m (pc + 3) ls (.int r :: rest))) : W p l e R s m args below meth c H locs cells slots Q (F0 m pc ls st0) := by
  intro T hT X
  rcases hr T hT X with ⟨v, st₀, t, T', L, h0, X', hL, e1, e2, ⟨⟨r, u, hv, hp, hb⟩, hF⟩, st⟩ | ⟨q, st₀, t, T', L, E, ce, h0, X', hL, e1, e2, ⟨u, hp, hb, hF⟩, hce, hcv, hcl, st⟩
  · cases hv
    obtain ⟨k1, k2, k3⟩ := vx_keep h0 e1 hS hA hf hL hF
    obtain ⟨t2, a1, b1⟩ := kk r u t T'.heap (locs ++ L) e1.symm (by rw [← e2]; exact X'.warmed.alike) hp hb k1 k2 k3 T' rfl X'
    exact ⟨t2, st t2 a1, b1⟩
  · obtain ⟨k1, k2, k3⟩ := vx_keep h0 e1 hS hAX hf hL hF
    obtain ⟨t2, a1, b1⟩ := kx E ce q u t T'.heap (locs ++ L) e1.symm (by rw [← e2]; exact X'.warmed.alike) hp hb k1 k2 k3 (by rw [e1]; exact hce) hcv hcl T' rfl X'
    exact ⟨t2, st.trans a1, b1⟩
theorem vx_calll {S SX : Type} {post : Int64 → S → Prop} {px : SX → Prop} {B : S → State → Prop} {BX : String → SX → State → Prop} {AX : Nat → Prop} (hr : vx_Run p l e R s m args below meth c H locs cells slots mc ms (F0 m pc ls st0) rest (va_Ql post B A1 a) (vx_X px BX AX) free) (hS : va_S A0 H0 H locs) (hA : ∀ q, q < H.size → A1 q → A0 q) (hf : ∀ q, free q → A0 q) (hAX : ∀ q, q < H.size → AX q → A0 q)
    (kx : ∀ (E : String) (ce : Cell) (q9 : Addr) (u : SX) (t : State) (H1 : Heap) (locs1 : List Loc), t.heap = H1 → s.vm.Alike t.vm → px u → BX E u t → H.size ≤ H1.size → (∀ q : Nat, q < H.size → ¬ AX q → H1[q]? = H[q]?) → va_S A0 H0 H1 locs1 → H1[q9]? = some ce → ce.vm = .none → s.vm.findClass E = some ce.cls → vx_W p l e R s m args below meth c H1 locs1 (cells + mc) (slots + ms) Q (F0 m pc ls rest) q9)
    (kk : ∀ (r : Int64) (u : S) (t : State) (H1 : Heap) (locs1 : List Loc), t.heap = H1 → s.vm.Alike t.vm → post r u → B u t → H.size ≤ H1.size → (∀ q : Nat, q < H.size → ¬ A1 q → H1[q]? = H[q]?) → va_S A0 H0 H1 locs1 → W p l e R s m args below meth c H1 locs1 (cells + mc) (slots + ms) Q (F0 m (pc + 3) ls (.long r :: rest))) : W p l e R s m args below meth c H locs cells slots Q (F0 m pc ls st0) := by
  intro T hT X
  rcases hr T hT X with ⟨v, st₀, t, T', L, h0, X', hL, e1, e2, ⟨⟨r, u, hv, hp, hb⟩, hF⟩, st⟩ | ⟨q, st₀, t, T', L, E, ce, h0, X', hL, e1, e2, ⟨u, hp, hb, hF⟩, hce, hcv, hcl, st⟩
  · cases hv
    obtain ⟨k1, k2, k3⟩ := vx_keep h0 e1 hS hA hf hL hF
    obtain ⟨t2, a1, b1⟩ := kk r u t T'.heap (locs ++ L) e1.symm (by rw [← e2]; exact X'.warmed.alike) hp hb k1 k2 k3 T' rfl X'
    exact ⟨t2, st t2 a1, b1⟩
  · obtain ⟨k1, k2, k3⟩ := vx_keep h0 e1 hS hAX hf hL hF
    obtain ⟨t2, a1, b1⟩ := kx E ce q u t T'.heap (locs ++ L) e1.symm (by rw [← e2]; exact X'.warmed.alike) hp hb k1 k2 k3 (by rw [e1]; exact hce) hcv hcl T' rfl X'
    exact ⟨t2, st.trans a1, b1⟩
theorem vx_callf {S SX : Type} {post : UInt32 → S → Prop} {px : SX → Prop} {B : S → State → Prop} {BX : String → SX → State → Prop} {AX : Nat → Prop} (hr : vx_Run p l e R s m args below meth c H locs cells slots mc ms (F0 m pc ls st0) rest (va_Qf post B A1 a) (vx_X px BX AX) free) (hS : va_S A0 H0 H locs) (hA : ∀ q, q < H.size → A1 q → A0 q) (hf : ∀ q, free q → A0 q) (hAX : ∀ q, q < H.size → AX q → A0 q)
    (kx : ∀ (E : String) (ce : Cell) (q9 : Addr) (u : SX) (t : State) (H1 : Heap) (locs1 : List Loc), t.heap = H1 → s.vm.Alike t.vm → px u → BX E u t → H.size ≤ H1.size → (∀ q : Nat, q < H.size → ¬ AX q → H1[q]? = H[q]?) → va_S A0 H0 H1 locs1 → H1[q9]? = some ce → ce.vm = .none → s.vm.findClass E = some ce.cls → vx_W p l e R s m args below meth c H1 locs1 (cells + mc) (slots + ms) Q (F0 m pc ls rest) q9)
    (kk : ∀ (r : UInt32) (u : S) (t : State) (H1 : Heap) (locs1 : List Loc), t.heap = H1 → s.vm.Alike t.vm → post r u → B u t → H.size ≤ H1.size → (∀ q : Nat, q < H.size → ¬ A1 q → H1[q]? = H[q]?) → va_S A0 H0 H1 locs1 → W p l e R s m args below meth c H1 locs1 (cells + mc) (slots + ms) Q (F0 m (pc + 3) ls (.float r :: rest))) : W p l e R s m args below meth c H locs cells slots Q (F0 m pc ls st0) := by
  intro T hT X
  rcases hr T hT X with ⟨v, st₀, t, T', L, h0, X', hL, e1, e2, ⟨⟨r, u, hv, hp, hb⟩, hF⟩, st⟩ | ⟨q, st₀, t, T', L, E, ce, h0, X', hL, e1, e2, ⟨u, hp, hb, hF⟩, hce, hcv, hcl, st⟩
  · cases hv
    obtain ⟨k1, k2, k3⟩ := vx_keep h0 e1 hS hA hf hL hF
    obtain ⟨t2, a1, b1⟩ := kk r u t T'.heap (locs ++ L) e1.symm (by rw [← e2]; exact X'.warmed.alike) hp hb k1 k2 k3 T' rfl X'
    exact ⟨t2, st t2 a1, b1⟩
  · obtain ⟨k1, k2, k3⟩ := vx_keep h0 e1 hS hAX hf hL hF
    obtain ⟨t2, a1, b1⟩ := kx E ce q u t T'.heap (locs ++ L) e1.symm (by rw [← e2]; exact X'.warmed.alike) hp hb k1 k2 k3 (by rw [e1]; exact hce) hcv hcl T' rfl X'
    exact ⟨t2, st.trans a1, b1⟩
theorem vx_calld {S SX : Type} {post : UInt64 → S → Prop} {px : SX → Prop} {B : S → State → Prop} {BX : String → SX → State → Prop} {AX : Nat → Prop} (hr : vx_Run p l e R s m args below meth c H locs cells slots mc ms (F0 m pc ls st0) rest (va_Qd post B A1 a) (vx_X px BX AX) free) (hS : va_S A0 H0 H locs) (hA : ∀ q, q < H.size → A1 q → A0 q) (hf : ∀ q, free q → A0 q) (hAX : ∀ q, q < H.size → AX q → A0 q)
    (kx : ∀ (E : String) (ce : Cell) (q9 : Addr) (u : SX) (t : State) (H1 : Heap) (locs1 : List Loc), t.heap = H1 → s.vm.Alike t.vm → px u → BX E u t → H.size ≤ H1.size → (∀ q : Nat, q < H.size → ¬ AX q → H1[q]? = H[q]?) → va_S A0 H0 H1 locs1 → H1[q9]? = some ce → ce.vm = .none → s.vm.findClass E = some ce.cls → vx_W p l e R s m args below meth c H1 locs1 (cells + mc) (slots + ms) Q (F0 m pc ls rest) q9)
    (kk : ∀ (r : UInt64) (u : S) (t : State) (H1 : Heap) (locs1 : List Loc), t.heap = H1 → s.vm.Alike t.vm → post r u → B u t → H.size ≤ H1.size → (∀ q : Nat, q < H.size → ¬ A1 q → H1[q]? = H[q]?) → va_S A0 H0 H1 locs1 → W p l e R s m args below meth c H1 locs1 (cells + mc) (slots + ms) Q (F0 m (pc + 3) ls (.double r :: rest))) : W p l e R s m args below meth c H locs cells slots Q (F0 m pc ls st0) := by
  intro T hT X
  rcases hr T hT X with ⟨v, st₀, t, T', L, h0, X', hL, e1, e2, ⟨⟨r, u, hv, hp, hb⟩, hF⟩, st⟩ | ⟨q, st₀, t, T', L, E, ce, h0, X', hL, e1, e2, ⟨u, hp, hb, hF⟩, hce, hcv, hcl, st⟩
  · cases hv
    obtain ⟨k1, k2, k3⟩ := vx_keep h0 e1 hS hA hf hL hF
    obtain ⟨t2, a1, b1⟩ := kk r u t T'.heap (locs ++ L) e1.symm (by rw [← e2]; exact X'.warmed.alike) hp hb k1 k2 k3 T' rfl X'
    exact ⟨t2, st t2 a1, b1⟩
  · obtain ⟨k1, k2, k3⟩ := vx_keep h0 e1 hS hAX hf hL hF
    obtain ⟨t2, a1, b1⟩ := kx E ce q u t T'.heap (locs ++ L) e1.symm (by rw [← e2]; exact X'.warmed.alike) hp hb k1 k2 k3 (by rw [e1]; exact hce) hcv hcl T' rfl X'
    exact ⟨t2, st.trans a1, b1⟩
theorem vx_callv {S SX : Type} {post : S → Prop} {px : SX → Prop} {B : S → State → Prop} {BX : String → SX → State → Prop} {AX : Nat → Prop} (hr : vx_Run p l e R s m args below meth c H locs cells slots mc ms (F0 m pc ls st0) rest (va_Qv post B A1 a) (vx_X px BX AX) free) (hS : va_S A0 H0 H locs) (hA : ∀ q, q < H.size → A1 q → A0 q) (hf : ∀ q, free q → A0 q) (hAX : ∀ q, q < H.size → AX q → A0 q)
    (kx : ∀ (E : String) (ce : Cell) (q9 : Addr) (u : SX) (t : State) (H1 : Heap) (locs1 : List Loc), t.heap = H1 → s.vm.Alike t.vm → px u → BX E u t → H.size ≤ H1.size → (∀ q : Nat, q < H.size → ¬ AX q → H1[q]? = H[q]?) → va_S A0 H0 H1 locs1 → H1[q9]? = some ce → ce.vm = .none → s.vm.findClass E = some ce.cls → vx_W p l e R s m args below meth c H1 locs1 (cells + mc) (slots + ms) Q (F0 m pc ls rest) q9)
    (kk : ∀ (u : S) (t : State) (H1 : Heap) (locs1 : List Loc), t.heap = H1 → s.vm.Alike t.vm → post u → B u t → H.size ≤ H1.size → (∀ q : Nat, q < H.size → ¬ A1 q → H1[q]? = H[q]?) → va_S A0 H0 H1 locs1 → W p l e R s m args below meth c H1 locs1 (cells + mc) (slots + ms) Q (F0 m (pc + 3) ls (rest))) : W p l e R s m args below meth c H locs cells slots Q (F0 m pc ls st0) := by
  intro T hT X
  rcases hr T hT X with ⟨v, st₀, t, T', L, h0, X', hL, e1, e2, ⟨⟨u, hv, hp, hb⟩, hF⟩, st⟩ | ⟨q, st₀, t, T', L, E, ce, h0, X', hL, e1, e2, ⟨u, hp, hb, hF⟩, hce, hcv, hcl, st⟩
  · cases hv
    obtain ⟨k1, k2, k3⟩ := vx_keep h0 e1 hS hA hf hL hF
    obtain ⟨t2, a1, b1⟩ := kk u t T'.heap (locs ++ L) e1.symm (by rw [← e2]; exact X'.warmed.alike) hp hb k1 k2 k3 T' rfl X'
    exact ⟨t2, st t2 a1, b1⟩
  · obtain ⟨k1, k2, k3⟩ := vx_keep h0 e1 hS hAX hf hL hF
    obtain ⟨t2, a1, b1⟩ := kx E ce q u t T'.heap (locs ++ L) e1.symm (by rw [← e2]; exact X'.warmed.alike) hp hb k1 k2 k3 (by rw [e1]; exact hce) hcv hcl T' rfl X'
    exact ⟨t2, st.trans a1, b1⟩
/-- caught by the row x of this method's table; the rows ahead don't take it -/
theorem vx_catch {own name : String} {E : String} {ce : Cell} {q : Addr} (hown : s.vm.findClass own = some m.cls) (pre : List ExceptionTableEntry) (x : ExceptionTableEntry) (suf : List ExceptionTableEntry) (hsplit : c.exceptionTable.toList = pre ++ x :: suf)
    (hpass : ∀ z ∈ pre, covers z pc = false ∨ (z.catchType ≠ 0 ∧ ∃ nm : String, (Cond.classLink own z.catchType nm).before args s = true ∧ va_Nc E nm s)) (hx : covers x pc = true) (h0 : x.catchType ≠ 0)
    (hlink : (Cond.classLink own x.catchType name).before args s = true) (hcast : (Cond.castable E name).before args s = true) (hcell : H[q]? = some ce) (hv : ce.vm = .none) (hcl : s.vm.findClass E = some ce.cls)
    (kk : W p l e R s m args below meth c H locs cells slots Q (F0 m x.handlerPc ls [.ref q])) : vx_W p l e R s m args below meth c H locs cells slots Q (F0 m pc ls rest) q := by
  intro T hT X
  have hpl : e.platform.magicAccessors = ({} : Platform).magicAccessors := by rw [X.admits.platform]
  obtain ⟨c3, c4, hc3, hc4, hasg⟩ := Cond.castable_spec hcast
  cases Option.some.inj (hc3.symm.trans hcl)
  obtain ⟨c5, hc5, hcl5⟩ := Cond.classLink_spec hown hlink e.platform hpl
  cases Option.some.inj (hc4.symm.trans hc5)
  obtain ⟨vm', X', st⟩ := X.thenCaughtThrough q (g := F0 m pc ls rest) rfl (Steps.refl _) (by rw [hT]; exact hcell) (by rw [hv]; rfl) (by obtain ⟨k9, h9, -⟩ := Vm.findClass_spec hcl; exact ⟨k9, h9⟩) pre x suf hsplit
    (fun z hz => by
      rcases hpass z hz with h | ⟨hz0, nm, hl1, hn1⟩
      · exact Or.inl h
      · obtain ⟨c6, hc6, hcl6⟩ := Cond.classLink_spec hown hl1 e.platform hpl
        obtain ⟨a8, b8, h1, h2, h3⟩ := hn1
        cases Option.some.inj (h1.symm.trans hcl)
        cases Option.some.inj (h2.symm.trans hc6)
        exact Or.inr ⟨hz0, _, hcl6, h3⟩) hx (Or.inr ⟨h0, c4, hcl5, hasg⟩)
  obtain ⟨t, a1, b1⟩ := kk (T.setVm vm') hT X'
  exact ⟨t, st.trans a1, b1⟩
end Rows
section Ends
variable {p : Program} {l : Launch} {e : Env} {R : Room} {s : State} {m : MethodId} {args : Array Value} {below : List Frame} {meth : Method} {c : Code} {H : Heap} {locs : List Loc} {cells slots : Nat} {Q : State → Prop}
variable {mc ms : Nat} {free : Addr → Prop} {A0 A1 : Nat → Prop} {H0 : Heap} {a : Array Value} {ls : Array Slot} {st0 rest : List Value}
variable {Qc : Array Value → State → Outcome → State → Prop} {XC : String → State → State → Prop}
/-- what a body that may throw owes at its end -/
def vx_MQ (below : List Frame) (Qc : Array Value → State → Outcome → State → Prop) (XC : String → State → State → Prop) (a : Array Value) (s : State) (mc ms : Nat) (free : Addr → Prop) : State → Prop := fun t =>
  ∃ o, t.status = .running ∧ Ended t below o ∧ vx_Q Qc XC mc ms free a s o t
theorem vx_ret {g : JFrame} {mc ms : Nat} (k : W p l e R s m args below meth c H locs cells slots (MQ below Qc args s mc ms free) g) : W p l e R s m args below meth c H locs cells slots (vx_MQ below Qc XC args s mc ms free) g := by
  intro T hT X
  obtain ⟨t, a1, o, b1, b2, b3, b4⟩ := k T hT X
  exact ⟨t, a1, o, b1, b2, Or.inl ⟨b3, b4⟩⟩
/-- not caught here: it goes on to the caller -/
theorem vx_widen {g : JFrame} {q : Addr} {k n : Nat} (h1 : cells ≤ k) (h2 : slots ≤ n) (kk : vx_W p l e R s m args below meth c H locs k n Q g q) : vx_W p l e R s m args below meth c H locs cells slots Q g q := fun T hT X => kk T hT (stand_widen X h1 h2)
theorem vx_out {pc : Nat} {E : String} {ce : Cell} {q : Addr} {mc ms : Nat} (hout : ∀ x ∈ c.exceptionTable.toList, covers x pc = false) (hlocks : meth.locks = false) (hcell : H[q]? = some ce) (hv : ce.vm = .none) (hcl : s.vm.findClass E = some ce.cls)
    (hx : ∀ t : State, t.heap = H → s.vm.Alike t.vm → XC E s t) (hf : ∀ z ∈ locs, free z.base) (hc : cells ≤ mc) (hs : slots ≤ ms) :
    vx_W p l e R s m args below meth c H locs cells slots (vx_MQ below Qc XC args s mc ms free) (F0 m pc ls rest) q := by
  intro T hT X
  obtain ⟨st1, hrun, hend, hW, hsm⟩ := X.leaveThrown q (g := F0 m pc ls rest) rfl rfl rfl hout hlocks
  have hcell9 : (T.setFrames (.throwing q :: below)).heap[q]? = some ce := by
    show T.heap[q]? = some ce
    rw [hT]; exact hcell
  exact ⟨_, st1, .threw q, hrun, hend, Or.inr ⟨q, rfl, E, ce, locs, hx _ hT hW.alike, hcell9, hv, hcl, hW, hsm.mono hc hs, hf⟩⟩
theorem vx_frame {U : State} {k n : Nat} (h : s.sameButNew ({ U with vm := s.vm } : State) locs k n) : s.heap.size ≤ U.heap.size ∧ ∀ q : Nat, q < s.heap.size → (∀ z ∈ locs, z.base ≠ q) → U.heap[q]? = s.heap[q]? := by
  obtain ⟨-, h2, -, -, -, h6⟩ := h
  refine ⟨h2, fun q hq hz => ?_⟩
  obtain ⟨c9, e1, e2, e3, e4⟩ := h6 q _ (Array.getElem?_eq_getElem hq)
  have hs : c9.slots = (s.heap[q]).slots := Array.ext_getElem? fun i => e4 i fun hm => hz _ hm rfl
  have h9 : c9 = s.heap[q] := by
    rw [hs] at e2
    exact e2
  have e5 : U.heap[q]? = some c9 := e1
  rw [e5, h9, Array.getElem?_eq_getElem hq]
/-- the words of a throw but the four that speak of the heap -/
def vx_no (w : Cond) : Bool := decide (w ≠ .isRef (.static Bundle.tN "UNASSIGNED_STACK" Bundle.steD)) && decide (w ≠ .isRef (.static Bundle.tN "SUPPRESSED_SENTINEL" Bundle.listD)) && decide (w ≠ .laysStatic Bundle.tN "UNASSIGNED_STACK" Bundle.steD) && decide (w ≠ .laysStatic Bundle.tN "SUPPRESSED_SENTINEL" Bundle.listD)
def vx_at0 (own : String) (ic : Nat) (X : String) (names : List String) : List Cond := (Bundle.ownAtoms0 own ic X names).filter vx_no
def vx_atS (own : String) (ic : Nat) (X : String) (names : List String) : List Cond := (Bundle.ownAtoms own ic X names).filter vx_no
/-- a word that the tables alone decide, or a good one -/
def vx_ot (w : Cond) : Bool := w.onTables || goodWord w
theorem vx_ot_at {args a' : Array Value} {s U : State} {w : Cond} (hW : s.WarmedH U.vm) (hvm : s.vm = U.vm) (hg : vx_ot w = true) (h : w.before args s = true) : w.before a' U = true := by
  simp only [vx_ot, Bool.or_eq_true] at hg
  rcases hg with hg | hg
  · exact va_tabs hg hvm h
  · exact word_at hW (good_of_word hg) h
/-- a list's words: the good ones out of the method's own list, the others by premises of their own -/
theorem vx_hat {args : Array Value} {s : State} {L B : List Cond} (h1 : ∀ w ∈ L.filter goodWord, w.before args s = true) (h2 : ∀ w ∈ L.filter (fun w => !goodWord w), w ∈ B) (h3 : ∀ w ∈ B, w.before args s = true) : ∀ w ∈ L, w.before args s = true := by
  intro w hw
  by_cases g : goodWord w = true
  · exact h1 w (List.mem_filter.mpr ⟨hw, g⟩)
  · refine h3 w (h2 w (List.mem_filter.mpr ⟨hw, ?_⟩))
    show (!goodWord w) = true
    cases hgw : goodWord w
    · rfl
    · exact absurd hgw g
theorem vx_c {args : Array Value} {s : State} {w : Cond} {B : List Cond} (h : w.before args s = true) (t : ∀ w ∈ B, w.before args s = true) : ∀ w' ∈ w :: B, w'.before args s = true := fun w' h' => (List.mem_cons.mp h').elim (fun e => by rw [e]; exact h) (t w')
theorem vx_n {args : Array Value} {s : State} : ∀ w ∈ ([] : List Cond), w.before args s = true := fun _ h => nomatch h
theorem vx_own {args : Array Value} {s : State} {L : List Cond} (h1 : ∀ w ∈ L.filter vx_no, w.before args s = true)
    (hU : (Cond.isRef (.static Bundle.tN "UNASSIGNED_STACK" Bundle.steD)).before args s = true) (hN : (Cond.isRef (.static Bundle.tN "SUPPRESSED_SENTINEL" Bundle.listD)).before args s = true)
    (lU : (Cond.laysStatic Bundle.tN "UNASSIGNED_STACK" Bundle.steD).before args s = true) (lN : (Cond.laysStatic Bundle.tN "SUPPRESSED_SENTINEL" Bundle.listD).before args s = true) : ∀ w ∈ L, w.before args s = true := by
  intro w hw
  by_cases e1 : w = .isRef (.static Bundle.tN "UNASSIGNED_STACK" Bundle.steD)
  · rw [e1]; exact hU
  · by_cases e2 : w = .isRef (.static Bundle.tN "SUPPRESSED_SENTINEL" Bundle.listD)
    · rw [e2]; exact hN
    · by_cases e3 : w = .laysStatic Bundle.tN "UNASSIGNED_STACK" Bundle.steD
      · rw [e3]; exact lU
      · by_cases e4 : w = .laysStatic Bundle.tN "SUPPRESSED_SENTINEL" Bundle.listD
        · rw [e4]; exact lN
        · exact h1 w (List.mem_filter.mpr ⟨hw, by unfold vx_no; rw [decide_eq_true e1, decide_eq_true e2, decide_eq_true e3, decide_eq_true e4]; rfl⟩)
/-- where a static field lies, its class's statics cell in H -/
def vx_L (C n d : String) (A : Nat → Prop) (U : State) (H : Heap) : Prop := ∃ (c : ClassId) (k : Class) (i : Nat) (f : Field) (a : Nat) (cell : Cell), U.vm.findClass C = some c ∧ U.fieldFound? C n d = some (c, k, i, f) ∧ f.isStatic = true ∧ k.statics = some a ∧ H[a]? = some cell ∧ cell.vm.isStatics = true ∧ cell.cls = c ∧ f.slot < cell.slots.size ∧ k.staticTypes[f.slot]? = some f.type ∧ ¬ A a
theorem vx_L.moved {C n d : String} {A : Nat → Prop} {u U : State} {H : Heap} (hvm : u.vm.Alike U.vm) (h : vx_L C n d A u H) : vx_L C n d A U H := by
  obtain ⟨c, k, i, f, a, cell, h1, h2, h3, h4, h5, h6, h7, h8, h9, h10⟩ := h
  obtain ⟨k', hi', he⟩ := State.fieldFound?_setVm hvm h2
  exact ⟨c, k', i, f, a, cell, by rw [hvm.findClass]; exact h1, hi', h3, by rw [he]; exact h4, h5, h6, h7, h8, by rw [he]; exact h9, h10⟩
theorem vx_L.kept {C n d : String} {A : Nat → Prop} {U : State} {H H1 : Heap} (h : vx_L C n d A U H) (hq : ∀ a : Nat, a < H.size → ¬ A a → H1[a]? = H[a]?) : vx_L C n d A U H1 := by
  obtain ⟨c, k, i, f, a, cell, h1, h2, h3, h4, h5, h6, h7, h8, h9, h10⟩ := h
  exact ⟨c, k, i, f, a, cell, h1, h2, h3, h4, by rw [hq a (Array.getElem?_eq_some_iff.mp h5).1 h10]; exact h5, h6, h7, h8, h9, h10⟩
theorem vx_L.narrow {C n d : String} {A B : Nat → Prop} {U : State} {H : Heap} (h : vx_L C n d A U H) (hAB : ∀ q, B q → A q) : vx_L C n d B U H := by
  obtain ⟨c, k, i, f, a, cell, h1, h2, h3, h4, h5, h6, h7, h8, h9, h10⟩ := h
  exact ⟨c, k, i, f, a, cell, h1, h2, h3, h4, h5, h6, h7, h8, h9, fun z => h10 (hAB _ z)⟩
theorem vx_L.word {C n d : String} {A : Nat → Prop} {s : State} {args : Array Value} (h : vx_L C n d A s s.heap) : (Cond.laysStatic C n d).before args s = true := by
  obtain ⟨c, k, i, f, a, cell, h1, h2, h3, h4, h5, h6, h7, h8, h9, -⟩ := h
  show (Cond.laysStatic C n d).holds args s none s [] = true
  exact Cond.laysStatic_of h1 h2 h3 h4 h5 h6 h7 h8 h9
/-- .. and what it holds: null or some reference -/
def vx_Zq (C n d : String) (A : Nat → Prop) (U : State) (H : Heap) : Prop := va_Zq C n d A U H ∧ vx_L C n d A U H
theorem vx_Zq.moved {C n d : String} {A : Nat → Prop} {u U : State} {H : Heap} (hvm : u.vm.Alike U.vm) (h : vx_Zq C n d A u H) : vx_Zq C n d A U H := ⟨va_Zq.moved hvm h.1, vx_L.moved hvm h.2⟩
theorem vx_Zq.kept {C n d : String} {A : Nat → Prop} {U : State} {H H1 : Heap} (h : vx_Zq C n d A U H) (hq : ∀ a : Nat, a < H.size → ¬ A a → H1[a]? = H[a]?) : vx_Zq C n d A U H1 := ⟨va_Zq.kept h.1 hq, vx_L.kept h.2 hq⟩
theorem vx_Zq.narrow {C n d : String} {A B : Nat → Prop} {U : State} {H : Heap} (h : vx_Zq C n d A U H) (hAB : ∀ q, B q → A q) : vx_Zq C n d B U H := ⟨va_Zq.narrow h.1 hAB, vx_L.narrow h.2 hAB⟩
theorem vx_Zqof {args : Array Value} {s : State} {C n d : String} {A : Nat → Prop} (hl : (Cond.laysStatic C n d).before args s = true) (hini : (Cond.initialized C).before args s = true) (h : (Cond.isRef (.static C n d)).before args s = true) (hA : ∀ a : Nat, a < s.heap.size → ¬ A a) : vx_Zq C n d A s s.heap := by
  refine ⟨va_Zqof hl hini h hA, ?_⟩
  obtain ⟨c, k, i, f, a, cell, h1, h2, h3, h4, h5, h6, h7, h8, h9⟩ := Cond.laysStatic_spec hl
  exact ⟨c, k, i, f, a, cell, h1, h2, h3, h4, h5, h6, h7, h8, h9, hA a (Array.getElem?_eq_some_iff.mp h5).1⟩
theorem vx_isRef {C n d : String} {v : Value} {A : Nat → Prop} {s : State} {args : Array Value} (h : va_Z C n d v A s s.heap) (hv : v.isRef = true) : (Cond.isRef (.static C n d)).before args s = true := by
  obtain ⟨cf, kf, fi, f, a, cell, h1, h2, h3, h4, h5, h6, h7, -⟩ := h
  have he : (Term.static C n d).eval args s none [] s = some v := by
    simp [Term.eval, State.fieldNamed?, h1, h2, h4, h5, h6, h7]
  simp only [Cond.before, Cond.holds, Cond.value, he]
  cases v <;> simp_all [Value.isRef]
theorem vx_isRefq {C n d : String} {A : Nat → Prop} {s : State} {args : Array Value} (h : va_Zq C n d A s s.heap) : (Cond.isRef (.static C n d)).before args s = true := by
  rcases h with h | ⟨t, h⟩
  · exact vx_isRef h rfl
  · exact vx_isRef h rfl
/-- the same frame, seen from here: as if the method were called anew in this heap -/
theorem vx_rebase {T : State} (X : Stand p l e R s m args below meth c T locs cells slots) {R' : Room} (hf : R'.frames ≤ R.frames) (hl : R'.locals ≤ R.locals) (hc : cells + R'.cells ≤ R.cells) (hs : slots + R'.slots ≤ R.slots) :
    Stand p l e R' ((T.setVm s.vm).setFrames (.invoking m args :: below)) m args below meth c T [] 0 0 := by
  have htop : (T.setVm s.vm).topJava?.isSome := X.here.top
  have hF : ((T.setVm s.vm).setFrames (.invoking m args :: below)).frames = .invoking m args :: below := State.frames_setFrames _ (State.cur_lt_of_top htop)
  obtain ⟨g₀, hg0⟩ := Option.isSome_iff_exists.mp htop
  obtain ⟨r, hr⟩ := State.topJava?_eq_some.mp hg0
  have hl9 : e.platform.stackLimits (T.setVm s.vm).me = e.platform.stackLimits s.me := X.limits
  have hb9 : (T.setVm s.vm).me.stackBytes = s.me.stackBytes := X.bytes
  refine ⟨X.admits, X.cas, X.clock, hF, ?_, X.hears, X.method, X.code, X.here, X.tail, X.warmed, ?_, ?_, ?_⟩
  · have h := X.room
    have hU : ((T.setVm s.vm).setFrames (.invoking m args :: below)).localsInUse = s.localsInUse := by
      rw [State.localsInUse_invoking hF (meth := meth) (c := c) X.method X.code, State.localsInUse_invoking X.frames X.method X.code]
    simp only [State.hasRoom, Bool.and_eq_true, decide_eq_true_eq] at h ⊢
    obtain ⟨⟨⟨⟨h1, h2, h3, h4, h5, h6⟩, h7⟩, h8⟩, h9⟩ := h
    rw [X.frames, List.length_cons] at h2 h3
    have q1 := X.heapSize
    have q2 := X.used
    simp only [hF, hU, List.length_cons, State.stackLimits_setFrames, State.stackBytes_setFrames, hl9, hb9]
    refine ⟨⟨⟨⟨by omega, by omega, by omega, by omega, by omega, h6⟩, ?_⟩, ?_⟩, X.book⟩
    · show T.heap.size + R'.cells ≤ e.platform.maxCells
      omega
    · show T.slotsUsed + R'.slots ≤ e.platform.maxSlots
      omega
  · rw [State.stackLimits_setFrames]; rfl
  · rw [State.stackBytes_setFrames]; rfl
  · refine ⟨?_, Nat.le_refl _, Nat.le_refl _, ?_, ?_, fun a c9 h9 => ⟨c9, h9, rfl, rfl, fun _ _ => rfl⟩⟩
    · obtain ⟨t, ht, -⟩ := State.frames_cons hr
      show T.setVm s.vm = { ((T.setVm s.vm).setFrames (.invoking m args :: below)).setFrames (T.setVm s.vm).frames with heap := T.heap, slotsUsed := T.slotsUsed }
      rw [State.setFrames_setFrames, State.setFrames_self ht]
      rfl
    · show T.slotsUsed = T.slotsUsed + ((T.heap.toList.drop T.heap.size).map (·.slots.size)).sum
      rw [List.drop_eq_nil_of_le (Nat.le_of_eq Array.length_toList)]
      rfl
    · show ((T.heap.toList.drop T.heap.size).map (·.slots.size)).sum ≤ 0
      rw [List.drop_eq_nil_of_le (Nat.le_of_eq Array.length_toList)]
      exact Nat.le_refl _
/-- 'throw new E()': new; dup; invokespecial; athrow -/
theorem vx_throw0 {cc : ByteArray} {pc : Nat} (hexec : p.tables.exec = Jvm.exec) (hb : c.code = cc) (hl : l.stackTraces = false) {own cls : String} {names : List String} {ik ic mc ms : Nat} {A : Nat → Prop}
    (hown : s.vm.findClass own = some m.cls) (hcls : Bundle.fit cls = true) (hnames : ∀ n ∈ names, Bundle.fit n = true)
    (hk : (Cond.classLink own ik cls).before args s = true) (hini : (Cond.initialized cls).before args s = true) (hat : ∀ w ∈ vx_at0 own ic cls names, w.before args s = true)
    (hgood : ∀ w ∈ Cond.classLink own ik cls :: Cond.initialized cls :: vx_at0 own ic cls names, vx_ot w = true)
    (hU : vx_Zq Bundle.tN "UNASSIGNED_STACK" Bundle.steD A s s.heap) (hN : vx_Zq Bundle.tN "SUPPRESSED_SENTINEL" Bundle.listD A s s.heap) (hS : va_S A s.heap H locs) (hsize : ls.size = c.maxLocals)
    (d0 : decode cc pc = .ok (.new ik, 3)) (d3 : decode cc (pc + 3) = .ok (.dup, 1)) (d4 : decode cc (pc + 4) = .ok (.invokespecial ic, 3)) (d7 : decode cc (pc + 7) = .ok (.athrow, 1))
    (hout : ∀ x ∈ c.exceptionTable.toList, covers x (pc + 7) = false)
    (hRframes : names.length + 3 < R.frames) (hRlocals : (rest.map fun v => v.category).sum + (13 * (names.length + 1) + 42) ≤ R.locals) (hRcells : cells + 1 ≤ R.cells) (hRslots : slots + 6 ≤ R.slots) (hlocks : meth.locks = false)
    (hx : ∀ t : State, s.vm.Alike t.vm → H.size ≤ t.heap.size → (∀ q : Nat, q < H.size → t.heap[q]? = H[q]?) → XC cls s t)
    (hf : ∀ z ∈ locs, free z.base) (hc : cells + 1 ≤ mc) (hs : slots + 6 ≤ ms) :
    W p l e R s m args below meth c H locs cells slots (vx_MQ below Qc XC args s mc ms free) (F0 m pc ls rest) := by
  intro T hT X
  have htr : e.platform.stackTraces = false := (show e.platform.stackTraces = l.stackTraces by rw [X.admits.platform]).trans hl
  have Y := vx_rebase X (R' := { frames := R.frames, locals := R.locals, cells := 1, slots := 6 }) (Nat.le_refl _) (Nat.le_refl _) hRcells hRslots
  obtain ⟨s', hA⟩ : ∃ z, z = (T.setVm s.vm).setFrames (.invoking m args :: below) := ⟨_, rfl⟩
  rw [← hA] at Y
  have hvm : s'.vm = s.vm := by rw [hA]; rfl
  have hhp : s'.heap = H := by rw [hA]; exact hT
  have hW0 : s.WarmedH s'.vm := by rw [hvm]; exact State.WarmedH.refl s
  have hat' : ∀ w ∈ vx_at0 own ic cls names, w.before args s' = true := fun w hw => vx_ot_at hW0 hvm.symm (hgood w (List.mem_cons_of_mem _ (List.mem_cons_of_mem _ hw))) (hat w hw)
  have hk' : (Cond.classLink own ik cls).before args s' = true := vx_ot_at hW0 hvm.symm (hgood _ List.mem_cons_self) hk
  have hini' : (Cond.initialized cls).before args s' = true := vx_ot_at hW0 hvm.symm (hgood _ (List.mem_cons_of_mem _ List.mem_cons_self)) hini
  have hU' : vx_Zq Bundle.tN "UNASSIGNED_STACK" Bundle.steD A s' s'.heap := by rw [hhp]; exact vx_Zq.moved hW0.alike (hU.kept hS.2.1)
  have hN' : vx_Zq Bundle.tN "SUPPRESSED_SENTINEL" Bundle.listD A s' s'.heap := by rw [hhp]; exact vx_Zq.moved hW0.alike (hN.kept hS.2.1)
  have h : ∀ w ∈ Bundle.ownAtoms0 own ic cls names, w.before args s' = true := vx_own hat' (vx_isRefq hU'.1) (vx_isRefq hN'.1) hU'.2.word hN'.2.word
  have hown' : s'.vm.findClass own = some m.cls := by rw [hvm]; exact hown
  have hins : (Cond.instantiable cls 6).before args s' = true := h _ (by simp [Bundle.ownAtoms0])
  obtain ⟨vm₁, cX, kX, hfX, hkX, -, -, X₁, st1⟩ := Y.newCold hexec (own := own) (C := cls) (index := ik) (n := 6) hown' hk' hins hini'
    (g := F0 m pc ls rest) rfl (by rw [hb]; exact d0) (Nat.le_refl _) (Nat.le_refl _)
  generalize hT1 : (T.setVm vm₁).pushCell { cls := cX, slots := kX.instanceTypes.map defaultValue, vm := .none } = T1 at X₁ st1
  have hcat : (Value.ref T.heap.size).category = 1 := rfl
  have hcellA : T1.heap[T.heap.size]? = some (freshCell cX kX) := by rw [← hT1]; exact State.heap_pushCell_size _ _
  have d3' : decode c.code (pc + 3) = .ok (.dup, 1) := by rw [hb]; exact d3
  obtain ⟨U, hsteps, hrun, hend, hW, hsame, ce, hce, hO⟩ := X₁.ctorThrow0 hexec htr (own := own) (cls := cls) (names := names) (ic := ic) hown' hcls hnames h (fun x hx => nomatch hx) hfX hkX hcellA (by rw [hhp, hT]; exact Nat.le_refl _)
    (g := { method := m, pc := pc + 4, locals := ls, stack := .ref T.heap.size :: .ref T.heap.size :: rest, locked := none }) rfl hsize rfl rfl (rest := rest) rfl
    (by rw [hb]; exact d4) (by rw [hb]; exact d7) hout hRframes (by simp only [List.map_cons, List.sum_cons, hcat]; omega) hlocks
  obtain ⟨f1, f2⟩ := vx_frame hsame
  rw [hhp] at f1 f2
  have hWs : s.WarmedH U.vm := State.WarmedH.trans hW0 hW
  have hcl : s.vm.findClass cls = some ce.cls := by
    have h9 := hO.cls
    rw [hvm] at h9
    exact h9
  have hall : s.sameButNew ({ U with vm := s.vm } : State) locs mc ms := by
    subst hA
    obtain ⟨e1, e2⟩ := hsame
    rw [State.setFrames_setFrames] at e1
    have h2 : (T.setVm s.vm).sameButNew ({ U with vm := s.vm } : State) [] (0 + 1) (0 + 6) := ⟨e1, e2⟩
    have h3 := X.same.trans h2
    rw [List.append_nil] at h3
    exact h3.mono hc hs
  refine ⟨U, ?_, .threw T.heap.size, hrun, hend, Or.inr ⟨T.heap.size, rfl, cls, ce, locs, hx U hWs.alike f1 (fun q hq => f2 q hq (fun z hz => nomatch hz)), hce, hO.vm, hcl, hWs, hall, hf⟩⟩
  refine st1 _ ?_
  show Steps p.tables e below (T1.setTop { method := m, pc := pc + 3, locals := ls, stack := .ref T.heap.size :: rest, locked := none }) _
  jvm_step X₁.here [X₁.here.top, hexec, d3', Value.category]
  exact hsteps
/-- 'throw new E("text")': new; dup; ldc; invokespecial; athrow -/
theorem vx_throwS {cc : ByteArray} {pc : Nat} (hexec : p.tables.exec = Jvm.exec) (hb : c.code = cc) (hl : l.stackTraces = false) {own cls text : String} {names : List String} {ik is ic mc ms sa : Nat} {A : Nat → Prop}
    (hown : s.vm.findClass own = some m.cls) (hcls : Bundle.fit cls = true) (hnames : ∀ n ∈ names, Bundle.fit n = true)
    (hk : (Cond.classLink own ik cls).before args s = true) (hini : (Cond.initialized cls).before args s = true) (hstr : vk_R own is text sa s) (hat : ∀ w ∈ vx_atS own ic cls names, w.before args s = true)
    (hgood : ∀ w ∈ Cond.classLink own ik cls :: Cond.initialized cls :: vx_atS own ic cls names, vx_ot w = true)
    (hU : vx_Zq Bundle.tN "UNASSIGNED_STACK" Bundle.steD A s s.heap) (hN : vx_Zq Bundle.tN "SUPPRESSED_SENTINEL" Bundle.listD A s s.heap) (hS : va_S A s.heap H locs) (hsize : ls.size = c.maxLocals)
    (d0 : decode cc pc = .ok (.new ik, 3)) (d3 : decode cc (pc + 3) = .ok (.dup, 1)) (d4 : decode cc (pc + 4) = .ok (.ldc is, 2)) (d6 : decode cc (pc + 6) = .ok (.invokespecial ic, 3)) (d9 : decode cc (pc + 9) = .ok (.athrow, 1))
    (hout : ∀ x ∈ c.exceptionTable.toList, covers x (pc + 9) = false)
    (hRframes : names.length + 3 < R.frames) (hRlocals : (rest.map fun v => v.category).sum + (13 * (names.length + 1) + 43) ≤ R.locals) (hRcells : cells + 1 ≤ R.cells) (hRslots : slots + 6 ≤ R.slots) (hlocks : meth.locks = false)
    (hx : ∀ t : State, s.vm.Alike t.vm → H.size ≤ t.heap.size → (∀ q : Nat, q < H.size → t.heap[q]? = H[q]?) → XC cls s t)
    (hf : ∀ z ∈ locs, free z.base) (hc : cells + 1 ≤ mc) (hs : slots + 6 ≤ ms) :
    W p l e R s m args below meth c H locs cells slots (vx_MQ below Qc XC args s mc ms free) (F0 m pc ls rest) := by
  intro T hT X
  have htr : e.platform.stackTraces = false := (show e.platform.stackTraces = l.stackTraces by rw [X.admits.platform]).trans hl
  have Y := vx_rebase X (R' := { frames := R.frames, locals := R.locals, cells := 1, slots := 6 }) (Nat.le_refl _) (Nat.le_refl _) hRcells hRslots
  obtain ⟨s', hA⟩ : ∃ z, z = (T.setVm s.vm).setFrames (.invoking m args :: below) := ⟨_, rfl⟩
  rw [← hA] at Y
  have hvm : s'.vm = s.vm := by rw [hA]; rfl
  have hhp : s'.heap = H := by rw [hA]; exact hT
  have hW0 : s.WarmedH s'.vm := by rw [hvm]; exact State.WarmedH.refl s
  have hat' : ∀ w ∈ vx_atS own ic cls names, w.before args s' = true := fun w hw => vx_ot_at hW0 hvm.symm (hgood w (List.mem_cons_of_mem _ (List.mem_cons_of_mem _ hw))) (hat w hw)
  have hk' : (Cond.classLink own ik cls).before args s' = true := vx_ot_at hW0 hvm.symm (hgood _ List.mem_cons_self) hk
  have hini' : (Cond.initialized cls).before args s' = true := vx_ot_at hW0 hvm.symm (hgood _ (List.mem_cons_of_mem _ List.mem_cons_self)) hini
  have hU' : vx_Zq Bundle.tN "UNASSIGNED_STACK" Bundle.steD A s' s'.heap := by rw [hhp]; exact vx_Zq.moved hW0.alike (hU.kept hS.2.1)
  have hN' : vx_Zq Bundle.tN "SUPPRESSED_SENTINEL" Bundle.listD A s' s'.heap := by rw [hhp]; exact vx_Zq.moved hW0.alike (hN.kept hS.2.1)
  have h : ∀ w ∈ Bundle.ownAtoms own ic cls names, w.before args s' = true := vx_own hat' (vx_isRefq hU'.1) (vx_isRefq hN'.1) hU'.2.word hN'.2.word
  have hown' : s'.vm.findClass own = some m.cls := by rw [hvm]; exact hown
  have hins : (Cond.instantiable cls 6).before args s' = true := h _ (by simp [Bundle.ownAtoms])
  obtain ⟨vm₁, cX, kX, hfX, hkX, -, -, X₁, st1⟩ := Y.newCold hexec (own := own) (C := cls) (index := ik) (n := 6) hown' hk' hins hini'
    (g := F0 m pc ls rest) rfl (by rw [hb]; exact d0) (Nat.le_refl _) (Nat.le_refl _)
  generalize hT1 : (T.setVm vm₁).pushCell { cls := cX, slots := kX.instanceTypes.map defaultValue, vm := .none } = T1 at X₁ st1
  have hcat : (Value.ref T.heap.size).category = 1 := rfl
  have hcellA : T1.heap[T.heap.size]? = some (freshCell cX kX) := by rw [← hT1]; exact State.heap_pushCell_size _ _
  have d3' : decode c.code (pc + 3) = .ok (.dup, 1) := by rw [hb]; exact d3
  have d4' : decode c.code (pc + 4) = .ok (.ldc is, 2) := by rw [hb]; exact d4
  have hstr' : vk_R own is text sa s' := vk_R.warm hW0 hstr
  obtain ⟨U, hsteps, hrun, hend, hW, hsame, ce, hce, hO⟩ := X₁.ctorThrowS hexec htr (own := own) (cls := cls) (names := names) (ic := ic) hown' hcls hnames h (fun x hx => nomatch hx) hfX hkX hcellA (by rw [hhp, hT]; exact Nat.le_refl _) (msg := .ref sa) rfl
    (g := { method := m, pc := pc + 6, locals := ls, stack := .ref sa :: .ref T.heap.size :: .ref T.heap.size :: rest, locked := none }) rfl hsize rfl rfl (rest := rest) rfl
    (by rw [hb]; exact d6) (by rw [hb]; exact d9) hout hRframes (by simp only [List.map_cons, List.sum_cons, hcat]; omega) hlocks
  obtain ⟨f1, f2⟩ := vx_frame hsame
  rw [hhp] at f1 f2
  have hWs : s.WarmedH U.vm := State.WarmedH.trans hW0 hW
  have hcl : s.vm.findClass cls = some ce.cls := by
    have h9 := hO.cls
    rw [hvm] at h9
    exact h9
  have hall : s.sameButNew ({ U with vm := s.vm } : State) locs mc ms := by
    subst hA
    obtain ⟨e1, e2⟩ := hsame
    rw [State.setFrames_setFrames] at e1
    have h2 : (T.setVm s.vm).sameButNew ({ U with vm := s.vm } : State) [] (0 + 1) (0 + 6) := ⟨e1, e2⟩
    have h3 := X.same.trans h2
    rw [List.append_nil] at h3
    exact h3.mono hc hs
  refine ⟨U, ?_, .threw T.heap.size, hrun, hend, Or.inr ⟨T.heap.size, rfl, cls, ce, locs, hx U hWs.alike f1 (fun q hq => f2 q hq (fun z hz => nomatch hz)), hce, hO.vm, hcl, hWs, hall, hf⟩⟩
  refine st1 _ ?_
  show Steps p.tables e below (T1.setTop { method := m, pc := pc + 3, locals := ls, stack := .ref T.heap.size :: rest, locked := none }) _
  jvm_step X₁.here [X₁.here.top, hexec, d3', Value.category]
  exact X₁.ldcString hexec (own := own) (text := text) (index := is) (a := sa) hown' hstr'.1 hstr'.2
    (g := { method := m, pc := pc + 4, locals := ls, stack := .ref T.heap.size :: .ref T.heap.size :: rest, locked := none }) rfl d4' _ hsteps
/-- 'throw new E("text")', the text by a wide index -/
theorem vx_throwSW {cc : ByteArray} {pc : Nat} (hexec : p.tables.exec = Jvm.exec) (hb : c.code = cc) (hl : l.stackTraces = false) {own cls text : String} {names : List String} {ik is ic mc ms sa : Nat} {A : Nat → Prop}
    (hown : s.vm.findClass own = some m.cls) (hcls : Bundle.fit cls = true) (hnames : ∀ n ∈ names, Bundle.fit n = true)
    (hk : (Cond.classLink own ik cls).before args s = true) (hini : (Cond.initialized cls).before args s = true) (hstr : vk_R own is text sa s) (hat : ∀ w ∈ vx_atS own ic cls names, w.before args s = true)
    (hgood : ∀ w ∈ Cond.classLink own ik cls :: Cond.initialized cls :: vx_atS own ic cls names, vx_ot w = true)
    (hU : vx_Zq Bundle.tN "UNASSIGNED_STACK" Bundle.steD A s s.heap) (hN : vx_Zq Bundle.tN "SUPPRESSED_SENTINEL" Bundle.listD A s s.heap) (hS : va_S A s.heap H locs) (hsize : ls.size = c.maxLocals)
    (d0 : decode cc pc = .ok (.new ik, 3)) (d3 : decode cc (pc + 3) = .ok (.dup, 1)) (d4 : decode cc (pc + 4) = .ok (.ldc_w is, 3)) (d7 : decode cc (pc + 7) = .ok (.invokespecial ic, 3)) (d10 : decode cc (pc + 10) = .ok (.athrow, 1))
    (hout : ∀ x ∈ c.exceptionTable.toList, covers x (pc + 10) = false)
    (hRframes : names.length + 3 < R.frames) (hRlocals : (rest.map fun v => v.category).sum + (13 * (names.length + 1) + 43) ≤ R.locals) (hRcells : cells + 1 ≤ R.cells) (hRslots : slots + 6 ≤ R.slots) (hlocks : meth.locks = false)
    (hx : ∀ t : State, s.vm.Alike t.vm → H.size ≤ t.heap.size → (∀ q : Nat, q < H.size → t.heap[q]? = H[q]?) → XC cls s t)
    (hf : ∀ z ∈ locs, free z.base) (hc : cells + 1 ≤ mc) (hs : slots + 6 ≤ ms) :
    W p l e R s m args below meth c H locs cells slots (vx_MQ below Qc XC args s mc ms free) (F0 m pc ls rest) := by
  intro T hT X
  have htr : e.platform.stackTraces = false := (show e.platform.stackTraces = l.stackTraces by rw [X.admits.platform]).trans hl
  have Y := vx_rebase X (R' := { frames := R.frames, locals := R.locals, cells := 1, slots := 6 }) (Nat.le_refl _) (Nat.le_refl _) hRcells hRslots
  obtain ⟨s', hA⟩ : ∃ z, z = (T.setVm s.vm).setFrames (.invoking m args :: below) := ⟨_, rfl⟩
  rw [← hA] at Y
  have hvm : s'.vm = s.vm := by rw [hA]; rfl
  have hhp : s'.heap = H := by rw [hA]; exact hT
  have hW0 : s.WarmedH s'.vm := by rw [hvm]; exact State.WarmedH.refl s
  have hat' : ∀ w ∈ vx_atS own ic cls names, w.before args s' = true := fun w hw => vx_ot_at hW0 hvm.symm (hgood w (List.mem_cons_of_mem _ (List.mem_cons_of_mem _ hw))) (hat w hw)
  have hk' : (Cond.classLink own ik cls).before args s' = true := vx_ot_at hW0 hvm.symm (hgood _ List.mem_cons_self) hk
  have hini' : (Cond.initialized cls).before args s' = true := vx_ot_at hW0 hvm.symm (hgood _ (List.mem_cons_of_mem _ List.mem_cons_self)) hini
  have hU' : vx_Zq Bundle.tN "UNASSIGNED_STACK" Bundle.steD A s' s'.heap := by rw [hhp]; exact vx_Zq.moved hW0.alike (hU.kept hS.2.1)
  have hN' : vx_Zq Bundle.tN "SUPPRESSED_SENTINEL" Bundle.listD A s' s'.heap := by rw [hhp]; exact vx_Zq.moved hW0.alike (hN.kept hS.2.1)
  have h : ∀ w ∈ Bundle.ownAtoms own ic cls names, w.before args s' = true := vx_own hat' (vx_isRefq hU'.1) (vx_isRefq hN'.1) hU'.2.word hN'.2.word
  have hown' : s'.vm.findClass own = some m.cls := by rw [hvm]; exact hown
  have hins : (Cond.instantiable cls 6).before args s' = true := h _ (by simp [Bundle.ownAtoms])
  obtain ⟨vm₁, cX, kX, hfX, hkX, -, -, X₁, st1⟩ := Y.newCold hexec (own := own) (C := cls) (index := ik) (n := 6) hown' hk' hins hini'
    (g := F0 m pc ls rest) rfl (by rw [hb]; exact d0) (Nat.le_refl _) (Nat.le_refl _)
  generalize hT1 : (T.setVm vm₁).pushCell { cls := cX, slots := kX.instanceTypes.map defaultValue, vm := .none } = T1 at X₁ st1
  have hcat : (Value.ref T.heap.size).category = 1 := rfl
  have hcellA : T1.heap[T.heap.size]? = some (freshCell cX kX) := by rw [← hT1]; exact State.heap_pushCell_size _ _
  have d3' : decode c.code (pc + 3) = .ok (.dup, 1) := by rw [hb]; exact d3
  have d4' : decode c.code (pc + 4) = .ok (.ldc_w is, 3) := by rw [hb]; exact d4
  have hstr' : vk_R own is text sa s' := vk_R.warm hW0 hstr
  obtain ⟨U, hsteps, hrun, hend, hW, hsame, ce, hce, hO⟩ := X₁.ctorThrowS hexec htr (own := own) (cls := cls) (names := names) (ic := ic) hown' hcls hnames h (fun x hx => nomatch hx) hfX hkX hcellA (by rw [hhp, hT]; exact Nat.le_refl _) (msg := .ref sa) rfl
    (g := { method := m, pc := pc + 7, locals := ls, stack := .ref sa :: .ref T.heap.size :: .ref T.heap.size :: rest, locked := none }) rfl hsize rfl rfl (rest := rest) rfl
    (by rw [hb]; exact d7) (by rw [hb]; exact d10) hout hRframes (by simp only [List.map_cons, List.sum_cons, hcat]; omega) hlocks
  obtain ⟨f1, f2⟩ := vx_frame hsame
  rw [hhp] at f1 f2
  have hWs : s.WarmedH U.vm := State.WarmedH.trans hW0 hW
  have hcl : s.vm.findClass cls = some ce.cls := by
    have h9 := hO.cls
    rw [hvm] at h9
    exact h9
  have hall : s.sameButNew ({ U with vm := s.vm } : State) locs mc ms := by
    subst hA
    obtain ⟨e1, e2⟩ := hsame
    rw [State.setFrames_setFrames] at e1
    have h2 : (T.setVm s.vm).sameButNew ({ U with vm := s.vm } : State) [] (0 + 1) (0 + 6) := ⟨e1, e2⟩
    have h3 := X.same.trans h2
    rw [List.append_nil] at h3
    exact h3.mono hc hs
  refine ⟨U, ?_, .threw T.heap.size, hrun, hend, Or.inr ⟨T.heap.size, rfl, cls, ce, locs, hx U hWs.alike f1 (fun q hq => f2 q hq (fun z hz => nomatch hz)), hce, hO.vm, hcl, hWs, hall, hf⟩⟩
  refine st1 _ ?_
  show Steps p.tables e below (T1.setTop { method := m, pc := pc + 3, locals := ls, stack := .ref T.heap.size :: rest, locked := none }) _
  jvm_step X₁.here [X₁.here.top, hexec, d3', Value.category]
  exact X₁.ldcStringW hexec (own := own) (text := text) (index := is) (a := sa) hown' hstr'.1 hstr'.2
    (g := { method := m, pc := pc + 4, locals := ls, stack := .ref T.heap.size :: .ref T.heap.size :: rest, locked := none }) rfl d4' _ hsteps
end Ends
section Bodies
variable {l : Launch}
theorem vx_ofW {y : MethodName} {ws ws' : List Cond} {rm : Room} {Pc : Array Value → State → Prop} {Qc : Array Value → State → Outcome → State → Prop} {XC : String → State → State → Prop} {mc ms : Nat} {free : Addr → Prop} {cc : ByteArray} {maxL : Nat} {ret : Option FieldType}
    (hy : plainName y.cls = true) (hw : ws = Cond.code y cc maxL ret :: ws')
    (body : ∀ p e s m args below meth c s₁, BodyLoose p l y (headSpec ws rm) cc maxL ret e s m args below meth c s₁ → c.maxLocals = maxL → (∀ x ∈ c.exceptionTable.toList, False) → Pc args s →
      W p l e (headSpec ws rm).room s m args below meth c s.heap [] 0 0 (vx_MQ below Qc XC args s mc ms free) (entryFrame m args maxL)) : vx_Met l y ws rm Pc Qc XC mc ms free := by
  refine MetFree.of_bodyS (code := cc) (maxLocals := maxL) (ret := ret) hy ?_ ?_
  · intro args s m h hn
    obtain ⟨meth, c, h1, h2, h3, h4, h5, h6, -, -⟩ := Cond.code_spec hn (atoms_spec (ws := ws) h _ (by rw [hw]; exact List.mem_cons_self))
    exact ⟨meth, c, h1, h2, h3, h4, h5, h6⟩
  · intro p e s m args below meth c s₁ B hml hP _
    have hh0 : s₁.heap = s.heap := by rw [B.state]; rfl
    have ht : ∀ x ∈ c.exceptionTable.toList, False := by
      obtain ⟨meth9, c9, h1, h2, -, -, -, -, h7, -⟩ := Cond.code_spec B.named (atoms_spec (ws := ws) B.pre _ (by rw [hw]; exact List.mem_cons_self))
      cases Option.some.inj (h1.symm.trans B.method)
      cases Option.some.inj (h2.symm.trans (Stand.of_body B).code)
      intro x hx
      rw [Array.isEmpty_iff.mp h7] at hx
      cases hx
    obtain ⟨t, a1, o, b1, b2, b3⟩ := body p e s m args below meth c s₁ B hml ht hP s₁ hh0 (Stand.of_body B)
    exact ⟨t, o, a1, b1, b2, b3⟩
/-- the table of a body with handlers -/
theorem vx_table {p : Program} {x y : MethodName} {S : Spec} {cc bytes : ByteArray} {maxL maxL' : Nat} {ret ret' : Option FieldType} {e : Env} {s s₁ : State} {m : MethodId} {args : Array Value} {below : List Frame} {meth : Method} {c : Code} {hh : List (Nat × Nat × Nat × Nat)}
    (B : BodyLoose p l y S cc maxL ret e s m args below meth c s₁) (h : (Cond.codeWith y bytes maxL' ret' hh).before args s = true) : c.exceptionTable.toList = tableOf hh := by
  obtain ⟨m9, meth9, c9, hn9, h1, h2, -, -, h6, -⟩ := Cond.codeWith_spec h
  cases Option.some.inj (hn9.symm.trans B.named)
  cases Option.some.inj (h1.symm.trans B.method)
  cases Option.some.inj (h2.symm.trans (Stand.of_body B).code)
  rw [← h6, table_eq]
end Bodies
end VXA
/-! ===== END ===== -/
/-! ===== BEGIN a static call of a method with an exception table ===== -/
section VXS
variable {p : Program} {l : Launch} {e : Env} {R : Room} {s : State} {m : MethodId} {args : Array Value} {below : List Frame} {meth : Method} {c : Code} {T : State} {H : Heap} {locs : List Loc} {cells slots : Nat}
abbrev vx_CSW (R : Room) (s : State) (args : Array Value) (own : String) (index : Nat) (y : MethodName) (bytes : ByteArray) (maxL : Nat) (ret : Option FieldType) (hh : List (Nat × Nat × Nat × Nat)) (ws : List Cond) (rm : Room) (mc ms n : Nat) : Prop :=
  (rm.cells = mc ∧ rm.slots = ms ∧ rm.frames + 1 ≤ R.frames ∧ 8 + (maxL + 11) + rm.locals ≤ R.locals ∧ (∀ w ∈ ws, ∀ (a' : Array Value) (U : State), s.WarmedH U.vm → w.before a' U = true) ∧ Cond.codeWith y bytes maxL ret hh ∈ ws) ∧
  (Cond.codeWith y bytes maxL ret hh).before args s = true ∧ (Cond.initialized y.cls).before args s = true ∧ (y.cls ≠ "java/lang/invoke/MethodHandle" ∧ y.cls ≠ "java/lang/invoke/VarHandle") ∧
  (∀ sig, parseMethodDescriptor y.desc = some sig → n = sig.parameters.length) ∧ (Cond.methodLink own index y).before args s = true ∧ (Cond.static y).before args s = true
theorem vx_cwSW {own : String} {index maxL mc ms : Nat} {y : MethodName} {bytes : ByteArray} {ret : Option FieldType} {hh : List (Nat × Nat × Nat × Nat)} {Ts ws ws' : List Cond} {rm : Room} (n : Nat) (ht : ∀ w ∈ Ts, w.before args s = true) (hT : GoodIn Ts (va_wsS own index y ws)) (hw : ws = Cond.codeWith y bytes maxL ret hh :: ws') (hrc : rm.cells = mc) (hrs : rm.slots = ms)
    (hd : y.cls ≠ "java/lang/invoke/MethodHandle" ∧ y.cls ≠ "java/lang/invoke/VarHandle" ∧ (parseMethodDescriptor y.desc).map (fun d => d.parameters.length) = some n) (hR : rm.frames + 1 ≤ R.frames ∧ 8 + (maxL + 11) + rm.locals ≤ R.locals) :
    vx_CSW R s args own index y bytes maxL ret hh ws rm mc ms n := by
  have ok : ∀ w ∈ va_wsS own index y ws, w.before args s = true := fun w h => ht w (hT w h).1
  have hG : GoodIn Ts ws := fun w h => hT w (by unfold va_wsS; exact List.mem_append_right _ h)
  have hc : Cond.codeWith y bytes maxL ret hh ∈ ws := by rw [hw]; exact List.mem_cons_self
  refine ⟨⟨hrc, hrs, hR.1, hR.2, pay_in ht hG, hc⟩, ht _ (hG _ hc).1, ok _ (by simp [va_wsS]), ⟨hd.1, hd.2.1⟩, fun sig h => ?_, ok _ (by simp [va_wsS]), ok _ (by simp [va_wsS])⟩
  have h2 := hd.2.2
  rw [h] at h2
  exact (Option.some.inj h2).symm
theorem vx_callSW (X : Stand p l e R s m args below meth c T locs cells slots) (hexec : p.tables.exec = Jvm.exec) {own : String} {index : Nat} {y : MethodName} {bytes : ByteArray} {maxL : Nat} {ret : Option FieldType} {hh : List (Nat × Nat × Nat × Nat)}
    (hown : s.vm.findClass own = some m.cls) (hlink : (Cond.methodLink own index y).before args s = true) (hstat : (Cond.static y).before args s = true) (hinit : (Cond.initialized y.cls).before args s = true)
    (hcode : (Cond.codeWith y bytes maxL ret hh).before args s = true) (hy : y.cls ≠ "java/lang/invoke/MethodHandle" ∧ y.cls ≠ "java/lang/invoke/VarHandle")
    {W9 : Nat} {Pre : Pt → Array Value → Prop} {Post : Pt → Array Value → Option Value → Pt → Prop} (hK : Back l R p e below s args y 3 W9 Pre Post)
    {g : JFrame} (hg : g.method = m) (hsize : g.locals.size = c.maxLocals) {argsL rest : List Value} (hlen : ∀ sig, parseMethodDescriptor y.desc = some sig → argsL.length = sig.parameters.length)
    (hstack : g.stack = argsL.reverse ++ rest) (hW : 2 * g.monitorRoom + (rest.map fun v => v.category).sum ≤ W9) (hdg : decode c.code g.pc = .ok (.invokestatic index, 3))
    (hpre : ∀ vm₁, s.WarmedH vm₁ → Pre ⟨T.setVm vm₁, locs, cells, slots⟩ argsL.toArray) :
    ∃ (v : Option Value) (vm₁ : Vm) (B : Pt), s.WarmedH vm₁ ∧ Stand p l e R s m args below meth c B.U B.locs B.cells B.slots ∧ Post ⟨T.setVm vm₁, locs, cells, slots⟩ argsL.toArray v B ∧
      ∀ target, Steps p.tables e below (B.U.setTop { g with pc := g.pc + 3, stack := v.toList ++ rest }) target → Steps p.tables e below (T.setTop g) target := by
  obtain ⟨mk, methM, cM, hnamed, hmethM, -, -, -, -, -, -, hsigM⟩ := Cond.codeWith_spec hcode
  have hstatic : methM.isStatic = true := Cond.static_spec hnamed hmethM hstat
  obtain ⟨kP, hkP, -⟩ := className_of_methodNamed hnamed
  have hinitP : kP.init = .initialized := Cond.initialized_spec (findClass_of_methodNamed hnamed) hkP hinit
  obtain ⟨vm₁, X₁, hstep₁⟩ := X.invokestatic hexec hown hlink hnamed hmethM hstatic hkP hinitP hy (g := g) hg (argsL := argsL) (rest := rest) (hlen _ hsigM) hstack hdg
  obtain ⟨v, B, X', hpost, hsteps⟩ := hK m meth c ⟨T.setVm vm₁, locs, cells, slots⟩ { g with stack := rest } (.invokestatic index) mk argsL.toArray X₁ hg hsize hdg hW (X₁.named hnamed) (hpre vm₁ X₁.warmed)
  exact ⟨v, vm₁, B, X₁.warmed, X', hpost, fun target h => hstep₁ _ fun acts => by rw [doInvoke_state]; exact hsteps.trans h⟩
theorem vx_runSW {y : MethodName} {bytes cc : ByteArray} {maxL nL mc ms n index : Nat} {ret : Option FieldType} {hh : List (Nat × Nat × Nat × Nat)} {ws : List Cond} {rm : Room} {Pc : Array Value → State → Prop} {Qc : Array Value → State → Outcome → State → Prop} {free : Addr → Prop} {Ts : List Cond} {own : String} {As rest : List Value} {g : JFrame}
    (S : CallFix p m c cc nL s args Ts own) (hM : Met l y ws rm Pc Qc mc ms free) (cw : vx_CSW R s args own index y bytes maxL ret hh ws rm mc ms n) (hp : PreS s H Pc As)
    (hg : g.method = m) (hn : As.length = n) (hsize : g.locals.size = nL) (hstack : g.stack = As.reverse ++ rest) (hW : 2 * g.monitorRoom + (rest.map fun v => v.category).sum ≤ 8) (hdg : decode cc g.pc = .ok (.invokestatic index, 3)) (hf : cells + mc ≤ R.cells ∧ slots + ms ≤ R.slots) :
    va_Run p l e R s m args below meth c H locs cells slots mc ms g rest (Qc As.toArray) (free) := by
  obtain ⟨⟨hrc, hrs, hfr, hlo, hws, hcw⟩, hcode, hini, hy, hlen, hl, hstt⟩ := cw
  have hK : Back l R p e below s args y 3 8 (PreOf R mc ms Pc) (PostOf Qc mc ms free) := va_backW (hh := hh) (bytes := bytes) (maxL := maxL) (ret := ret) hM hp.1 hrc hrs hfr hlo hws hcw (fun a' U hW => word_at hW (Or.inl (by first | rfl | simp [Cond.onTables, Cond.keeps, Cond.steady])) hini)
  obtain ⟨hx, hb, hml, ho, -⟩ := S
  intro T hT X
  obtain ⟨v, vm₁, ⟨U', l2, c2, s2⟩, hW₁, X', ⟨g', mk, t, L, e1, e2, hq, h1, hL, h2, h3⟩, st⟩ := vx_callSW X hx (hh := hh) (bytes := bytes) (maxL := maxL) (ret := ret) ho hl hstt hini hcode hy hK hg (hsize.trans hml.symm) (argsL := As) (rest := rest) (fun sig h => hn.trans (hlen sig h)) hstack hW (by rw [hb]; exact hdg)
    (fun vm₁ hW₁ => ⟨hf.1, hf.2, hp.2 (T.setVm vm₁) hT hW₁⟩)
  dsimp only [Pt.U, Pt.locs, Pt.cells, Pt.slots] at X' e1 e2 h1 h2 h3 st
  subst h1; subst h2; subst h3
  exact ⟨v, (T.setVm vm₁).calling g' mk As.toArray, t, U', L, hT, X', hL, e1, e2, hq, st⟩
/-- not caught here, past rows that name other classes: it goes on to the caller -/
theorem vx_outP {p : Program} {l : Launch} {e : Env} {R : Room} {s : State} {m : MethodId} {args : Array Value} {below : List Frame} {meth : Method} {c : Code} {H : Heap} {locs : List Loc} {cells slots : Nat} {free : Addr → Prop} {ls : Array Slot} {rest : List Value} {Qc : Array Value → State → Outcome → State → Prop} {XC : String → State → State → Prop}
    {pc : Nat} {own E : String} {ce : Cell} {q : Addr} {mc ms : Nat} (hown : s.vm.findClass own = some m.cls) (hlocks : meth.locks = false)
    (hpass : ∀ z ∈ c.exceptionTable.toList, covers z pc = false ∨ (z.catchType ≠ 0 ∧ ∃ nm : String, (Cond.classLink own z.catchType nm).before args s = true ∧ va_Nc E nm s)) (hcell : H[q]? = some ce) (hv : ce.vm = .none) (hcl : s.vm.findClass E = some ce.cls)
    (hx : ∀ t : State, t.heap = H → s.vm.Alike t.vm → XC E s t) (hf : ∀ z ∈ locs, free z.base) (hc : cells ≤ mc) (hs : slots ≤ ms) :
    vx_W p l e R s m args below meth c H locs cells slots (vx_MQ below Qc XC args s mc ms free) (F0 m pc ls rest) q := by
  intro T hT X
  have hpl : e.platform.magicAccessors = ({} : Platform).magicAccessors := by rw [X.admits.platform]
  obtain ⟨vm', hW', X', st⟩ := X.outThrough hlocks q (g := F0 m pc ls rest) rfl rfl rfl (cell := ce) (by rw [hT]; exact hcell) (by rw [hv]; rfl)
    (by obtain ⟨k9, h9, -⟩ := Vm.findClass_spec hcl; exact ⟨k9, h9⟩) (fun z hz => by
      rcases hpass z hz with h | ⟨hz0, nm, hl1, hn1⟩
      · exact Or.inl h
      · obtain ⟨c6, hc6, hcl6⟩ := Cond.classLink_spec hown hl1 e.platform hpl
        obtain ⟨a8, b8, h1, h2, h3⟩ := hn1
        cases Option.some.inj (h1.symm.trans hcl)
        cases Option.some.inj (h2.symm.trans hc6)
        exact Or.inr ⟨hz0, _, hcl6, h3⟩)
  obtain ⟨g₀, hfr⟩ := X'.frames_eq
  have hcell9 : ((T.setVm vm').setFrames (.throwing q :: below)).heap[q]? = some ce := by
    show T.heap[q]? = some ce
    rw [hT]; exact hcell
  have hend : Ended ((T.setVm vm').setFrames (.throwing q :: below)) below (.threw q) := State.frames_setFrames _ (State.cur_lt_of_frames hfr)
  refine ⟨(T.setVm vm').setFrames (.throwing q :: below), ?_, .threw q, X'.here.running, hend, Or.inr ⟨q, rfl, E, ce, locs, hx _ hT (X'.ends _).1.alike, hcell9, hv, hcl, (X'.ends _).1, (X'.ends _).2.mono hc hs, hf⟩⟩
  rw [X.pushThrowing_eq]
  exact st
/-- a thing of a world lies in the heap -/
theorem vx_lt {D : va_G} {cl : List vw_C} {ws : va_W} {H1 : Heap} (h : va_P D cl ws H1) {k : Nat} {q : Nat × va_E} (hk : ws[k]? = some q) : q.1 < H1.size := (h k q hk).lt
end VXS
/-! ===== END ===== -/
/-! ===== BEGIN methods with a table of their own: called by a name, returning or throwing ===== -/
section VXH
/-! vx_backW, vx_callVX, vx_callSX, vx_callVW, vx_runVW, vx_runVX, vx_runSX, vx_ofWH follow the same proofs as their sisters above (Free/Laws.lean, Shelf42/LK1.lean); vx_outP calls Shelf42/NT130.lean (outThrough). -/
section
variable {l : Launch} {R : Room} {p : Program} {e : Env} {below : List Frame} {s : State} {sargs : Array Value} {y : MethodName} {len W9 : Nat}
theorem vx_backW {ws : List Cond} {rm : Room} {Pc : Array Value → State → Prop} {Qc : Array Value → State → Outcome → State → Prop} {XC : String → State → State → Prop} {mc ms : Nat} {free : Addr → Prop} {bytes : ByteArray} {maxL : Nat} {ret : Option FieldType} {hh : List (Nat × Nat × Nat × Nat)}
    (hM : vx_Met l y ws rm Pc Qc XC mc ms free) (hblind : FrameBlind Pc) (hrc : rm.cells = mc) (hrs : rm.slots = ms)
    (hframes : rm.frames + 1 ≤ R.frames) (hlocals : W9 + (maxL + 11) + rm.locals ≤ R.locals)
    (hws : ∀ w ∈ ws, ∀ a' U, s.WarmedH U.vm → w.before a' U = true) (hcode : Cond.codeWith y bytes maxL ret hh ∈ ws) (hinit : ∀ a' U, s.WarmedH U.vm → (Cond.initialized y.cls).before a' U = true) :
    vx_Back l R p e below s sargs y len W9 (PreOf R mc ms Pc) (PostOf Qc mc ms free) (vx_Post XC mc ms free) := by
  intro m meth c A g ig mk a X hg hsize hdg hW hn hp
  have h1 : (headSpec ws rm).pre.before a A.U = true := atoms_intro fun w hw => hws w hw _ _ X.warmed
  have h2 : (Cond.codeWith y bytes maxL ret hh).before a A.U = true := hws _ hcode _ _ X.warmed
  have h3 : (Cond.initialized y.cls).before a A.U = true := hinit _ _ X.warmed
  have h4 : A.cells + (headSpec ws rm).room.cells ≤ R.cells := by rw [show (headSpec ws rm).room.cells = mc from hrc]; exact hp.1
  have h5 : A.slots + (headSpec ws rm).room.slots ≤ R.slots := by rw [show (headSpec ws rm).room.slots = ms from hrs]; exact hp.2.1
  have hPc : Pc a (A.U.calling g mk a) := hblind _ _ _ _ hp.2.2
  obtain ⟨U, Ls, c0, s0⟩ := A
  dsimp only [Pt.U, Pt.locs, Pt.cells, Pt.slots] at h1 h2 h3 h4 h5 X hn hPc ⊢
  obtain ⟨m9, methY, cY, hn9, hmY, hcY, -, hlY, -⟩ := Cond.codeWith_spec h2
  cases Option.some.inj (hn9.symm.trans hn)
  obtain ⟨kY, hkY, -⟩ := className_of_methodNamed hn
  have hinitY : kY.init = .initialized := Cond.initialized_spec (findClass_of_methodNamed hn) hkY h3
  have h : At U g.method c below := by rw [hg]; exact X.here
  have hlocals9 : W9 + (maxL + 11) + (headSpec ws rm).room.locals ≤ R.locals := hlocals
  have happ : (headSpec ws rm).appliesLoose y e.platform (U.calling g mk a) = true :=
    Spec.appliesLoose_calling (g := g) h hdg hn hkY hinitY
      (X.room_calling (g := g) (R' := (headSpec ws rm).room) hsize hmY hcY hframes (by rw [hlY]; omega) h4 h5) h1
  obtain ⟨mid, hmid⟩ := h.above
  have hfr : (U.setTop g).frames = (.java g :: mid) ++ below := by rw [State.frames_setTop' g h.top, hmid]; rfl
  obtain ⟨o, s₂, hsteps, -, hend, hq⟩ := Steps.callFree hM p X.admits X.cas X.clock (acts := []) hfr happ hPc trivial
  have hq' : vx_Q Qc XC mc ms free a (U.calling g mk a) o s₂ := hq
  rw [State.frames_setTop' g h.top] at hend
  obtain ⟨g₀, hg0⟩ := Option.isSome_iff_exists.mp h.top
  obtain ⟨r, hr⟩ := State.topJava?_eq_some.mp hg0
  have hr' : (({ U with heap := s₂.heap, slotsUsed := s₂.slotsUsed } : State).setVm s₂.vm).frames = .java g₀ :: r := hr
  rcases hq' with ⟨hqc, L, hfe, hL⟩ | ⟨q, rfl, E, ce, L, hx, hce, hcv, hcl, hW₂, hsm, hL⟩
  · obtain ⟨⟨v, rfl⟩, hW₂, e2, q2, q3, q4, q5, q6⟩ := id hfe
    have e3 : s₂ = ({ (U.calling g mk a).setFrames s₂.frames with heap := s₂.heap, slotsUsed := s₂.slotsUsed } : State).setVm s₂.vm := by
      have : s₂ = ({ s₂ with vm := (U.calling g mk a).vm } : State).setVm s₂.vm := rfl
      rw [e2] at this
      exact this
    obtain ⟨c₂, i₂, len₂, hc₂, hd₂, hf₂⟩ := hend
    have hW' : U.WarmedH s₂.vm := hW₂
    have hcc : c₂ = c := by
      have h1 : s₂.code? g.method = U.code? g.method := by
        rw [State.code?_eq, State.code?_eq, hW'.alike.method?]
      exact Option.some.inj (hc₂.symm.trans (h1.trans h.code))
    subst hcc
    have hlen : len₂ = len := by rw [hdg] at hd₂; cases hd₂; rfl
    subst hlen
    have hs₂ : s₂ = (({ U with heap := s₂.heap, slotsUsed := s₂.slotsUsed } : State).setVm s₂.vm).setTop { g with pc := g.pc + len₂, stack := v.toList ++ g.stack } := by
      refine e3.trans ?_
      rw [hf₂, State.calling_eq h.top, State.setFrames_setFrames, State.setTop_of_frames _ hr', hr]
      rfl
    have hsame : U.sameButNew ({ U with heap := s₂.heap, slotsUsed := s₂.slotsUsed } : State) L mc ms := by
      refine ⟨?_, q2, q3, q4, q5, q6⟩
      obtain ⟨t, ht, -⟩ := State.frames_cons hr
      show ({ U with heap := s₂.heap, slotsUsed := s₂.slotsUsed } : State) = { U.setFrames U.frames with heap := s₂.heap, slotsUsed := s₂.slotsUsed }
      rw [State.setFrames_self ht]
    subst hg
    refine Or.inl ⟨v, ⟨(({ U with heap := s₂.heap, slotsUsed := s₂.slotsUsed } : State).setVm s₂.vm), Ls ++ L, c0 + mc, s0 + ms⟩,
      ⟨X.admits, X.cas, X.clock, X.frames, X.room, X.hears, X.method, X.code, (X.here.setHeapUsed s₂.heap s₂.slotsUsed).setVm hW'.alike, X.tail, State.WarmedH.trans X.warmed hW', X.limits, X.bytes, X.same.trans (hsame.setVm s.vm)⟩,
      ⟨g, mk, s₂, L, rfl, rfl, hqc, rfl, hL, rfl, rfl⟩, ?_⟩
    show Steps p.tables e below _ ((({ U with heap := s₂.heap, slotsUsed := s₂.slotsUsed } : State).setVm s₂.vm).setTop { g with pc := g.pc + len₂, stack := v.toList ++ g.stack })
    rw [← hs₂]
    exact hsteps
  · obtain ⟨e2, q2, q3, q4, q5, q6⟩ := id hsm
    have e3 : s₂ = ({ (U.calling g mk a).setFrames s₂.frames with heap := s₂.heap, slotsUsed := s₂.slotsUsed } : State).setVm s₂.vm := by
      have : s₂ = ({ s₂ with vm := (U.calling g mk a).vm } : State).setVm s₂.vm := rfl
      rw [e2] at this
      exact this
    have hf₂ : s₂.frames = .throwing q :: .java g :: U.frames.tail := hend
    have hW' : U.WarmedH s₂.vm := hW₂
    have hs₂ : s₂ = ((({ U with heap := s₂.heap, slotsUsed := s₂.slotsUsed } : State).setVm s₂.vm).setTop g).pushFrame (.throwing q) := by
      refine e3.trans ?_
      rw [hf₂, State.calling_eq h.top, State.setFrames_setFrames, State.pushFrame, State.frames_setTop _ hr', State.setTop_of_frames _ hr', State.setFrames_setFrames, hr]
      rfl
    have hsame : U.sameButNew ({ U with heap := s₂.heap, slotsUsed := s₂.slotsUsed } : State) L mc ms := by
      refine ⟨?_, q2, q3, q4, q5, q6⟩
      obtain ⟨t, ht, -⟩ := State.frames_cons hr
      show ({ U with heap := s₂.heap, slotsUsed := s₂.slotsUsed } : State) = { U.setFrames U.frames with heap := s₂.heap, slotsUsed := s₂.slotsUsed }
      rw [State.setFrames_self ht]
    subst hg
    refine Or.inr ⟨q, ⟨(({ U with heap := s₂.heap, slotsUsed := s₂.slotsUsed } : State).setVm s₂.vm), Ls ++ L, c0 + mc, s0 + ms⟩,
      ⟨X.admits, X.cas, X.clock, X.frames, X.room, X.hears, X.method, X.code, (X.here.setHeapUsed s₂.heap s₂.slotsUsed).setVm hW'.alike, X.tail, State.WarmedH.trans X.warmed hW', X.limits, X.bytes, X.same.trans (hsame.setVm s.vm)⟩,
      ⟨g, mk, s₂, L, E, ce, rfl, rfl, hx, hce, hcv, hcl, rfl, hL, rfl, rfl⟩, ?_⟩
    show Steps p.tables e below _ (((({ U with heap := s₂.heap, slotsUsed := s₂.slotsUsed } : State).setVm s₂.vm).setTop g).pushFrame (.throwing q))
    rw [← hs₂]
    exact hsteps
end
variable {p : Program} {l : Launch} {e : Env} {R : Room} {s : State} {m : MethodId} {args : Array Value} {below : List Frame} {meth : Method} {c : Code} {T : State} {H : Heap} {locs : List Loc} {cells slots : Nat}
theorem vx_callVX (X : Stand p l e R s m args below meth c T locs cells slots) (hexec : p.tables.exec = Jvm.exec) {own C : String} {index : Nat} {y : MethodName} {bytes : ByteArray} {maxL : Nat} {ret : Option FieldType} {hh : List (Nat × Nat × Nat × Nat)}
    (hown : s.vm.findClass own = some m.cls) (hlink : (Cond.methodLink own index y).before args s = true) (hinst : (Cond.instanceMethod y).before args s = true) (hsel : (Cond.selects C y y).before args s = true)
    (hcode : (Cond.codeWith y bytes maxL ret hh).before args s = true) (hy : y.cls ≠ "java/lang/invoke/MethodHandle" ∧ y.cls ≠ "java/lang/invoke/VarHandle")
    {W9 : Nat} {Pre : Pt → Array Value → Prop} {Post : Pt → Array Value → Option Value → Pt → Prop} {PostX : Pt → Array Value → Addr → Pt → Prop} (hK : vx_Back l R p e below s args y 3 W9 Pre Post PostX)
    {b : Addr} {cellB : Cell} (hcell : T.heap[b]? = some cellB) (hobj : cellB.vm.isStatics = false) (hcls : s.vm.findClass C = some cellB.cls)
    {g : JFrame} (hg : g.method = m) (hsize : g.locals.size = c.maxLocals) {argsL rest : List Value} (hlen : ∀ sig, parseMethodDescriptor y.desc = some sig → argsL.length = sig.parameters.length)
    (hstack : g.stack = argsL.reverse ++ .ref b :: rest) (hW : 2 * g.monitorRoom + (rest.map fun v => v.category).sum ≤ W9) (hdg : decode c.code g.pc = .ok (.invokevirtual index, 3))
    (hpre : ∀ vm₁, s.WarmedH vm₁ → Pre ⟨T.setVm vm₁, locs, cells, slots⟩ (Value.ref b :: argsL).toArray) :
    (∃ (v : Option Value) (vm₁ : Vm) (B : Pt), s.WarmedH vm₁ ∧ Stand p l e R s m args below meth c B.U B.locs B.cells B.slots ∧ Post ⟨T.setVm vm₁, locs, cells, slots⟩ (Value.ref b :: argsL).toArray v B ∧
      ∀ target, Steps p.tables e below (B.U.setTop { g with pc := g.pc + 3, stack := v.toList ++ rest }) target → Steps p.tables e below (T.setTop g) target) ∨
    (∃ (q : Addr) (vm₁ : Vm) (B : Pt), s.WarmedH vm₁ ∧ Stand p l e R s m args below meth c B.U B.locs B.cells B.slots ∧ PostX ⟨T.setVm vm₁, locs, cells, slots⟩ (Value.ref b :: argsL).toArray q B ∧
      Steps p.tables e below (T.setTop g) ((B.U.setTop { g with stack := rest }).pushFrame (.throwing q))) := by
  obtain ⟨mk, methM, hnamed, hmethM, hstM, habM⟩ := Cond.instanceMethod_spec hinst
  obtain ⟨m8, methM', cM, hn8, hmethM', -, -, -, -, -, -, hsigM⟩ := Cond.codeWith_spec hcode
  cases Option.some.inj (hn8.symm.trans hnamed)
  cases hmethM.symm.trans hmethM'
  obtain ⟨c2, r2, m2, q1, q2, q3, q4, kP, hkP, hkPi⟩ := Cond.selects_spec hsel
  cases hcls.symm.trans q1
  cases (State.methodFound?_of_named hnamed hy).symm.trans q2
  cases hnamed.symm.trans q3
  have hselP : selectMethod e.platform s.vm cellB.cls mk = .method mk := by rw [Launch.admits_selectMethod X.admits]; exact q4
  obtain ⟨vm₁, X₁, hstep₁⟩ := X.invokevirtual hexec hown hlink hnamed hmethM hstM hkP hkPi hy (a := b) (cell := cellB) hcell
    (fun z h => by rw [h] at hobj; cases hobj) hselP hmethM habM hkP hkPi (g := g) hg (argsL := argsL) (rest := rest) (hlen _ hsigM) hstack hdg
  rcases hK m meth c ⟨T.setVm vm₁, locs, cells, slots⟩ { g with stack := rest } (.invokevirtual index) mk (Value.ref b :: argsL).toArray X₁ hg hsize hdg hW (X₁.named hnamed) (hpre vm₁ X₁.warmed) with ⟨v, B, X', hpost, hsteps⟩ | ⟨q, B, X', hpost, hsteps⟩
  · exact Or.inl ⟨v, vm₁, B, X₁.warmed, X', hpost, fun target h => hstep₁ _ fun acts => by rw [doInvoke_state]; exact hsteps.trans h⟩
  · exact Or.inr ⟨q, vm₁, B, X₁.warmed, X', hpost, hstep₁ _ fun acts => by rw [doInvoke_state]; exact hsteps⟩
theorem vx_callSX (X : Stand p l e R s m args below meth c T locs cells slots) (hexec : p.tables.exec = Jvm.exec) {own : String} {index : Nat} {y : MethodName} {bytes : ByteArray} {maxL : Nat} {ret : Option FieldType} {hh : List (Nat × Nat × Nat × Nat)}
    (hown : s.vm.findClass own = some m.cls) (hlink : (Cond.methodLink own index y).before args s = true) (hstat : (Cond.static y).before args s = true) (hinit : (Cond.initialized y.cls).before args s = true)
    (hcode : (Cond.codeWith y bytes maxL ret hh).before args s = true) (hy : y.cls ≠ "java/lang/invoke/MethodHandle" ∧ y.cls ≠ "java/lang/invoke/VarHandle")
    {W9 : Nat} {Pre : Pt → Array Value → Prop} {Post : Pt → Array Value → Option Value → Pt → Prop} {PostX : Pt → Array Value → Addr → Pt → Prop} (hK : vx_Back l R p e below s args y 3 W9 Pre Post PostX)
    {g : JFrame} (hg : g.method = m) (hsize : g.locals.size = c.maxLocals) {argsL rest : List Value} (hlen : ∀ sig, parseMethodDescriptor y.desc = some sig → argsL.length = sig.parameters.length)
    (hstack : g.stack = argsL.reverse ++ rest) (hW : 2 * g.monitorRoom + (rest.map fun v => v.category).sum ≤ W9) (hdg : decode c.code g.pc = .ok (.invokestatic index, 3))
    (hpre : ∀ vm₁, s.WarmedH vm₁ → Pre ⟨T.setVm vm₁, locs, cells, slots⟩ argsL.toArray) :
    (∃ (v : Option Value) (vm₁ : Vm) (B : Pt), s.WarmedH vm₁ ∧ Stand p l e R s m args below meth c B.U B.locs B.cells B.slots ∧ Post ⟨T.setVm vm₁, locs, cells, slots⟩ argsL.toArray v B ∧
      ∀ target, Steps p.tables e below (B.U.setTop { g with pc := g.pc + 3, stack := v.toList ++ rest }) target → Steps p.tables e below (T.setTop g) target) ∨
    (∃ (q : Addr) (vm₁ : Vm) (B : Pt), s.WarmedH vm₁ ∧ Stand p l e R s m args below meth c B.U B.locs B.cells B.slots ∧ PostX ⟨T.setVm vm₁, locs, cells, slots⟩ argsL.toArray q B ∧
      Steps p.tables e below (T.setTop g) ((B.U.setTop { g with stack := rest }).pushFrame (.throwing q))) := by
  obtain ⟨mk, methM, cM, hnamed, hmethM, -, -, -, -, -, -, hsigM⟩ := Cond.codeWith_spec hcode
  have hstatic : methM.isStatic = true := Cond.static_spec hnamed hmethM hstat
  obtain ⟨kP, hkP, -⟩ := className_of_methodNamed hnamed
  have hinitP : kP.init = .initialized := Cond.initialized_spec (findClass_of_methodNamed hnamed) hkP hinit
  obtain ⟨vm₁, X₁, hstep₁⟩ := X.invokestatic hexec hown hlink hnamed hmethM hstatic hkP hinitP hy (g := g) hg (argsL := argsL) (rest := rest) (hlen _ hsigM) hstack hdg
  rcases hK m meth c ⟨T.setVm vm₁, locs, cells, slots⟩ { g with stack := rest } (.invokestatic index) mk argsL.toArray X₁ hg hsize hdg hW (X₁.named hnamed) (hpre vm₁ X₁.warmed) with ⟨v, B, X', hpost, hsteps⟩ | ⟨q, B, X', hpost, hsteps⟩
  · exact Or.inl ⟨v, vm₁, B, X₁.warmed, X', hpost, fun target h => hstep₁ _ fun acts => by rw [doInvoke_state]; exact hsteps.trans h⟩
  · exact Or.inr ⟨q, vm₁, B, X₁.warmed, X', hpost, hstep₁ _ fun acts => by rw [doInvoke_state]; exact hsteps⟩
theorem vx_callVW (X : Stand p l e R s m args below meth c T locs cells slots) (hexec : p.tables.exec = Jvm.exec) {own C : String} {index : Nat} {y : MethodName} {bytes : ByteArray} {maxL : Nat} {ret : Option FieldType} {hh : List (Nat × Nat × Nat × Nat)}
    (hown : s.vm.findClass own = some m.cls) (hlink : (Cond.methodLink own index y).before args s = true) (hinst : (Cond.instanceMethod y).before args s = true) (hsel : (Cond.selects C y y).before args s = true)
    (hcode : (Cond.codeWith y bytes maxL ret hh).before args s = true) (hy : y.cls ≠ "java/lang/invoke/MethodHandle" ∧ y.cls ≠ "java/lang/invoke/VarHandle")
    {W9 : Nat} {Pre : Pt → Array Value → Prop} {Post : Pt → Array Value → Option Value → Pt → Prop} (hK : Back l R p e below s args y 3 W9 Pre Post)
    {b : Addr} {cellB : Cell} (hcell : T.heap[b]? = some cellB) (hobj : cellB.vm.isStatics = false) (hcls : s.vm.findClass C = some cellB.cls)
    {g : JFrame} (hg : g.method = m) (hsize : g.locals.size = c.maxLocals) {argsL rest : List Value} (hlen : ∀ sig, parseMethodDescriptor y.desc = some sig → argsL.length = sig.parameters.length)
    (hstack : g.stack = argsL.reverse ++ .ref b :: rest) (hW : 2 * g.monitorRoom + (rest.map fun v => v.category).sum ≤ W9) (hdg : decode c.code g.pc = .ok (.invokevirtual index, 3))
    (hpre : ∀ vm₁, s.WarmedH vm₁ → Pre ⟨T.setVm vm₁, locs, cells, slots⟩ (Value.ref b :: argsL).toArray) :
    ∃ (v : Option Value) (vm₁ : Vm) (B : Pt), s.WarmedH vm₁ ∧ Stand p l e R s m args below meth c B.U B.locs B.cells B.slots ∧ Post ⟨T.setVm vm₁, locs, cells, slots⟩ (Value.ref b :: argsL).toArray v B ∧
      ∀ target, Steps p.tables e below (B.U.setTop { g with pc := g.pc + 3, stack := v.toList ++ rest }) target → Steps p.tables e below (T.setTop g) target := by
  obtain ⟨mk, methM, hnamed, hmethM, hstM, habM⟩ := Cond.instanceMethod_spec hinst
  obtain ⟨m8, methM', cM, hn8, hmethM', -, -, -, -, -, -, hsigM⟩ := Cond.codeWith_spec hcode
  cases Option.some.inj (hn8.symm.trans hnamed)
  cases hmethM.symm.trans hmethM'
  obtain ⟨c2, r2, m2, q1, q2, q3, q4, kP, hkP, hkPi⟩ := Cond.selects_spec hsel
  cases hcls.symm.trans q1
  cases (State.methodFound?_of_named hnamed hy).symm.trans q2
  cases hnamed.symm.trans q3
  have hselP : selectMethod e.platform s.vm cellB.cls mk = .method mk := by rw [Launch.admits_selectMethod X.admits]; exact q4
  obtain ⟨vm₁, X₁, hstep₁⟩ := X.invokevirtual hexec hown hlink hnamed hmethM hstM hkP hkPi hy (a := b) (cell := cellB) hcell
    (fun z h => by rw [h] at hobj; cases hobj) hselP hmethM habM hkP hkPi (g := g) hg (argsL := argsL) (rest := rest) (hlen _ hsigM) hstack hdg
  obtain ⟨v, B, X', hpost, hsteps⟩ := hK m meth c ⟨T.setVm vm₁, locs, cells, slots⟩ { g with stack := rest } (.invokevirtual index) mk (Value.ref b :: argsL).toArray X₁ hg hsize hdg hW (X₁.named hnamed) (hpre vm₁ X₁.warmed)
  exact ⟨v, vm₁, B, X₁.warmed, X', hpost, fun target h => hstep₁ _ fun acts => by rw [doInvoke_state]; exact hsteps.trans h⟩
abbrev vx_CVW (R : Room) (s : State) (args : Array Value) (own C : String) (index : Nat) (y : MethodName) (bytes : ByteArray) (maxL : Nat) (ret : Option FieldType) (hh : List (Nat × Nat × Nat × Nat)) (ws : List Cond) (rm : Room) (mc ms n : Nat) : Prop :=
  (rm.cells = mc ∧ rm.slots = ms ∧ rm.frames + 1 ≤ R.frames ∧ 8 + (maxL + 11) + rm.locals ≤ R.locals ∧ (∀ w ∈ ws, ∀ (a' : Array Value) (U : State), s.WarmedH U.vm → w.before a' U = true) ∧ Cond.codeWith y bytes maxL ret hh ∈ ws) ∧
  (Cond.codeWith y bytes maxL ret hh).before args s = true ∧ (Cond.initialized y.cls).before args s = true ∧ (y.cls ≠ "java/lang/invoke/MethodHandle" ∧ y.cls ≠ "java/lang/invoke/VarHandle") ∧
  (∀ sig, parseMethodDescriptor y.desc = some sig → n = sig.parameters.length) ∧ (Cond.methodLink own index y).before args s = true ∧ (Cond.instanceMethod y).before args s = true ∧ (Cond.selects C y y).before args s = true
theorem vx_cwVW {own C : String} {index maxL mc ms : Nat} {y : MethodName} {bytes : ByteArray} {ret : Option FieldType} {hh : List (Nat × Nat × Nat × Nat)} {Ts ws ws' : List Cond} {rm : Room} (n : Nat) (ht : ∀ w ∈ Ts, w.before args s = true) (hT : GoodIn Ts (wsV own index C y ws)) (hw : ws = Cond.codeWith y bytes maxL ret hh :: ws') (hrc : rm.cells = mc) (hrs : rm.slots = ms)
    (hd : y.cls = C ∧ y.cls ≠ "java/lang/invoke/MethodHandle" ∧ y.cls ≠ "java/lang/invoke/VarHandle" ∧ (parseMethodDescriptor y.desc).map (fun d => d.parameters.length) = some n) (hR : rm.frames + 1 ≤ R.frames ∧ 8 + (maxL + 11) + rm.locals ≤ R.locals) :
    vx_CVW R s args own C index y bytes maxL ret hh ws rm mc ms n := by
  obtain ⟨hC, hd⟩ := hd
  subst hC
  have ok : ∀ w ∈ wsV own index y.cls y ws, w.before args s = true := fun w h => ht w (hT w h).1
  have hG : GoodIn Ts ws := fun w h => hT w (by unfold wsV; exact List.mem_append_right _ h)
  have hc : Cond.codeWith y bytes maxL ret hh ∈ ws := by rw [hw]; exact List.mem_cons_self
  refine ⟨⟨hrc, hrs, hR.1, hR.2, pay_in ht hG, hc⟩, ht _ (hG _ hc).1, ok _ (by simp [wsV]), ⟨hd.1, hd.2.1⟩, fun sig h => ?_, ok _ (by simp [wsV]), ok _ (by simp [wsV]), ok _ (by simp [wsV])⟩
  have h2 := hd.2.2
  rw [h] at h2
  exact (Option.some.inj h2).symm
theorem vx_runVW {y : MethodName} {bytes cc : ByteArray} {maxL nL mc ms n index : Nat} {ret : Option FieldType} {hh : List (Nat × Nat × Nat × Nat)} {ws : List Cond} {rm : Room} {Pc : Array Value → State → Prop} {Qc : Array Value → State → Outcome → State → Prop} {free : Addr → Prop} {Ts : List Cond} {own C : String} {b : Addr} {As rest : List Value} {g : JFrame}
    (S : CallFix p m c cc nL s args Ts own) (hM : Met l y ws rm Pc Qc mc ms free) (cw : vx_CVW R s args own C index y bytes maxL ret hh ws rm mc ms n) (hp : PreV s H C b Pc As)
    (hg : g.method = m) (hn : As.length = n) (hsize : g.locals.size = nL) (hstack : g.stack = As.reverse ++ .ref b :: rest) (hW : 2 * g.monitorRoom + (rest.map fun v => v.category).sum ≤ 8) (hdg : decode cc g.pc = .ok (.invokevirtual index, 3)) (hf : cells + mc ≤ R.cells ∧ slots + ms ≤ R.slots) :
    va_Run p l e R s m args below meth c H locs cells slots mc ms g rest (Qc (Value.ref b :: As).toArray) free := by
  obtain ⟨⟨hrc, hrs, hfr, hlo, hws, hcw⟩, hcode, hini, hy, hlen, hl, hin, hse⟩ := cw
  have hK : Back l R p e below s args y 3 8 (PreOf R mc ms Pc) (PostOf Qc mc ms free) := va_backW (hh := hh) (bytes := bytes) (maxL := maxL) (ret := ret) hM hp.1 hrc hrs hfr hlo hws hcw (fun a' U hW => word_at hW (Or.inl (by first | rfl | simp [Cond.onTables, Cond.keeps, Cond.steady])) hini)
  obtain ⟨hx, hb, hml, ho, -⟩ := S
  obtain ⟨-, ⟨cellB, hcB, hoB, hclB⟩, hPc⟩ := hp
  intro T hT X
  obtain ⟨v, vm₁, ⟨U', l2, c2, s2⟩, hW₁, X', ⟨g', mk, t, L, e1, e2, hq, h1, hL, h2, h3⟩, st⟩ := vx_callVW X hx (C := C) (hh := hh) (bytes := bytes) (maxL := maxL) (ret := ret) ho hl hin hse hcode hy hK (by rw [hT]; exact hcB) hoB hclB hg (hsize.trans hml.symm) (argsL := As) (rest := rest) (fun sig h => hn.trans (hlen sig h)) hstack hW (by rw [hb]; exact hdg)
    (fun vm₁ hW₁ => ⟨hf.1, hf.2, hPc (T.setVm vm₁) hT hW₁⟩)
  dsimp only [Pt.U, Pt.locs, Pt.cells, Pt.slots] at X' e1 e2 h1 h2 h3 st
  subst h1; subst h2; subst h3
  exact ⟨v, (T.setVm vm₁).calling g' mk (Value.ref b :: As).toArray, t, U', L, hT, X', hL, e1, e2, hq, st⟩
section
variable {y : MethodName} {bytes cc : ByteArray} {maxL nL mc ms n index : Nat} {ret : Option FieldType} {ws : List Cond} {rm : Room} {Pc : Array Value → State → Prop} {Qc : Array Value → State → Outcome → State → Prop} {XC : String → State → State → Prop} {free : Addr → Prop} {Ts : List Cond} {own C : String} {b : Addr} {As rest : List Value} {g : JFrame}
theorem vx_runVX {hh : List (Nat × Nat × Nat × Nat)} (S : CallFix p m c cc nL s args Ts own) (hM : vx_Met l y ws rm Pc Qc XC mc ms free) (cw : vx_CVW R s args own C index y bytes maxL ret hh ws rm mc ms n) (hp : PreV s H C b Pc As)
    (hg : g.method = m) (hn : As.length = n) (hsize : g.locals.size = nL) (hstack : g.stack = As.reverse ++ .ref b :: rest) (hW : 2 * g.monitorRoom + (rest.map fun v => v.category).sum ≤ 8) (hdg : decode cc g.pc = .ok (.invokevirtual index, 3)) (hf : cells + mc ≤ R.cells ∧ slots + ms ≤ R.slots) :
    vx_Run p l e R s m args below meth c H locs cells slots mc ms g rest (Qc (Value.ref b :: As).toArray) XC free := by
  obtain ⟨⟨hrc, hrs, hfr, hlo, hws, hcw⟩, hcode, hini, hy, hlen, hl, hin, hse⟩ := cw
  have hK : vx_Back l R p e below s args y 3 8 (PreOf R mc ms Pc) (PostOf Qc mc ms free) (vx_Post XC mc ms free) := vx_backW (hh := hh) (bytes := bytes) (maxL := maxL) (ret := ret) hM hp.1 hrc hrs hfr hlo hws hcw (fun a' U hW => word_at hW (Or.inl (by first | rfl | simp [Cond.onTables, Cond.keeps, Cond.steady])) hini)
  obtain ⟨hx, hb, hml, ho, -⟩ := S
  obtain ⟨-, ⟨cellB, hcB, hoB, hclB⟩, hPc⟩ := hp
  intro T hT X
  rcases vx_callVX X hx (C := C) (hh := hh) (bytes := bytes) (maxL := maxL) (ret := ret) ho hl hin hse hcode hy hK (by rw [hT]; exact hcB) hoB hclB hg (hsize.trans hml.symm) (argsL := As) (rest := rest) (fun sig h => hn.trans (hlen sig h)) hstack hW (by rw [hb]; exact hdg)
    (fun vm₁ hW₁ => ⟨hf.1, hf.2, hPc (T.setVm vm₁) hT hW₁⟩) with ⟨v, vm₁, ⟨U', l2, c2, s2⟩, hW₁, X', ⟨g', mk, t, L, e1, e2, hq, h1, hL, h2, h3⟩, st⟩ | ⟨q, vm₁, ⟨U', l2, c2, s2⟩, hW₁, X', ⟨g', mk, t, L, E, ce, e1, e2, hq, hce, hcv, hcl, h1, hL, h2, h3⟩, st⟩
  · dsimp only [Pt.U, Pt.locs, Pt.cells, Pt.slots] at X' e1 e2 h1 h2 h3 st
    subst h1; subst h2; subst h3
    exact Or.inl ⟨v, (T.setVm vm₁).calling g' mk (Value.ref b :: As).toArray, t, U', L, hT, X', hL, e1, e2, hq, st⟩
  · dsimp only [Pt.U, Pt.locs, Pt.cells, Pt.slots] at X' e1 e2 h1 h2 h3 st hcl
    subst h1; subst h2; subst h3
    exact Or.inr ⟨q, (T.setVm vm₁).calling g' mk (Value.ref b :: As).toArray, t, U', L, E, ce, hT, X', hL, e1, e2, hq, hce, hcv, vx_cls hW₁ hcl, st⟩
theorem vx_runSX {hh : List (Nat × Nat × Nat × Nat)} (S : CallFix p m c cc nL s args Ts own) (hM : vx_Met l y ws rm Pc Qc XC mc ms free) (cw : vx_CSW R s args own index y bytes maxL ret hh ws rm mc ms n) (hp : PreS s H Pc As)
    (hg : g.method = m) (hn : As.length = n) (hsize : g.locals.size = nL) (hstack : g.stack = As.reverse ++ rest) (hW : 2 * g.monitorRoom + (rest.map fun v => v.category).sum ≤ 8) (hdg : decode cc g.pc = .ok (.invokestatic index, 3)) (hf : cells + mc ≤ R.cells ∧ slots + ms ≤ R.slots) :
    vx_Run p l e R s m args below meth c H locs cells slots mc ms g rest (Qc As.toArray) XC free := by
  obtain ⟨⟨hrc, hrs, hfr, hlo, hws, hcw⟩, hcode, hini, hy, hlen, hl, hstt⟩ := cw
  have hK : vx_Back l R p e below s args y 3 8 (PreOf R mc ms Pc) (PostOf Qc mc ms free) (vx_Post XC mc ms free) := vx_backW (hh := hh) (bytes := bytes) (maxL := maxL) (ret := ret) hM hp.1 hrc hrs hfr hlo hws hcw (fun a' U hW => word_at hW (Or.inl (by first | rfl | simp [Cond.onTables, Cond.keeps, Cond.steady])) hini)
  obtain ⟨hx, hb, hml, ho, -⟩ := S
  intro T hT X
  rcases vx_callSX X hx (hh := hh) (bytes := bytes) (maxL := maxL) (ret := ret) ho hl hstt hini hcode hy hK hg (hsize.trans hml.symm) (argsL := As) (rest := rest) (fun sig h => hn.trans (hlen sig h)) hstack hW (by rw [hb]; exact hdg)
    (fun vm₁ hW₁ => ⟨hf.1, hf.2, hp.2 (T.setVm vm₁) hT hW₁⟩) with ⟨v, vm₁, ⟨U', l2, c2, s2⟩, hW₁, X', ⟨g', mk, t, L, e1, e2, hq, h1, hL, h2, h3⟩, st⟩ | ⟨q, vm₁, ⟨U', l2, c2, s2⟩, hW₁, X', ⟨g', mk, t, L, E, ce, e1, e2, hq, hce, hcv, hcl, h1, hL, h2, h3⟩, st⟩
  · dsimp only [Pt.U, Pt.locs, Pt.cells, Pt.slots] at X' e1 e2 h1 h2 h3 st
    subst h1; subst h2; subst h3
    exact Or.inl ⟨v, (T.setVm vm₁).calling g' mk As.toArray, t, U', L, hT, X', hL, e1, e2, hq, st⟩
  · dsimp only [Pt.U, Pt.locs, Pt.cells, Pt.slots] at X' e1 e2 h1 h2 h3 st hcl
    subst h1; subst h2; subst h3
    exact Or.inr ⟨q, (T.setVm vm₁).calling g' mk As.toArray, t, U', L, E, ce, hT, X', hL, e1, e2, hq, hce, hcv, vx_cls hW₁ hcl, st⟩
end
end VXH
theorem vx_ofWH {l : Launch} {y : MethodName} {ws ws' : List Cond} {rm : Room} {Pc : Array Value → State → Prop} {Qc : Array Value → State → Outcome → State → Prop} {XC : String → State → State → Prop} {mc ms : Nat} {free : Addr → Prop} {cc : ByteArray} {maxL : Nat} {ret : Option FieldType} {hh : List (Nat × Nat × Nat × Nat)}
    (hy : plainName y.cls = true) (hw : ws = Cond.codeWith y cc maxL ret hh :: ws')
    (body : ∀ p e s m args below meth c s₁, BodyLoose p l y (headSpec ws rm) cc maxL ret e s m args below meth c s₁ → c.maxLocals = maxL → Pc args s →
      W p l e (headSpec ws rm).room s m args below meth c s.heap [] 0 0 (vx_MQ below Qc XC args s mc ms free) (entryFrame m args maxL)) : vx_Met l y ws rm Pc Qc XC mc ms free := by
  refine MetFree.of_bodyS (code := cc) (maxLocals := maxL) (ret := ret) hy ?_ ?_
  · intro args s m h hn
    obtain ⟨m9, meth, c, hn9, h1, h2, h3, h4, -, h5, h6, -⟩ := Cond.codeWith_spec (atoms_spec (ws := ws) h _ (by rw [hw]; exact List.mem_cons_self))
    cases hn.symm.trans hn9
    exact ⟨meth, c, h1, h2, h3, h4, h5, h6⟩
  · intro p e s m args below meth c s₁ B hml hP _
    have hh0 : s₁.heap = s.heap := by rw [B.state]; rfl
    obtain ⟨t, a1, o, b1, b2, b3⟩ := body p e s m args below meth c s₁ B hml hP s₁ hh0 (Stand.of_body B)
    exact ⟨t, o, a1, b1, b2, b3⟩
/-! ===== END ===== -/
/-! ===== BEGIN what the machine throws by itself, no traces kept ===== -/
section VXM
set_option maxHeartbeats 1000000 in
/-- the machine throws cls with the message text, no traces kept: from its note over the frame g to 'throwing' over the same frame (follows the proofs of Stand.vmThrowsMessage, Shelf/KitTracedVmS.lean, and Stand.throwsMessageColdBareV, StandMessageColdV.lean, without the step out of the frame) -/
theorem vx_vmAt {p : Program} {l : Launch} {e : Env} {R : Room} {s : State} {m₀ : MethodId} {args : Array Value} {below : List Frame} {meth : Method} {c : Code} {W : State} {locs : List Loc} {cells slots : Nat}
    (X : Stand p l e R s m₀ args below meth c W locs cells slots) (hexec : p.tables.exec = Jvm.exec) (htr : e.platform.stackTraces = false) {cls : String} {names : List String} {text : String}
    (hcls : Bundle.fit cls = true) (hnames : ∀ n ∈ names, Bundle.fit n = true) (hsoe : (cls == "java/lang/StackOverflowError") = false) (hoom : (cls == "java/lang/OutOfMemoryError") = false)
    (h : ∀ a ∈ Bundle.messageArmAtoms cls names, a.before args s = true)
    (hlocs : ∀ x ∈ locs, ∀ cell, s.heap[x.base]? = some cell → cell.vm.isStatics = false)
    (htext : (text == notModelled) = false) (hlimit : ¬ (stringBytes (stringToUtf16 text)).size > e.platform.arrayLengthLimit) (hheap : ¬ (stringBytes (stringToUtf16 text)).size * componentBytes .byte > e.platform.maxHeapBytes)
    {g : JFrame} (hg : g.method = m₀) (hsize : g.locals.size = c.maxLocals)
    (hRframes : names.length + 4 < R.frames) (hRlocals : 2 * g.monitorRoom + (g.stack.map fun v => v.category).sum + 10240 ≤ R.locals) (hshort : 13 * names.length + 55 ≤ 10240)
    (hRcells : cells + 3 ≤ R.cells) (hRslots : slots + ((stringBytes (stringToUtf16 text)).size + 4 + 6) ≤ R.slots) (hlocks : meth.locks = false) :
    ∃ (S : State) (q : Addr) (ce : Cell), (∀ target, Steps p.tables e below ((S.setTop g).pushFrame (.throwing q)) target → Steps p.tables e below ((W.setTop g).pushFrame (.throwNew cls (some text) none)) target) ∧
      Stand p l e R s m₀ args below meth c S locs (cells + 3) (slots + ((stringBytes (stringToUtf16 text)).size + 4 + 6)) ∧ S.heap[q]? = some ce ∧ s.vm.findClass cls = some ce.cls ∧ ce.vm = .none := by
  have howns : e.platform.frameOwnsMonitors = true := by rw [X.admits.platform]
  have hfin : e.platform.finalization = false := by rw [X.admits.platform]
  have hpl : e.platform.magicAccessors = ({} : Platform).magicAccessors := by rw [X.admits.platform]
  have a : ∀ x, x ∈ Bundle.messageArmAtoms cls names → x.holds args s none s [] = true := fun x hx => h x hx
  obtain ⟨T, Z0, L, -, Y⟩ := ThrowableC.of_atoms (args := args) howns hfin hpl (fun x hx => h x (by simp [Bundle.messageArmAtoms, hx]))
  obtain ⟨Z, M, LZ, LM, hnZ⟩ := Init0T.ofS_atoms (args := args) hpl L Y (fun x hx => h x (by simp [Bundle.messageArmAtoms, hx]))
  obtain ⟨P1, Ps, hlen, L1, hL, hP1m, hlink1, hlink⟩ := Bundle.chainS (args := args) hpl hnZ names cls hcls hnames (fun x hx => h x (by simp [Bundle.messageArmAtoms, hx]))
  obtain ⟨Zs, LZs, hn4, hfitv, hfitc⟩ := StringT.of_atoms (args := args) (fun x hx => h x (by simp [Bundle.messageArmAtoms, hx]))
  have hfound : s.vm.findClass cls = some P1.m.cls := findClass_of_methodNamed hP1m
  obtain ⟨c1, kX, hc1, hk, hord, -, -, hn6⟩ := Cond.instantiable_spec (a (.instantiable cls 6) (by simp [Bundle.messageArmAtoms]))
  cases Option.some.inj (hc1.symm.trans hfound)
  have hinit := Cond.initialized_spec hfound hk (a (.initialized cls) (by simp [Bundle.messageArmAtoms]))
  have hctor : kX.findMethod "<init>" "(Ljava/lang/String;)V" = some P1.m.idx := findMethod_of_methodNamed hP1m hk
  have hsel0 : selectMethod e.platform s.vm P1.m.cls T.fill0 = .method T.fill0 := by
    obtain ⟨c2, r2, m2, q1, q2, q3, q4, -⟩ := Cond.selects_spec (a (.selects cls Bundle.tFill0 Bundle.tFill0) (by simp [Bundle.messageArmAtoms]))
    cases Option.some.inj (q1.symm.trans hfound)
    cases Option.some.inj (q2.symm.trans (State.methodFound?_of_named Y.fill0 (by decide)))
    cases Option.some.inj (q3.symm.trans Y.fill0)
    rw [Launch.admits_selectMethod X.admits]; exact q4
  have hselF : selectMethod e.platform s.vm P1.m.cls T.fill = .method T.fill := by
    obtain ⟨c2, r2, m2, q1, q2, q3, q4, -⟩ := Cond.selects_spec (a (.selects cls Bundle.tFill Bundle.tFill) (by simp [Bundle.messageArmAtoms]))
    cases Option.some.inj (q1.symm.trans hfound)
    cases Option.some.inj (q2.symm.trans (State.methodFound?_of_named Y.fill (by decide)))
    cases Option.some.inj (q3.symm.trans Y.fill)
    rw [Launch.admits_selectMethod X.admits]; exact q4
  obtain ⟨cellS0, hcS0, hiss⟩ := Y.statics
  obtain ⟨u0, hu0⟩ := Cond.staticRefV Y.unassigned L.unassignedStatic L.statics hcS0 hiss (a (.isRef (.static Bundle.tN "UNASSIGNED_STACK" Bundle.steD)) (by simp [Bundle.messageArmAtoms]))
  obtain ⟨sen, hsen⟩ := Cond.staticRefV Y.sentinel L.sentinelStatic L.statics hcS0 hiss (a (.isRef (.static Bundle.tN "SUPPRESSED_SENTINEL" Bundle.listD)) (by simp [Bundle.messageArmAtoms]))
  obtain ⟨ci198, i198, fB, hk198, hg198, ha198, hsB, -, hnB, htB, hffB⟩ := Cond.ownField (t := .object "java/lang/Object") Y.found L.cls (by decide +kernel) (a (.fieldLink Bundle.tN 198 Bundle.tN "backtrace" "Ljava/lang/Object;") (by simp [Bundle.messageArmAtoms])) (a (.lays Bundle.tN Bundle.tN "backtrace" "Ljava/lang/Object;") (by simp [Bundle.messageArmAtoms])) e.platform hpl
  obtain ⟨cellS, hcS', heS, -, hkeep⟩ := X.same.2.2.2.2.2 T.aS cellS0 hcS0
  have hcellS : W.heap[T.aS]? = some cellS := hcS'
  have hout' : ∀ i, (⟨T.aS, i⟩ : Loc) ∉ locs := fun i hmem => by
    have := hlocs _ hmem cellS0 hcS0
    rw [hiss] at this; cases this
  have hknownS : cellS.vm ≠ .unknown := by
    rw [heS]; intro hu
    rw [show cellS0.vm = .unknown from hu] at hiss
    cases hiss
  have hvU : cellS.slots[T.fUnassigned.slot]? = some u0.v := by rw [hkeep _ (hout' _)]; exact hu0
  have hvSen : cellS.slots[T.fSentinel.slot]? = some sen.v := by rw [hkeep _ (hout' _)]; exact hsen
  obtain ⟨iM, hffM⟩ := Y.msg
  obtain ⟨tyC, dC, hdC, hdnC⟩ := Cond.laysAt hfound hk Y.cause (a (.lays cls Bundle.tN "cause" "Ljava/lang/Throwable;") (by simp [Bundle.messageArmAtoms]))
  obtain ⟨tyS, dS, hdS, hdnS⟩ := Cond.laysAt hfound hk Y.stack (a (.lays cls Bundle.tN "stackTrace" Bundle.steD) (by simp [Bundle.messageArmAtoms]))
  obtain ⟨tyP, dP, hdP, hdnP⟩ := Cond.laysAt hfound hk Y.supp (a (.lays cls Bundle.tN "suppressedExceptions" Bundle.listD) (by simp [Bundle.messageArmAtoms]))
  obtain ⟨tyM, dM, hdM, hdnM⟩ := Cond.laysAt hfound hk hffM (a (.lays cls Bundle.tN "detailMessage" "Ljava/lang/String;") (by simp [Bundle.messageArmAtoms]))
  obtain ⟨tyB, dB, hdB, hdnB⟩ := Cond.laysAt hfound hk hffB (a (.lays cls Bundle.tN "backtrace" "Ljava/lang/Object;") (by simp [Bundle.messageArmAtoms]))
  have bC := Cond.laysApart hdB hdC hdnB hdnC (by rw [hnB, Y.causeName]; decide)
  have bS := Cond.laysApart hdB hdS hdnB hdnS (by rw [hnB, Y.stackName]; decide)
  have bP := Cond.laysApart hdB hdP hdnB hdnP (by rw [hnB, Y.suppName]; decide)
  have hbk : ((preparedCellV T.toThrowableT (freshCell P1.m.cls kX) (W.heap.size + 2) u0 sen).withEntry W.cur).slots[fB.slot]? = some .null := by
    have := fresh_default (c := P1.m.cls) tyB
    rw [htB] at this
    simpa [preparedCellV, Cell.setSlot, Cell.withEntry, Array.getElem?_setIfInBounds, bC, bS, bP, bC.symm, bS.symm, bP.symm, defaultValue] using this
  have tkC := Takes.of_laid (v := .ref (W.heap.size + 2)) hk hord tyC (by rw [Y.causeType]; rfl)
  have tkS := Takes.of_laid (v := u0.v) hk hord tyS (by rw [Y.stackType]; exact fits_refV_array _ u0)
  have tkP := Takes.of_laid (v := sen.v) hk hord tyP (by rw [Y.suppType]; exact fits_refV_object _ sen)
  have tkM := Takes.of_laid (v := .ref (W.heap.size + 1)) hk hord tyM (by rw [Y.msgType]; rfl)
  have hskip : SkipFacts T e.platform s (fun u => u) u0 ((preparedCellV T.toThrowableT (freshCell P1.m.cls kX) (W.heap.size + 2) u0 sen).withEntry W.cur) := ⟨{ ci198 := ci198, i198 := i198, fBack := fB }, ⟨hk198, hg198, ha198, hsB⟩, hbk, fun _ _ => rfl⟩
  have h0 : At W g.method c below := by rw [hg]; exact X.here
  obtain ⟨hbeyond, hfreeW⟩ := X.vmMayThrow hsize (.throwNew cls (some text) none) (fun f hf => by cases hf) rfl hRlocals
  have hfr' : W.frames.length + Ps.length + 4 < (e.platform.stackLimits W.me).1 := by have := X.framesAbove hRframes; omega
  have hwd' : (stackUse (.java g :: W.frames.tail)).2 + 13 * Ps.length + 55 ≤ (e.platform.stackLimits W.me).2 := by have := X.stackAbove hsize (K := 13 * Ps.length + 55) (by omega); omega
  have hslots : W.slotsUsed + (stringBytes (stringToUtf16 text)).size + Zs.kS.instanceTypes.size + kX.instanceTypes.size ≤ e.platform.maxSlots := by
    have := X.slotsAbove hRslots
    rw [hn4, hn6]
    omega
  obtain ⟨vm', hW', st⟩ := Steps.vmThrowsMessageColdByV p (s₀ := s) (S := W) (g := g) h0 hexec T L Z LZ M LM X.warmed (t := W.cur) rfl Zs LZs P1 L1 Ps hL hlink1 hlink hsoe hoom hfound hk hinit hord hctor
    (Launch.admits_hotImplicitExceptions X.admits) hbeyond hfreeW htext hlimit hheap (X.cellsAbove hRcells) hslots (hfitv _) (hfitc _)
    (Nn := fun u => u) heapOnly_id (fun _ _ => rfl) (fun _ => rfl) (fun u x y => setCell_twice _ _ _ _) (fun _ => Nat.le_refl _) (cN := ((preparedCellV T.toThrowableT (freshCell P1.m.cls kX) (W.heap.size + 2) u0 sen).withEntry W.cur))
    hsel0 hcellS hknownS hvU tkS (fun _ hu => hu) (fun _ hu => hu) rfl rfl rfl (by simp [preparedCellV, Cell.setSlot, Cell.withEntry]) hskip (fun _ _ hA hW _ hroom _ hrest => L.nativeOff p htr hA hW hroom hrest) hselF hvSen tkC tkP tkM Y.objLocals rfl hfr' hwd'
  rw [plainBareV_eq T.toThrowableT (W.heap.size + 2) u0 sen (.ref (W.heap.size + 1)) W.cur rfl rfl] at st
  obtain ⟨-, -, w3, w4, -, -, -⟩ := withThrown_facts e.platform W Zs text P1.m.cls kX
  have X3 := ((X.pushed (bytesOf Zs.cB (stringToUtf16 text))).pushed (stringAt Zs.cS Zs.kS Zs.fv Zs.fc (stringToUtf16 text) W.heap.size)).pushed (freshCell P1.m.cls kX)
  rw [← withString_eq] at X3
  have X4 := X3.noted hW'
  have ha : (W.heap.size + 2) < ((withThrown W Zs text P1.m.cls kX).setVm vm').heap.size := by show _ < (withThrown W Zs text P1.m.cls kX).heap.size; rw [w3]; omega
  have hcell : ((withThrown W Zs text P1.m.cls kX).setVm vm').heap[(W.heap.size + 2)]? = some (freshCell P1.m.cls kX) := w4
  have X5 := ((((X4.stored hcell T.fCause.slot (.ref (W.heap.size + 2))).storedAgain ha T.fStack.slot u0.v).storedAgain ha T.fSupp.slot sen.v).storedAgain ha T.fStack.slot u0.v).storedAgain ha T.fMsg.slot (.ref (W.heap.size + 1))
  obtain ⟨g₁, hfrM⟩ := X5.frames_eq
  have hU : ((((withThrown W Zs text P1.m.cls kX).setVm vm').setCell (W.heap.size + 2) (plainBareV T.toThrowableT (freshCell P1.m.cls kX) (W.heap.size + 2) u0 sen (.ref (W.heap.size + 1)))).setTop g).pushFrame (.throwing (W.heap.size + 2)) = (((withThrown W Zs text P1.m.cls kX).setVm vm').setCell (W.heap.size + 2) (plainBareV T.toThrowableT (freshCell P1.m.cls kX) (W.heap.size + 2) u0 sen (.ref (W.heap.size + 1)))).setFrames (.throwing (W.heap.size + 2) :: .java g :: below) := by
    rw [State.pushFrame, State.frames_setTop _ hfrM, State.setTop_of_frames _ hfrM, State.setFrames_setFrames]
  have b1 : (bytesOf Zs.cB (stringToUtf16 text)).slots.size = (stringBytes (stringToUtf16 text)).size := by
    rw [(Cell.writeAll_facts _ _).2.2]; simp [bytes0]
  have b2 : (stringAt Zs.cS Zs.kS Zs.fv Zs.fc (stringToUtf16 text) W.heap.size).slots.size = 4 := by simp [string0, Cell.setSlot, hn4]
  have b3 : (freshCell P1.m.cls kX).slots.size = 6 := by simp [hn6]
  rw [b1, b2, b3] at X5
  have e9 : slots + (stringBytes (stringToUtf16 text)).size + 4 + 6 = slots + ((stringBytes (stringToUtf16 text)).size + 4 + 6) := by omega
  rw [e9] at X5
  simp only [List.append_assoc, List.cons_append, List.nil_append] at X5
  refine ⟨((withThrown W Zs text P1.m.cls kX).setVm vm').setCell (W.heap.size + 2) (plainBareV T.toThrowableT (freshCell P1.m.cls kX) (W.heap.size + 2) u0 sen (.ref (W.heap.size + 1))), W.heap.size + 2, _, fun target ht => st _ (by rw [X.tail, ← hU]; exact ht),
    X5.forget (fun y hy => ?_), heapAt_setCell_self _ ha, hfound, rfl⟩
  simp only [List.mem_cons, List.not_mem_nil, or_false] at hy
  have hge : s.heap.size ≤ W.heap.size := X.same.2.1
  rcases hy with rfl | rfl | rfl | rfl | rfl <;> exact Nat.le_trans hge (Nat.le_add_right _ 2)
set_option maxHeartbeats 1000000 in
/-- the machine throws NullPointerException, no traces kept: from its note over the frame g to 'throwing' over the same frame (follows the proof of Stand.vmThrowsNpe, Shelf42/KT2.lean; throwsNpeColdBareVAt, Shelf42/NT91.lean, called) -/
theorem vx_npeAt {p : Program} {l : Launch} {e : Env} {R : Room} {s : State} {m₀ : MethodId} {args : Array Value} {below : List Frame} {meth : Method} {c : Code} {W : State} {locs : List Loc} {cells slots : Nat}
    (X : Stand p l e R s m₀ args below meth c W locs cells slots) (hexec : p.tables.exec = Jvm.exec) (htr : e.platform.stackTraces = false) {n : Nat}
    (h : ∀ a ∈ Bundle.npeArmAtoms n, a.before args s = true)
    (hlocs : ∀ x ∈ locs, ∀ cell, s.heap[x.base]? = some cell → cell.vm.isStatics = false)
    {g : JFrame} (hg : g.method = m₀) (hsize : g.locals.size = c.maxLocals)
    (hRframes : 7 < R.frames) (hRlocals : 2 * g.monitorRoom + (g.stack.map fun v => v.category).sum + 10240 ≤ R.locals)
    (hRcells : cells + 1 ≤ R.cells) (hRslots : slots + n ≤ R.slots) (hlocks : meth.locks = false) :
    ∃ (S : State) (q : Addr) (ce : Cell), (∀ target, Steps p.tables e below ((S.setTop g).pushFrame (.throwing q)) target → Steps p.tables e below ((W.setTop g).pushFrame (.throwNew "java/lang/NullPointerException" none none)) target) ∧
      Stand p l e R s m₀ args below meth c S locs (cells + 1) (slots + n) ∧ S.heap[q]? = some ce ∧ s.vm.findClass "java/lang/NullPointerException" = some ce.cls ∧ ce.vm = .none := by
  have howns : e.platform.frameOwnsMonitors = true := by rw [X.admits.platform]
  have hfin : e.platform.finalization = false := by rw [X.admits.platform]
  have hpl : e.platform.magicAccessors = ({} : Platform).magicAccessors := by rw [X.admits.platform]
  have hpl2 : e.platform.arrayCloneIsPublic = true := by rw [X.admits.platform]
  have a' : ∀ x, x ∈ Bundle.npeArmAtoms n → x.holds args s none s [] = true := fun x hx => h x hx
  obtain ⟨T, Z, L, LZ, Y⟩ := ThrowableC.of_atoms (args := args) howns hfin hpl (fun x hx => h x (by simp [Bundle.npeArmAtoms, hx]))
  obtain ⟨N, LN, hcN, hnNF, hordN, hffS⟩ := NpeC.of_atoms (args := args) hpl hpl2 L Y (fun x hx => h x (by simp [Bundle.npeArmAtoms, hx]))
  obtain ⟨P1, L1, hP1m, hP1s⟩ := PassC.of_atoms (args := args) (s := s) hpl (X := Bundle.nN) (Y := Bundle.rN) (by decide) (by decide) LibCode.NullPointerException.Init0.at_0 LibCode.NullPointerException.Init0.at_1 LibCode.NullPointerException.Init0.at_4 (fun x hx => h x (by simp [Bundle.npeArmAtoms, hx]))
  obtain ⟨PR, LR, hPRm, hPRs⟩ := PassC.of_atoms (args := args) (s := s) hpl (X := Bundle.rN) (Y := Bundle.eN) (by decide) (by decide) LibCode.RuntimeException.Init0.at_0 LibCode.RuntimeException.Init0.at_1 LibCode.RuntimeException.Init0.at_4 (fun x hx => h x (by simp [Bundle.npeArmAtoms, hx]))
  obtain ⟨PE, LEx, hPEm, hPEs⟩ := PassC.of_atoms (args := args) (s := s) hpl (X := Bundle.eN) (Y := Bundle.tN) (by decide) (by decide) LibCode.Exception.Init0.at_0 LibCode.Exception.Init0.at_1 LibCode.Exception.Init0.at_4 (fun x hx => h x (by simp [Bundle.npeArmAtoms, hx]))
  have hfound : s.vm.findClass Bundle.nN = some P1.m.cls := findClass_of_methodNamed hP1m
  have ecls : N.cN = P1.m.cls := Option.some.inj (hcN.symm.trans hfound)
  have hk : s.vm.classes[P1.m.cls]? = some N.kN := by rw [← ecls]; exact LN.cls
  have hinit := Cond.initialized_spec hfound hk (a' (.initialized Bundle.nN) (by simp [Bundle.npeArmAtoms]))
  have hctor : N.kN.findMethod "<init>" "()V" = some P1.m.idx := findMethod_of_methodNamed hP1m hk
  obtain ⟨c1, k1, hc1, hk1, -, -, -, hn⟩ := Cond.instantiable_spec (a' (.instantiable Bundle.nN n) (by simp [Bundle.npeArmAtoms]))
  cases Option.some.inj (hc1.symm.trans hfound)
  cases Option.some.inj (hk1.symm.trans hk)
  have hfsz : (freshCell P1.m.cls N.kN).slots.size = n := by simp [hn]
  have hlink1 : P1.sup = PR.m := Option.some.inj (hP1s.symm.trans hPRm)
  have hlinkR : PR.sup = PE.m := Option.some.inj (hPRs.symm.trans hPEm)
  have hlinkE : PE.sup = Z.m T.toThrowableT := Option.some.inj (hPEs.symm.trans Y.init0)
  have hLs : ∀ P, P ∈ [PR, PE] → P.Links0 e.platform s := fun P hP => by
    simp only [List.mem_cons, List.not_mem_nil, or_false] at hP
    rcases hP with rfl | rfl
    · exact LR
    · exact LEx
  have hsel0 : selectMethod e.platform s.vm P1.m.cls T.fill0 = .method T.fill0 := by
    obtain ⟨c2, r2, m2, q1, q2, q3, q4, -⟩ := Cond.selects_spec (a' (.selects Bundle.nN Bundle.tFill0 Bundle.tFill0) (by simp [Bundle.npeArmAtoms]))
    cases Option.some.inj (q1.symm.trans hfound)
    cases Option.some.inj (q2.symm.trans (State.methodFound?_of_named Y.fill0 (by decide)))
    cases Option.some.inj (q3.symm.trans Y.fill0)
    rw [Launch.admits_selectMethod X.admits]; exact q4
  have hselF : selectMethod e.platform s.vm P1.m.cls T.fill = .method N.fill := by
    obtain ⟨c2, r2, m2, q1, q2, q3, q4, -⟩ := Cond.selects_spec (a' (.selects Bundle.nN Bundle.tFill Bundle.nFill) (by simp [Bundle.npeArmAtoms]))
    cases Option.some.inj (q1.symm.trans hfound)
    cases Option.some.inj (q2.symm.trans (State.methodFound?_of_named Y.fill (by decide)))
    cases Option.some.inj (q3.symm.trans hnNF)
    rw [Launch.admits_selectMethod X.admits]; exact q4
  obtain ⟨cellS0, hcS0, hiss⟩ := Y.statics
  obtain ⟨u0, hu0⟩ := Cond.staticRefV Y.unassigned L.unassignedStatic L.statics hcS0 hiss (a' (.isRef (.static Bundle.tN "UNASSIGNED_STACK" Bundle.steD)) (by simp [Bundle.npeArmAtoms]))
  obtain ⟨sen, hsen⟩ := Cond.staticRefV Y.sentinel L.sentinelStatic L.statics hcS0 hiss (a' (.isRef (.static Bundle.tN "SUPPRESSED_SENTINEL" Bundle.listD)) (by simp [Bundle.npeArmAtoms]))
  obtain ⟨ci198, i198, fB, hk198, hg198, ha198, hsB, -, hnB, htB, hffB⟩ := Cond.ownField (t := .object "java/lang/Object") Y.found L.cls (by decide +kernel) (a' (.fieldLink Bundle.tN 198 Bundle.tN "backtrace" Bundle.objD) (by simp [Bundle.npeArmAtoms])) (a' (.lays Bundle.tN Bundle.tN "backtrace" Bundle.objD) (by simp [Bundle.npeArmAtoms])) e.platform hpl
  obtain ⟨cellS, hcS', heS, -, hkeep⟩ := X.same.2.2.2.2.2 T.aS cellS0 hcS0
  have hcellS : W.heap[T.aS]? = some cellS := hcS'
  have hout' : ∀ i, (⟨T.aS, i⟩ : Loc) ∉ locs := fun i hmem => by
    have := hlocs _ hmem cellS0 hcS0
    rw [hiss] at this; cases this
  have hknownS : cellS.vm ≠ .unknown := by
    rw [heS]; intro hu
    rw [show cellS0.vm = .unknown from hu] at hiss
    cases hiss
  have hvU : cellS.slots[T.fUnassigned.slot]? = some u0.v := by rw [hkeep _ (hout' _)]; exact hu0
  have hvSen : cellS.slots[T.fSentinel.slot]? = some sen.v := by rw [hkeep _ (hout' _)]; exact hsen
  obtain ⟨tyC, dC, hdC, hdnC⟩ := Cond.laysAt hfound hk Y.cause (a' (.lays Bundle.nN Bundle.tN "cause" "Ljava/lang/Throwable;") (by simp [Bundle.npeArmAtoms]))
  obtain ⟨tyS, dS, hdS, hdnS⟩ := Cond.laysAt hfound hk Y.stack (a' (.lays Bundle.nN Bundle.tN "stackTrace" Bundle.steD) (by simp [Bundle.npeArmAtoms]))
  obtain ⟨tyP, dP, hdP, hdnP⟩ := Cond.laysAt hfound hk Y.supp (a' (.lays Bundle.nN Bundle.tN "suppressedExceptions" Bundle.listD) (by simp [Bundle.npeArmAtoms]))
  obtain ⟨tyX, dX, hdX, hdnX⟩ := Cond.laysAt hfound hk hffS (a' (.lays Bundle.nN Bundle.nN "extendedMessageState" "I") (by simp [Bundle.npeArmAtoms, Bundle.npeAtoms]))
  obtain ⟨hnX, htX⟩ := State.fieldFound?_type hffS (t := .int) (by decide +kernel)
  have xC := Cond.laysApart hdC hdX hdnC hdnX (by rw [hnX, Y.causeName]; decide)
  have xS := Cond.laysApart hdS hdX hdnS hdnX (by rw [hnX, Y.stackName]; decide)
  have xP := Cond.laysApart hdP hdX hdnP hdnX (by rw [hnX, Y.suppName]; decide)
  have hv0 : (freshCell P1.m.cls N.kN).slots[N.fState.slot]? = some (.int 0) := by
    have := fresh_default (c := P1.m.cls) tyX
    rw [htX] at this; exact this
  obtain ⟨tyB, dB, hdB, hdnB⟩ := Cond.laysAt hfound hk hffB (a' (.lays Bundle.nN Bundle.tN "backtrace" Bundle.objD) (by simp [Bundle.npeArmAtoms]))
  have bC := Cond.laysApart hdB hdC hdnB hdnC (by rw [hnB, Y.causeName]; decide)
  have bS := Cond.laysApart hdB hdS hdnB hdnS (by rw [hnB, Y.stackName]; decide)
  have bP := Cond.laysApart hdB hdP hdnB hdnP (by rw [hnB, Y.suppName]; decide)
  have bX := Cond.laysApart hdB hdX hdnB hdnX (by rw [hnB, hnX]; decide)
  have hbk : ((npeCell N.toNpeT (preparedCellV T.toThrowableT (freshCell P1.m.cls N.kN) W.heap.size u0 sen) W.cur).withEntry W.cur).slots[fB.slot]? = some .null := by
    have := fresh_default (c := P1.m.cls) tyB
    rw [htB] at this
    simpa [npeCell, preparedCellV, Cell.setSlot, Cell.withEntry, Array.getElem?_setIfInBounds, bC, bS, bP, bX, bC.symm, bS.symm, bP.symm, bX.symm, defaultValue] using this
  have tkC := Takes.of_laid (v := .ref W.heap.size) hk hordN tyC (by rw [Y.causeType]; rfl)
  have tkS := Takes.of_laid (v := u0.v) hk hordN tyS (by rw [Y.stackType]; exact fits_refV_array _ u0)
  have tkP := Takes.of_laid (v := sen.v) hk hordN tyP (by rw [Y.suppType]; exact fits_refV_object _ sen)
  have tkX := Takes.of_laid (v := .int 1) hk hordN tyX (by rw [htX]; rfl)
  have hskip : SkipFacts T e.platform s (fun u => u) u0 ((npeCell N.toNpeT (preparedCellV T.toThrowableT (freshCell P1.m.cls N.kN) W.heap.size u0 sen) W.cur).withEntry W.cur) := ⟨{ ci198 := ci198, i198 := i198, fBack := fB }, ⟨hk198, hg198, ha198, hsB⟩, hbk, fun _ _ => rfl⟩
  obtain ⟨vm', X3, st, -⟩ := X.throwsNpeColdBareVAt hexec hg hsize T L Z LZ N LN P1 L1 [PR, PE] hLs hlink1 ⟨hlinkR, hlinkE, trivial⟩ hfound hk hinit hordN hctor hsel0 hselF hcellS hknownS hvU hvSen
    hv0 xC xS xP tkC tkS tkP tkX Y.objLocals hskip (fun _ _ hA hW _ hroom _ hrest => L.nativeOff p htr hA hW hroom hrest) (by simpa using hRframes) hRlocals (by simp) hRcells (by rw [hn]; exact hRslots)
  have hlt : W.heap.size < ((W.pushCell (freshCell P1.m.cls N.kN)).setVm vm').heap.size := by
    show W.heap.size < (W.pushCell (freshCell P1.m.cls N.kN)).heap.size
    rw [State.heap_size_pushCell]; omega
  rw [hfsz] at X3
  obtain ⟨g₁, hfrM⟩ := X3.frames_eq
  have hU : ((((W.pushCell (freshCell P1.m.cls N.kN)).setVm vm').setCell W.heap.size (npeBareV T.toThrowableT N.toNpeT (freshCell P1.m.cls N.kN) W.heap.size u0 sen)).setTop g).pushFrame (.throwing W.heap.size) = (((W.pushCell (freshCell P1.m.cls N.kN)).setVm vm').setCell W.heap.size (npeBareV T.toThrowableT N.toNpeT (freshCell P1.m.cls N.kN) W.heap.size u0 sen)).setFrames (.throwing W.heap.size :: .java g :: below) := by
    rw [State.pushFrame, State.frames_setTop _ hfrM, State.setTop_of_frames _ hfrM, State.setFrames_setFrames]
  refine ⟨_, W.heap.size, _, fun target ht => st.trans (by rw [← hU]; exact ht), X3.forget (fun y hy => ?_), heapAt_setCell_self _ hlt, hfound, rfl⟩
  simp only [List.mem_cons, List.not_mem_nil, or_false] at hy
  have hge : s.heap.size ≤ W.heap.size := X.same.2.1
  rcases hy with rfl | rfl | rfl | rfl | rfl <;> exact hge
/-- the words of a machine's NullPointerException, but the four that speak of the heap -/
def vx_atN (n : Nat) : List Cond := (Bundle.npeArmAtoms n).filter vx_no
/-- the words of a machine's throw with a message, but the four that speak of the heap -/
def vx_atM (X : String) (names : List String) : List Cond := (Bundle.messageArmAtoms X names).filter vx_no
section
variable {p : Program} {l : Launch} {e : Env} {R : Room} {s : State} {m : MethodId} {args : Array Value} {below : List Frame} {meth : Method} {c : Code} {H : Heap} {locs : List Loc} {cells slots : Nat}
/-- a frame seen from a rebased start, seen from the first start again -/
theorem vx_back9 {T S : State} {R' : Room} {k n : Nat} (X : Stand p l e R s m args below meth c T locs cells slots) (Y : Stand p l e R' ((T.setVm s.vm).setFrames (.invoking m args :: below)) m args below meth c T [] 0 0) (Z : Stand p l e R' ((T.setVm s.vm).setFrames (.invoking m args :: below)) m args below meth c S [] k n) :
    Stand p l e R s m args below meth c S locs (cells + k) (slots + n) := by
  have hW0 : s.WarmedH ((T.setVm s.vm).setFrames (.invoking m args :: below)).vm := State.WarmedH.refl s
  refine { admits := X.admits, cas := X.cas, clock := X.clock, frames := X.frames, room := X.room, hears := X.hears, method := X.method, code := X.code, here := Z.here, tail := Z.tail, warmed := State.WarmedH.trans hW0 Z.warmed, limits := Z.limits.trans (Y.limits.symm.trans X.limits), bytes := Z.bytes.trans (Y.bytes.symm.trans X.bytes), same := ?_ }
  obtain ⟨e1, e2⟩ := Z.same
  rw [State.setFrames_setFrames] at e1
  have h2 : (T.setVm s.vm).sameButNew (S.setVm s.vm) [] k n := ⟨e1, e2⟩
  have h3 := X.same.trans h2
  rw [List.append_nil] at h3
  exact h3
/-- from the machine's note that E is thrown here with this text -/
def vx_Note (p : Program) (l : Launch) (e : Env) (R : Room) (s : State) (m : MethodId) (args : Array Value) (below : List Frame) (meth : Method) (c : Code) (H : Heap) (locs : List Loc) (cells slots : Nat) (Q : State → Prop) (g : JFrame) (E text : String) : Prop :=
  ∀ T : State, T.heap = H → Stand p l e R s m args below meth c T locs cells slots → ∃ t, Steps p.tables e below ((T.setTop g).pushFrame (.throwNew E (some text) none)) t ∧ Q t
theorem vx_vm {pc : Nat} {ls : Array Slot} {rest : List Value} {Q : State → Prop} (hexec : p.tables.exec = Jvm.exec) (hl : l.stackTraces = false) {cls text : String} {names : List String} {nb : Nat} {A : Nat → Prop}
    (hcls : Bundle.fit cls = true) (hnames : ∀ n ∈ names, Bundle.fit n = true) (hsoe : (cls == "java/lang/StackOverflowError") = false) (hoom : (cls == "java/lang/OutOfMemoryError") = false)
    (hat : ∀ w ∈ vx_atM cls names, w.before args s = true) (hgood : ∀ w ∈ vx_atM cls names, vx_ot w = true)
    (hU : vx_Zq Bundle.tN "UNASSIGNED_STACK" Bundle.steD A s s.heap) (hN : vx_Zq Bundle.tN "SUPPRESSED_SENTINEL" Bundle.listD A s s.heap) (hS : va_S A s.heap H locs) (hsize : ls.size = c.maxLocals)
    (htext : (text == notModelled) = false) (hnb : (stringBytes (stringToUtf16 text)).size ≤ nb) (hnb1 : nb ≤ 1000)
    (hRframes : names.length + 4 < R.frames) (hRlocals : (rest.map fun v => v.category).sum + 10240 ≤ R.locals) (hshort : 13 * names.length + 55 ≤ 10240) (hRcells : cells + 3 ≤ R.cells) (hRslots : slots + (nb + 10) ≤ R.slots) (hlocks : meth.locks = false)
    (k : ∀ (H1 : Heap) (q9 : Addr) (ce : Cell), H.size ≤ H1.size → (∀ q : Nat, q < H.size → H1[q]? = H[q]?) → va_S A s.heap H1 locs → H1[q9]? = some ce → ce.vm = .none → s.vm.findClass cls = some ce.cls → vx_W p l e R s m args below meth c H1 locs (cells + 3) (slots + (nb + 10)) Q (F0 m pc ls rest) q9) :
    vx_Note p l e R s m args below meth c H locs cells slots Q (F0 m pc ls rest) cls text := by
  intro T hT X
  have htr : e.platform.stackTraces = false := (show e.platform.stackTraces = l.stackTraces by rw [X.admits.platform]).trans hl
  have Y := vx_rebase X (R' := { frames := R.frames, locals := R.locals, cells := 3, slots := nb + 10 }) (Nat.le_refl _) (Nat.le_refl _) hRcells hRslots
  have hhp : ((T.setVm s.vm).setFrames (.invoking m args :: below)).heap = H := hT
  have hW0 : s.WarmedH ((T.setVm s.vm).setFrames (.invoking m args :: below)).vm := State.WarmedH.refl s
  have hat' : ∀ w ∈ vx_atM cls names, w.before args ((T.setVm s.vm).setFrames (.invoking m args :: below)) = true := fun w hw => vx_ot_at hW0 rfl (hgood w hw) (hat w hw)
  have hU' : vx_Zq Bundle.tN "UNASSIGNED_STACK" Bundle.steD A ((T.setVm s.vm).setFrames (.invoking m args :: below)) ((T.setVm s.vm).setFrames (.invoking m args :: below)).heap := by rw [hhp]; exact vx_Zq.moved hW0.alike (hU.kept hS.2.1)
  have hN' : vx_Zq Bundle.tN "SUPPRESSED_SENTINEL" Bundle.listD A ((T.setVm s.vm).setFrames (.invoking m args :: below)) ((T.setVm s.vm).setFrames (.invoking m args :: below)).heap := by rw [hhp]; exact vx_Zq.moved hW0.alike (hN.kept hS.2.1)
  obtain ⟨S, q, ce, st, Z, hce, hcl', hv⟩ := vx_vmAt Y hexec htr (cls := cls) (names := names) (text := text) hcls hnames hsoe hoom (vx_own hat' (vx_isRefq hU'.1) (vx_isRefq hN'.1) hU'.2.word hN'.2.word) (fun x hx => nomatch hx) htext
    (by rw [Launch.admits_arrayLengthLimit X.admits]; omega) (by rw [Launch.admits_maxHeapBytes X.admits]; simp only [componentBytes]; omega)
    (g := F0 m pc ls rest) rfl hsize hRframes (by show 2 * 0 + (rest.map fun v => v.category).sum + 10240 ≤ R.locals; omega) hshort (by show 0 + 3 ≤ 3; omega) (by show 0 + (_ + 4 + 6) ≤ nb + 10; omega) hlocks
  obtain ⟨f1, f2⟩ := vx_frame Z.same
  have f1' : H.size ≤ S.heap.size := by rw [← hT]; exact f1
  have f2' : ∀ q : Nat, q < H.size → S.heap[q]? = H[q]? := fun q hq => by
    rw [← hT]
    exact f2 q (by rw [← hT] at hq; exact hq) (fun z hz => nomatch hz)
  have X5 := vx_back9 X Y Z
  have X6 : Stand p l e R s m args below meth c S locs (cells + 3) (slots + (nb + 10)) := { X5 with same := X5.same.mono (by omega) (by omega) }
  obtain ⟨t, a1, b1⟩ := k S.heap q ce f1' f2' ⟨Nat.le_trans hS.1 f1', fun q h1 h2 => (f2' q (Nat.lt_of_lt_of_le h1 hS.1)).trans (hS.2.1 q h1 h2), hS.2.2⟩ hce hv hcl' S rfl X6
  exact ⟨t, st t a1, b1⟩
/-- from the machine's note that NullPointerException is thrown here -/
def vx_NoteN (p : Program) (l : Launch) (e : Env) (R : Room) (s : State) (m : MethodId) (args : Array Value) (below : List Frame) (meth : Method) (c : Code) (H : Heap) (locs : List Loc) (cells slots : Nat) (Q : State → Prop) (g : JFrame) : Prop :=
  ∀ T : State, T.heap = H → Stand p l e R s m args below meth c T locs cells slots → ∃ t, Steps p.tables e below ((T.setTop g).pushFrame (.throwNew "java/lang/NullPointerException" none none)) t ∧ Q t
theorem vx_npe {pc : Nat} {ls : Array Slot} {rest : List Value} {Q : State → Prop} (hexec : p.tables.exec = Jvm.exec) (hl : l.stackTraces = false) {nb : Nat} {A : Nat → Prop}
    (hat : ∀ w ∈ vx_atN nb, w.before args s = true) (hgood : ∀ w ∈ vx_atN nb, vx_ot w = true)
    (hU : vx_Zq Bundle.tN "UNASSIGNED_STACK" Bundle.steD A s s.heap) (hN : vx_Zq Bundle.tN "SUPPRESSED_SENTINEL" Bundle.listD A s s.heap) (hS : va_S A s.heap H locs) (hsize : ls.size = c.maxLocals)
    (hRframes : 7 < R.frames) (hRlocals : (rest.map fun v => v.category).sum + 10240 ≤ R.locals) (hRcells : cells + 1 ≤ R.cells) (hRslots : slots + nb ≤ R.slots) (hlocks : meth.locks = false)
    (k : ∀ (H1 : Heap) (q9 : Addr) (ce : Cell), H.size ≤ H1.size → (∀ q : Nat, q < H.size → H1[q]? = H[q]?) → va_S A s.heap H1 locs → H1[q9]? = some ce → ce.vm = .none → s.vm.findClass "java/lang/NullPointerException" = some ce.cls → vx_W p l e R s m args below meth c H1 locs (cells + 1) (slots + nb) Q (F0 m pc ls rest) q9) :
    vx_NoteN p l e R s m args below meth c H locs cells slots Q (F0 m pc ls rest) := by
  intro T hT X
  have htr : e.platform.stackTraces = false := (show e.platform.stackTraces = l.stackTraces by rw [X.admits.platform]).trans hl
  have Y := vx_rebase X (R' := { frames := R.frames, locals := R.locals, cells := 1, slots := nb }) (Nat.le_refl _) (Nat.le_refl _) hRcells hRslots
  have hhp : ((T.setVm s.vm).setFrames (.invoking m args :: below)).heap = H := hT
  have hW0 : s.WarmedH ((T.setVm s.vm).setFrames (.invoking m args :: below)).vm := State.WarmedH.refl s
  have hat' : ∀ w ∈ vx_atN nb, w.before args ((T.setVm s.vm).setFrames (.invoking m args :: below)) = true := fun w hw => vx_ot_at hW0 rfl (hgood w hw) (hat w hw)
  have hU' : vx_Zq Bundle.tN "UNASSIGNED_STACK" Bundle.steD A ((T.setVm s.vm).setFrames (.invoking m args :: below)) ((T.setVm s.vm).setFrames (.invoking m args :: below)).heap := by rw [hhp]; exact vx_Zq.moved hW0.alike (hU.kept hS.2.1)
  have hN' : vx_Zq Bundle.tN "SUPPRESSED_SENTINEL" Bundle.listD A ((T.setVm s.vm).setFrames (.invoking m args :: below)) ((T.setVm s.vm).setFrames (.invoking m args :: below)).heap := by rw [hhp]; exact vx_Zq.moved hW0.alike (hN.kept hS.2.1)
  obtain ⟨S, q, ce, st, Z, hce, hcl', hv⟩ := vx_npeAt Y hexec htr (n := nb) (vx_own hat' (vx_isRefq hU'.1) (vx_isRefq hN'.1) hU'.2.word hN'.2.word) (fun x hx => nomatch hx)
    (g := F0 m pc ls rest) rfl hsize hRframes (by show 2 * 0 + (rest.map fun v => v.category).sum + 10240 ≤ R.locals; omega) (by show 0 + 1 ≤ 1; omega) (by show 0 + nb ≤ nb; omega) hlocks
  obtain ⟨f1, f2⟩ := vx_frame Z.same
  have f1' : H.size ≤ S.heap.size := by rw [← hT]; exact f1
  have f2' : ∀ q : Nat, q < H.size → S.heap[q]? = H[q]? := fun q hq => by
    rw [← hT]
    exact f2 q (by rw [← hT] at hq; exact hq) (fun z hz => nomatch hz)
  have X5 := vx_back9 X Y Z
  have X6 : Stand p l e R s m args below meth c S locs (cells + 1) (slots + nb) := { X5 with same := X5.same.mono (by omega) (by omega) }
  obtain ⟨t, a1, b1⟩ := k S.heap q ce f1' f2' ⟨Nat.le_trans hS.1 f1', fun q h1 h2 => (f2' q (Nat.lt_of_lt_of_le h1 hS.1)).trans (hS.2.1 q h1 h2), hS.2.2⟩ hce hv hcl' S rfl X6
  exact ⟨t, st t a1, b1⟩
variable {Q : State → Prop} {cc : ByteArray} {pc : Nat} {ls : Array Slot} {rest : List Value}
theorem vx_idivZ (hexec : p.tables.exec = Jvm.exec) (hb : c.code = cc) {a b : Int32} (h0 : b = 0) (d : decode cc pc = .ok (.idiv, 1)) (k : vx_Note p l e R s m args below meth c H locs cells slots Q (F0 m pc ls rest) "java/lang/ArithmeticException" "/ by zero") :
    W p l e R s m args below meth c H locs cells slots Q (F0 m pc ls (.int b :: .int a :: rest)) := by
  intro T hT X
  obtain ⟨t, st, q⟩ := k T hT X
  exact ⟨t, X.idivZero hexec (g := F0 m pc ls (.int b :: .int a :: rest)) rfl (a := a) (rest := rest) (by rw [h0]) (by rw [hb]; exact d) t st, q⟩
theorem vx_iremZ (hexec : p.tables.exec = Jvm.exec) (hb : c.code = cc) {a b : Int32} (h0 : b = 0) (d : decode cc pc = .ok (.irem, 1)) (k : vx_Note p l e R s m args below meth c H locs cells slots Q (F0 m pc ls rest) "java/lang/ArithmeticException" "/ by zero") :
    W p l e R s m args below meth c H locs cells slots Q (F0 m pc ls (.int b :: .int a :: rest)) := by
  intro T hT X
  obtain ⟨t, st, q⟩ := k T hT X
  exact ⟨t, X.iremZero hexec (g := F0 m pc ls (.int b :: .int a :: rest)) rfl (a := a) (rest := rest) (by rw [h0]) (by rw [hb]; exact d) t st, q⟩
theorem vx_ldivZ (hexec : p.tables.exec = Jvm.exec) (hb : c.code = cc) {a b : Int64} (h0 : b = 0) (d : decode cc pc = .ok (.ldiv, 1)) (k : vx_Note p l e R s m args below meth c H locs cells slots Q (F0 m pc ls rest) "java/lang/ArithmeticException" "/ by zero") :
    W p l e R s m args below meth c H locs cells slots Q (F0 m pc ls (.long b :: .long a :: rest)) := by
  intro T hT X
  obtain ⟨t, st, q⟩ := k T hT X
  exact ⟨t, X.ldivZero hexec (g := F0 m pc ls (.long b :: .long a :: rest)) rfl (a := a) (rest := rest) (by rw [h0]) (by rw [hb]; exact d) t st, q⟩
theorem vx_lremZ (hexec : p.tables.exec = Jvm.exec) (hb : c.code = cc) {a b : Int64} (h0 : b = 0) (d : decode cc pc = .ok (.lrem, 1)) (k : vx_Note p l e R s m args below meth c H locs cells slots Q (F0 m pc ls rest) "java/lang/ArithmeticException" "/ by zero") :
    W p l e R s m args below meth c H locs cells slots Q (F0 m pc ls (.long b :: .long a :: rest)) := by
  intro T hT X
  obtain ⟨t, st, q⟩ := k T hT X
  exact ⟨t, X.lremZero hexec (g := F0 m pc ls (.long b :: .long a :: rest)) rfl (a := a) (rest := rest) (by rw [h0]) (by rw [hb]; exact d) t st, q⟩
theorem vx_ialdZ {D : va_G} {cl : List vw_C} {ws : va_W} {tys : List (ClassId × FieldType)} {a : Nat} (hexec : p.tables.exec = Jvm.exec) (hb : c.code = cc) (hK : va_K D cl tys s) (hP : va_P D cl ws H) (q0 t0 : Nat) {cA : ClassId} {n : Nat} {f : Nat → Int32} (ha : ws[q0]? = some (a, .inl (cA, n, .inl f))) (ht : tys[t0]? = some (cA, .int)) {i : Int32} (hout : ¬ vp_in i n) (hdg : decode cc pc = .ok (.iaload, 1))
    (k : ∀ tx : String, tx = (toString "Index " ++ toString i ++ toString " out of bounds for length " ++ toString n : String) → vx_Note p l e R s m args below meth c H locs cells slots Q (F0 m pc ls rest) "java/lang/ArrayIndexOutOfBoundsException" tx) : W p l e R s m args below meth c H locs cells slots Q (F0 m pc ls (.int i :: .ref a :: rest)) := by
  intro T hT X
  obtain ⟨t, st, q⟩ := k _ rfl T hT X
  refine ⟨t, ?_, q⟩
  have h1 := X.ialoadOut hexec (by rw [hT]; exact hP q0 _ ha) ((hK.2 t0 _ ht).1 n (fun j => .int (f j))) (j := i) (by show (i < 0 ∨ (arrV _ _ _).slots.size ≤ _); rw [arrV_size]; exact Classical.byContradiction hout) (g := F0 m pc ls (.int i :: .ref a :: rest)) rfl (rest := rest) rfl (by rw [hb]; exact hdg) t
  simp only [arrV_size] at h1
  exact h1 st
theorem vx_iastZ {D : va_G} {cl : List vw_C} {ws : va_W} {tys : List (ClassId × FieldType)} {a : Nat} (hexec : p.tables.exec = Jvm.exec) (hb : c.code = cc) (hK : va_K D cl tys s) (hP : va_P D cl ws H) (q0 t0 : Nat) {cA : ClassId} {n : Nat} {f : Nat → Int32} (ha : ws[q0]? = some (a, .inl (cA, n, .inl f))) (ht : tys[t0]? = some (cA, .int)) {i : Int32} {x : Int32} (hout : ¬ vp_in i n) (hdg : decode cc pc = .ok (.iastore, 1))
    (k : ∀ tx : String, tx = (toString "Index " ++ toString i ++ toString " out of bounds for length " ++ toString n : String) → vx_Note p l e R s m args below meth c H locs cells slots Q (F0 m pc ls rest) "java/lang/ArrayIndexOutOfBoundsException" tx) : W p l e R s m args below meth c H locs cells slots Q (F0 m pc ls (.int x :: .int i :: .ref a :: rest)) := by
  intro T hT X
  obtain ⟨t, st, q⟩ := k _ rfl T hT X
  refine ⟨t, ?_, q⟩
  have h1 := X.iastoreOut hexec (by rw [hT]; exact hP q0 _ ha) ((hK.2 t0 _ ht).1 n (fun j => .int (f j))) (j := i) (by show (i < 0 ∨ (arrV _ _ _).slots.size ≤ _); rw [arrV_size]; exact Classical.byContradiction hout) (g := F0 m pc ls (.int x :: .int i :: .ref a :: rest)) rfl (rest := rest) rfl (by rw [hb]; exact hdg) t
  simp only [arrV_size] at h1
  exact h1 st
theorem vx_baldZ {D : va_G} {cl : List vw_C} {ws : va_W} {tys : List (ClassId × FieldType)} {a : Nat} (hexec : p.tables.exec = Jvm.exec) (hb : c.code = cc) (hK : va_K D cl tys s) (hP : va_P D cl ws H) (q0 t0 : Nat) {cA : ClassId} {n : Nat} {f : Nat → Int32} (ha : ws[q0]? = some (a, .inl (cA, n, .inl f))) (ht : tys[t0]? = some (cA, .byte)) {i : Int32} (hout : ¬ vp_in i n) (hdg : decode cc pc = .ok (.baload, 1))
    (k : ∀ tx : String, tx = (toString "Index " ++ toString i ++ toString " out of bounds for length " ++ toString n : String) → vx_Note p l e R s m args below meth c H locs cells slots Q (F0 m pc ls rest) "java/lang/ArrayIndexOutOfBoundsException" tx) : W p l e R s m args below meth c H locs cells slots Q (F0 m pc ls (.int i :: .ref a :: rest)) := by
  intro T hT X
  obtain ⟨t, st, q⟩ := k _ rfl T hT X
  refine ⟨t, ?_, q⟩
  have h1 := X.baloadOut hexec (by rw [hT]; exact hP q0 _ ha) ((hK.2 t0 _ ht).1 n (fun j => .int (f j))) (j := i) (by show (i < 0 ∨ (arrV _ _ _).slots.size ≤ _); rw [arrV_size]; exact Classical.byContradiction hout) (g := F0 m pc ls (.int i :: .ref a :: rest)) rfl (rest := rest) rfl (by rw [hb]; exact hdg) t
  simp only [arrV_size] at h1
  exact h1 st
theorem vx_bastZ {D : va_G} {cl : List vw_C} {ws : va_W} {tys : List (ClassId × FieldType)} {a : Nat} (hexec : p.tables.exec = Jvm.exec) (hb : c.code = cc) (hK : va_K D cl tys s) (hP : va_P D cl ws H) (q0 t0 : Nat) {cA : ClassId} {n : Nat} {f : Nat → Int32} (ha : ws[q0]? = some (a, .inl (cA, n, .inl f))) (ht : tys[t0]? = some (cA, .byte)) {i : Int32} {x : Int32} (hout : ¬ vp_in i n) (hdg : decode cc pc = .ok (.bastore, 1))
    (k : ∀ tx : String, tx = (toString "Index " ++ toString i ++ toString " out of bounds for length " ++ toString n : String) → vx_Note p l e R s m args below meth c H locs cells slots Q (F0 m pc ls rest) "java/lang/ArrayIndexOutOfBoundsException" tx) : W p l e R s m args below meth c H locs cells slots Q (F0 m pc ls (.int x :: .int i :: .ref a :: rest)) := by
  intro T hT X
  obtain ⟨t, st, q⟩ := k _ rfl T hT X
  refine ⟨t, ?_, q⟩
  have h1 := X.bastoreOut hexec (by rw [hT]; exact hP q0 _ ha) ((hK.2 t0 _ ht).1 n (fun j => .int (f j))) (j := i) (by show (i < 0 ∨ (arrV _ _ _).slots.size ≤ _); rw [arrV_size]; exact Classical.byContradiction hout) (g := F0 m pc ls (.int x :: .int i :: .ref a :: rest)) rfl (rest := rest) rfl (by rw [hb]; exact hdg) t
  simp only [arrV_size] at h1
  exact h1 st
theorem vx_zaldZ {D : va_G} {cl : List vw_C} {ws : va_W} {tys : List (ClassId × FieldType)} {a : Nat} (hexec : p.tables.exec = Jvm.exec) (hb : c.code = cc) (hK : va_K D cl tys s) (hP : va_P D cl ws H) (q0 t0 : Nat) {cA : ClassId} {n : Nat} {f : Nat → Int32} (ha : ws[q0]? = some (a, .inl (cA, n, .inl f))) (ht : tys[t0]? = some (cA, .boolean)) {i : Int32} (hout : ¬ vp_in i n) (hdg : decode cc pc = .ok (.baload, 1))
    (k : ∀ tx : String, tx = (toString "Index " ++ toString i ++ toString " out of bounds for length " ++ toString n : String) → vx_Note p l e R s m args below meth c H locs cells slots Q (F0 m pc ls rest) "java/lang/ArrayIndexOutOfBoundsException" tx) : W p l e R s m args below meth c H locs cells slots Q (F0 m pc ls (.int i :: .ref a :: rest)) := by
  intro T hT X
  obtain ⟨t, st, q⟩ := k _ rfl T hT X
  refine ⟨t, ?_, q⟩
  have h1 := X.baloadOut hexec (by rw [hT]; exact hP q0 _ ha) ((hK.2 t0 _ ht).1 n (fun j => .int (f j))) (j := i) (by show (i < 0 ∨ (arrV _ _ _).slots.size ≤ _); rw [arrV_size]; exact Classical.byContradiction hout) (g := F0 m pc ls (.int i :: .ref a :: rest)) rfl (rest := rest) rfl (by rw [hb]; exact hdg) t
  simp only [arrV_size] at h1
  exact h1 st
theorem vx_zastZ {D : va_G} {cl : List vw_C} {ws : va_W} {tys : List (ClassId × FieldType)} {a : Nat} (hexec : p.tables.exec = Jvm.exec) (hb : c.code = cc) (hK : va_K D cl tys s) (hP : va_P D cl ws H) (q0 t0 : Nat) {cA : ClassId} {n : Nat} {f : Nat → Int32} (ha : ws[q0]? = some (a, .inl (cA, n, .inl f))) (ht : tys[t0]? = some (cA, .boolean)) {i : Int32} {x : Int32} (hout : ¬ vp_in i n) (hdg : decode cc pc = .ok (.bastore, 1))
    (k : ∀ tx : String, tx = (toString "Index " ++ toString i ++ toString " out of bounds for length " ++ toString n : String) → vx_Note p l e R s m args below meth c H locs cells slots Q (F0 m pc ls rest) "java/lang/ArrayIndexOutOfBoundsException" tx) : W p l e R s m args below meth c H locs cells slots Q (F0 m pc ls (.int x :: .int i :: .ref a :: rest)) := by
  intro T hT X
  obtain ⟨t, st, q⟩ := k _ rfl T hT X
  refine ⟨t, ?_, q⟩
  have h1 := X.bastoreOut hexec (by rw [hT]; exact hP q0 _ ha) ((hK.2 t0 _ ht).1 n (fun j => .int (f j))) (j := i) (by show (i < 0 ∨ (arrV _ _ _).slots.size ≤ _); rw [arrV_size]; exact Classical.byContradiction hout) (g := F0 m pc ls (.int x :: .int i :: .ref a :: rest)) rfl (rest := rest) rfl (by rw [hb]; exact hdg) t
  simp only [arrV_size] at h1
  exact h1 st
theorem vx_caldZ {D : va_G} {cl : List vw_C} {ws : va_W} {tys : List (ClassId × FieldType)} {a : Nat} (hexec : p.tables.exec = Jvm.exec) (hb : c.code = cc) (hK : va_K D cl tys s) (hP : va_P D cl ws H) (q0 t0 : Nat) {cA : ClassId} {n : Nat} {f : Nat → Int32} (ha : ws[q0]? = some (a, .inl (cA, n, .inl f))) (ht : tys[t0]? = some (cA, .char)) {i : Int32} (hout : ¬ vp_in i n) (hdg : decode cc pc = .ok (.caload, 1))
    (k : ∀ tx : String, tx = (toString "Index " ++ toString i ++ toString " out of bounds for length " ++ toString n : String) → vx_Note p l e R s m args below meth c H locs cells slots Q (F0 m pc ls rest) "java/lang/ArrayIndexOutOfBoundsException" tx) : W p l e R s m args below meth c H locs cells slots Q (F0 m pc ls (.int i :: .ref a :: rest)) := by
  intro T hT X
  obtain ⟨t, st, q⟩ := k _ rfl T hT X
  refine ⟨t, ?_, q⟩
  have h1 := X.caloadOut hexec (by rw [hT]; exact hP q0 _ ha) ((hK.2 t0 _ ht).1 n (fun j => .int (f j))) (j := i) (by show (i < 0 ∨ (arrV _ _ _).slots.size ≤ _); rw [arrV_size]; exact Classical.byContradiction hout) (g := F0 m pc ls (.int i :: .ref a :: rest)) rfl (rest := rest) rfl (by rw [hb]; exact hdg) t
  simp only [arrV_size] at h1
  exact h1 st
theorem vx_castZ {D : va_G} {cl : List vw_C} {ws : va_W} {tys : List (ClassId × FieldType)} {a : Nat} (hexec : p.tables.exec = Jvm.exec) (hb : c.code = cc) (hK : va_K D cl tys s) (hP : va_P D cl ws H) (q0 t0 : Nat) {cA : ClassId} {n : Nat} {f : Nat → Int32} (ha : ws[q0]? = some (a, .inl (cA, n, .inl f))) (ht : tys[t0]? = some (cA, .char)) {i : Int32} {x : Int32} (hout : ¬ vp_in i n) (hdg : decode cc pc = .ok (.castore, 1))
    (k : ∀ tx : String, tx = (toString "Index " ++ toString i ++ toString " out of bounds for length " ++ toString n : String) → vx_Note p l e R s m args below meth c H locs cells slots Q (F0 m pc ls rest) "java/lang/ArrayIndexOutOfBoundsException" tx) : W p l e R s m args below meth c H locs cells slots Q (F0 m pc ls (.int x :: .int i :: .ref a :: rest)) := by
  intro T hT X
  obtain ⟨t, st, q⟩ := k _ rfl T hT X
  refine ⟨t, ?_, q⟩
  have h1 := X.castoreOut hexec (by rw [hT]; exact hP q0 _ ha) ((hK.2 t0 _ ht).1 n (fun j => .int (f j))) (j := i) (by show (i < 0 ∨ (arrV _ _ _).slots.size ≤ _); rw [arrV_size]; exact Classical.byContradiction hout) (g := F0 m pc ls (.int x :: .int i :: .ref a :: rest)) rfl (rest := rest) rfl (by rw [hb]; exact hdg) t
  simp only [arrV_size] at h1
  exact h1 st
theorem vx_saldZ {D : va_G} {cl : List vw_C} {ws : va_W} {tys : List (ClassId × FieldType)} {a : Nat} (hexec : p.tables.exec = Jvm.exec) (hb : c.code = cc) (hK : va_K D cl tys s) (hP : va_P D cl ws H) (q0 t0 : Nat) {cA : ClassId} {n : Nat} {f : Nat → Int32} (ha : ws[q0]? = some (a, .inl (cA, n, .inl f))) (ht : tys[t0]? = some (cA, .short)) {i : Int32} (hout : ¬ vp_in i n) (hdg : decode cc pc = .ok (.saload, 1))
    (k : ∀ tx : String, tx = (toString "Index " ++ toString i ++ toString " out of bounds for length " ++ toString n : String) → vx_Note p l e R s m args below meth c H locs cells slots Q (F0 m pc ls rest) "java/lang/ArrayIndexOutOfBoundsException" tx) : W p l e R s m args below meth c H locs cells slots Q (F0 m pc ls (.int i :: .ref a :: rest)) := by
  intro T hT X
  obtain ⟨t, st, q⟩ := k _ rfl T hT X
  refine ⟨t, ?_, q⟩
  have h1 := X.saloadOut hexec (by rw [hT]; exact hP q0 _ ha) ((hK.2 t0 _ ht).1 n (fun j => .int (f j))) (j := i) (by show (i < 0 ∨ (arrV _ _ _).slots.size ≤ _); rw [arrV_size]; exact Classical.byContradiction hout) (g := F0 m pc ls (.int i :: .ref a :: rest)) rfl (rest := rest) rfl (by rw [hb]; exact hdg) t
  simp only [arrV_size] at h1
  exact h1 st
theorem vx_sastZ {D : va_G} {cl : List vw_C} {ws : va_W} {tys : List (ClassId × FieldType)} {a : Nat} (hexec : p.tables.exec = Jvm.exec) (hb : c.code = cc) (hK : va_K D cl tys s) (hP : va_P D cl ws H) (q0 t0 : Nat) {cA : ClassId} {n : Nat} {f : Nat → Int32} (ha : ws[q0]? = some (a, .inl (cA, n, .inl f))) (ht : tys[t0]? = some (cA, .short)) {i : Int32} {x : Int32} (hout : ¬ vp_in i n) (hdg : decode cc pc = .ok (.sastore, 1))
    (k : ∀ tx : String, tx = (toString "Index " ++ toString i ++ toString " out of bounds for length " ++ toString n : String) → vx_Note p l e R s m args below meth c H locs cells slots Q (F0 m pc ls rest) "java/lang/ArrayIndexOutOfBoundsException" tx) : W p l e R s m args below meth c H locs cells slots Q (F0 m pc ls (.int x :: .int i :: .ref a :: rest)) := by
  intro T hT X
  obtain ⟨t, st, q⟩ := k _ rfl T hT X
  refine ⟨t, ?_, q⟩
  have h1 := X.sastoreOut hexec (by rw [hT]; exact hP q0 _ ha) ((hK.2 t0 _ ht).1 n (fun j => .int (f j))) (j := i) (by show (i < 0 ∨ (arrV _ _ _).slots.size ≤ _); rw [arrV_size]; exact Classical.byContradiction hout) (g := F0 m pc ls (.int x :: .int i :: .ref a :: rest)) rfl (rest := rest) rfl (by rw [hb]; exact hdg) t
  simp only [arrV_size] at h1
  exact h1 st
theorem vx_laldZ {D : va_G} {cl : List vw_C} {ws : va_W} {tys : List (ClassId × FieldType)} {a : Nat} (hexec : p.tables.exec = Jvm.exec) (hb : c.code = cc) (hK : va_K D cl tys s) (hP : va_P D cl ws H) (q0 t0 : Nat) {cA : ClassId} {n : Nat} {f : Nat → Int64} (ha : ws[q0]? = some (a, .inl (cA, n, .inr (.inl f)))) (ht : tys[t0]? = some (cA, .long)) {i : Int32} (hout : ¬ vp_in i n) (hdg : decode cc pc = .ok (.laload, 1))
    (k : ∀ tx : String, tx = (toString "Index " ++ toString i ++ toString " out of bounds for length " ++ toString n : String) → vx_Note p l e R s m args below meth c H locs cells slots Q (F0 m pc ls rest) "java/lang/ArrayIndexOutOfBoundsException" tx) : W p l e R s m args below meth c H locs cells slots Q (F0 m pc ls (.int i :: .ref a :: rest)) := by
  intro T hT X
  obtain ⟨t, st, q⟩ := k _ rfl T hT X
  refine ⟨t, ?_, q⟩
  have h1 := X.laloadOut hexec (by rw [hT]; exact hP q0 _ ha) ((hK.2 t0 _ ht).1 n (fun j => .long (f j))) (j := i) (by show (i < 0 ∨ (arrV _ _ _).slots.size ≤ _); rw [arrV_size]; exact Classical.byContradiction hout) (g := F0 m pc ls (.int i :: .ref a :: rest)) rfl (rest := rest) rfl (by rw [hb]; exact hdg) t
  simp only [arrV_size] at h1
  exact h1 st
theorem vx_lastZ {D : va_G} {cl : List vw_C} {ws : va_W} {tys : List (ClassId × FieldType)} {a : Nat} (hexec : p.tables.exec = Jvm.exec) (hb : c.code = cc) (hK : va_K D cl tys s) (hP : va_P D cl ws H) (q0 t0 : Nat) {cA : ClassId} {n : Nat} {f : Nat → Int64} (ha : ws[q0]? = some (a, .inl (cA, n, .inr (.inl f)))) (ht : tys[t0]? = some (cA, .long)) {i : Int32} {x : Int64} (hout : ¬ vp_in i n) (hdg : decode cc pc = .ok (.lastore, 1))
    (k : ∀ tx : String, tx = (toString "Index " ++ toString i ++ toString " out of bounds for length " ++ toString n : String) → vx_Note p l e R s m args below meth c H locs cells slots Q (F0 m pc ls rest) "java/lang/ArrayIndexOutOfBoundsException" tx) : W p l e R s m args below meth c H locs cells slots Q (F0 m pc ls (.long x :: .int i :: .ref a :: rest)) := by
  intro T hT X
  obtain ⟨t, st, q⟩ := k _ rfl T hT X
  refine ⟨t, ?_, q⟩
  have h1 := X.lastoreOut hexec (by rw [hT]; exact hP q0 _ ha) ((hK.2 t0 _ ht).1 n (fun j => .long (f j))) (j := i) (by show (i < 0 ∨ (arrV _ _ _).slots.size ≤ _); rw [arrV_size]; exact Classical.byContradiction hout) (g := F0 m pc ls (.long x :: .int i :: .ref a :: rest)) rfl (rest := rest) rfl (by rw [hb]; exact hdg) t
  simp only [arrV_size] at h1
  exact h1 st
theorem vx_faldZ {D : va_G} {cl : List vw_C} {ws : va_W} {tys : List (ClassId × FieldType)} {a : Nat} (hexec : p.tables.exec = Jvm.exec) (hb : c.code = cc) (hK : va_K D cl tys s) (hP : va_P D cl ws H) (q0 t0 : Nat) {cA : ClassId} {n : Nat} {f : Nat → UInt32} (ha : ws[q0]? = some (a, .inl (cA, n, .inr (.inr (.inl f))))) (ht : tys[t0]? = some (cA, .float)) {i : Int32} (hout : ¬ vp_in i n) (hdg : decode cc pc = .ok (.faload, 1))
    (k : ∀ tx : String, tx = (toString "Index " ++ toString i ++ toString " out of bounds for length " ++ toString n : String) → vx_Note p l e R s m args below meth c H locs cells slots Q (F0 m pc ls rest) "java/lang/ArrayIndexOutOfBoundsException" tx) : W p l e R s m args below meth c H locs cells slots Q (F0 m pc ls (.int i :: .ref a :: rest)) := by
  intro T hT X
  obtain ⟨t, st, q⟩ := k _ rfl T hT X
  refine ⟨t, ?_, q⟩
  have h1 := X.faloadOut hexec (by rw [hT]; exact hP q0 _ ha) ((hK.2 t0 _ ht).1 n (fun j => .float (f j))) (j := i) (by show (i < 0 ∨ (arrV _ _ _).slots.size ≤ _); rw [arrV_size]; exact Classical.byContradiction hout) (g := F0 m pc ls (.int i :: .ref a :: rest)) rfl (rest := rest) rfl (by rw [hb]; exact hdg) t
  simp only [arrV_size] at h1
  exact h1 st
theorem vx_fastZ {D : va_G} {cl : List vw_C} {ws : va_W} {tys : List (ClassId × FieldType)} {a : Nat} (hexec : p.tables.exec = Jvm.exec) (hb : c.code = cc) (hK : va_K D cl tys s) (hP : va_P D cl ws H) (q0 t0 : Nat) {cA : ClassId} {n : Nat} {f : Nat → UInt32} (ha : ws[q0]? = some (a, .inl (cA, n, .inr (.inr (.inl f))))) (ht : tys[t0]? = some (cA, .float)) {i : Int32} {x : UInt32} (hout : ¬ vp_in i n) (hdg : decode cc pc = .ok (.fastore, 1))
    (k : ∀ tx : String, tx = (toString "Index " ++ toString i ++ toString " out of bounds for length " ++ toString n : String) → vx_Note p l e R s m args below meth c H locs cells slots Q (F0 m pc ls rest) "java/lang/ArrayIndexOutOfBoundsException" tx) : W p l e R s m args below meth c H locs cells slots Q (F0 m pc ls (.float x :: .int i :: .ref a :: rest)) := by
  intro T hT X
  obtain ⟨t, st, q⟩ := k _ rfl T hT X
  refine ⟨t, ?_, q⟩
  have h1 := X.fastoreOut hexec (by rw [hT]; exact hP q0 _ ha) ((hK.2 t0 _ ht).1 n (fun j => .float (f j))) (j := i) (by show (i < 0 ∨ (arrV _ _ _).slots.size ≤ _); rw [arrV_size]; exact Classical.byContradiction hout) (g := F0 m pc ls (.float x :: .int i :: .ref a :: rest)) rfl (rest := rest) rfl (by rw [hb]; exact hdg) t
  simp only [arrV_size] at h1
  exact h1 st
theorem vx_daldZ {D : va_G} {cl : List vw_C} {ws : va_W} {tys : List (ClassId × FieldType)} {a : Nat} (hexec : p.tables.exec = Jvm.exec) (hb : c.code = cc) (hK : va_K D cl tys s) (hP : va_P D cl ws H) (q0 t0 : Nat) {cA : ClassId} {n : Nat} {f : Nat → UInt64} (ha : ws[q0]? = some (a, .inl (cA, n, .inr (.inr (.inr (.inl f)))))) (ht : tys[t0]? = some (cA, .double)) {i : Int32} (hout : ¬ vp_in i n) (hdg : decode cc pc = .ok (.daload, 1))
    (k : ∀ tx : String, tx = (toString "Index " ++ toString i ++ toString " out of bounds for length " ++ toString n : String) → vx_Note p l e R s m args below meth c H locs cells slots Q (F0 m pc ls rest) "java/lang/ArrayIndexOutOfBoundsException" tx) : W p l e R s m args below meth c H locs cells slots Q (F0 m pc ls (.int i :: .ref a :: rest)) := by
  intro T hT X
  obtain ⟨t, st, q⟩ := k _ rfl T hT X
  refine ⟨t, ?_, q⟩
  have h1 := X.daloadOut hexec (by rw [hT]; exact hP q0 _ ha) ((hK.2 t0 _ ht).1 n (fun j => .double (f j))) (j := i) (by show (i < 0 ∨ (arrV _ _ _).slots.size ≤ _); rw [arrV_size]; exact Classical.byContradiction hout) (g := F0 m pc ls (.int i :: .ref a :: rest)) rfl (rest := rest) rfl (by rw [hb]; exact hdg) t
  simp only [arrV_size] at h1
  exact h1 st
theorem vx_dastZ {D : va_G} {cl : List vw_C} {ws : va_W} {tys : List (ClassId × FieldType)} {a : Nat} (hexec : p.tables.exec = Jvm.exec) (hb : c.code = cc) (hK : va_K D cl tys s) (hP : va_P D cl ws H) (q0 t0 : Nat) {cA : ClassId} {n : Nat} {f : Nat → UInt64} (ha : ws[q0]? = some (a, .inl (cA, n, .inr (.inr (.inr (.inl f)))))) (ht : tys[t0]? = some (cA, .double)) {i : Int32} {x : UInt64} (hout : ¬ vp_in i n) (hdg : decode cc pc = .ok (.dastore, 1))
    (k : ∀ tx : String, tx = (toString "Index " ++ toString i ++ toString " out of bounds for length " ++ toString n : String) → vx_Note p l e R s m args below meth c H locs cells slots Q (F0 m pc ls rest) "java/lang/ArrayIndexOutOfBoundsException" tx) : W p l e R s m args below meth c H locs cells slots Q (F0 m pc ls (.double x :: .int i :: .ref a :: rest)) := by
  intro T hT X
  obtain ⟨t, st, q⟩ := k _ rfl T hT X
  refine ⟨t, ?_, q⟩
  have h1 := X.dastoreOut hexec (by rw [hT]; exact hP q0 _ ha) ((hK.2 t0 _ ht).1 n (fun j => .double (f j))) (j := i) (by show (i < 0 ∨ (arrV _ _ _).slots.size ≤ _); rw [arrV_size]; exact Classical.byContradiction hout) (g := F0 m pc ls (.double x :: .int i :: .ref a :: rest)) rfl (rest := rest) rfl (by rw [hb]; exact hdg) t
  simp only [arrV_size] at h1
  exact h1 st
theorem vx_arraylengthN (hexec : p.tables.exec = Jvm.exec) (hb : c.code = cc) (hdg : decode cc pc = .ok (.arraylength, 1)) (k : vx_NoteN p l e R s m args below meth c H locs cells slots Q (F0 m pc ls rest)) : W p l e R s m args below meth c H locs cells slots Q (F0 m pc ls (.null :: rest)) := by
  intro T hT X
  obtain ⟨t, st, q⟩ := k T hT X
  exact ⟨t, X.arraylengthNull hexec (g := F0 m pc ls (.null :: rest)) rfl (rest := rest) rfl (by rw [hb]; exact hdg) t st, q⟩
theorem vx_ialoadN (hexec : p.tables.exec = Jvm.exec) (hb : c.code = cc) {i : Int32} (hdg : decode cc pc = .ok (.iaload, 1)) (k : vx_NoteN p l e R s m args below meth c H locs cells slots Q (F0 m pc ls rest)) : W p l e R s m args below meth c H locs cells slots Q (F0 m pc ls (.int i :: .null :: rest)) := by
  intro T hT X
  obtain ⟨t, st, q⟩ := k T hT X
  exact ⟨t, X.ialoadNull hexec (g := F0 m pc ls (.int i :: .null :: rest)) rfl (rest := rest) rfl (by rw [hb]; exact hdg) t st, q⟩
theorem vx_laloadN (hexec : p.tables.exec = Jvm.exec) (hb : c.code = cc) {i : Int32} (hdg : decode cc pc = .ok (.laload, 1)) (k : vx_NoteN p l e R s m args below meth c H locs cells slots Q (F0 m pc ls rest)) : W p l e R s m args below meth c H locs cells slots Q (F0 m pc ls (.int i :: .null :: rest)) := by
  intro T hT X
  obtain ⟨t, st, q⟩ := k T hT X
  exact ⟨t, X.laloadNull hexec (g := F0 m pc ls (.int i :: .null :: rest)) rfl (rest := rest) rfl (by rw [hb]; exact hdg) t st, q⟩
theorem vx_faloadN (hexec : p.tables.exec = Jvm.exec) (hb : c.code = cc) {i : Int32} (hdg : decode cc pc = .ok (.faload, 1)) (k : vx_NoteN p l e R s m args below meth c H locs cells slots Q (F0 m pc ls rest)) : W p l e R s m args below meth c H locs cells slots Q (F0 m pc ls (.int i :: .null :: rest)) := by
  intro T hT X
  obtain ⟨t, st, q⟩ := k T hT X
  exact ⟨t, X.faloadNull hexec (g := F0 m pc ls (.int i :: .null :: rest)) rfl (rest := rest) rfl (by rw [hb]; exact hdg) t st, q⟩
theorem vx_daloadN (hexec : p.tables.exec = Jvm.exec) (hb : c.code = cc) {i : Int32} (hdg : decode cc pc = .ok (.daload, 1)) (k : vx_NoteN p l e R s m args below meth c H locs cells slots Q (F0 m pc ls rest)) : W p l e R s m args below meth c H locs cells slots Q (F0 m pc ls (.int i :: .null :: rest)) := by
  intro T hT X
  obtain ⟨t, st, q⟩ := k T hT X
  exact ⟨t, X.daloadNull hexec (g := F0 m pc ls (.int i :: .null :: rest)) rfl (rest := rest) rfl (by rw [hb]; exact hdg) t st, q⟩
theorem vx_aaloadN (hexec : p.tables.exec = Jvm.exec) (hb : c.code = cc) {i : Int32} (hdg : decode cc pc = .ok (.aaload, 1)) (k : vx_NoteN p l e R s m args below meth c H locs cells slots Q (F0 m pc ls rest)) : W p l e R s m args below meth c H locs cells slots Q (F0 m pc ls (.int i :: .null :: rest)) := by
  intro T hT X
  obtain ⟨t, st, q⟩ := k T hT X
  exact ⟨t, X.aaloadNull hexec (g := F0 m pc ls (.int i :: .null :: rest)) rfl (rest := rest) rfl (by rw [hb]; exact hdg) t st, q⟩
theorem vx_baloadN (hexec : p.tables.exec = Jvm.exec) (hb : c.code = cc) {i : Int32} (hdg : decode cc pc = .ok (.baload, 1)) (k : vx_NoteN p l e R s m args below meth c H locs cells slots Q (F0 m pc ls rest)) : W p l e R s m args below meth c H locs cells slots Q (F0 m pc ls (.int i :: .null :: rest)) := by
  intro T hT X
  obtain ⟨t, st, q⟩ := k T hT X
  exact ⟨t, X.baloadNull hexec (g := F0 m pc ls (.int i :: .null :: rest)) rfl (rest := rest) rfl (by rw [hb]; exact hdg) t st, q⟩
theorem vx_caloadN (hexec : p.tables.exec = Jvm.exec) (hb : c.code = cc) {i : Int32} (hdg : decode cc pc = .ok (.caload, 1)) (k : vx_NoteN p l e R s m args below meth c H locs cells slots Q (F0 m pc ls rest)) : W p l e R s m args below meth c H locs cells slots Q (F0 m pc ls (.int i :: .null :: rest)) := by
  intro T hT X
  obtain ⟨t, st, q⟩ := k T hT X
  exact ⟨t, X.caloadNull hexec (g := F0 m pc ls (.int i :: .null :: rest)) rfl (rest := rest) rfl (by rw [hb]; exact hdg) t st, q⟩
theorem vx_saloadN (hexec : p.tables.exec = Jvm.exec) (hb : c.code = cc) {i : Int32} (hdg : decode cc pc = .ok (.saload, 1)) (k : vx_NoteN p l e R s m args below meth c H locs cells slots Q (F0 m pc ls rest)) : W p l e R s m args below meth c H locs cells slots Q (F0 m pc ls (.int i :: .null :: rest)) := by
  intro T hT X
  obtain ⟨t, st, q⟩ := k T hT X
  exact ⟨t, X.saloadNull hexec (g := F0 m pc ls (.int i :: .null :: rest)) rfl (rest := rest) rfl (by rw [hb]; exact hdg) t st, q⟩
theorem vx_iastoreN (hexec : p.tables.exec = Jvm.exec) (hb : c.code = cc) {x : Int32} {i : Int32} (hdg : decode cc pc = .ok (.iastore, 1)) (k : vx_NoteN p l e R s m args below meth c H locs cells slots Q (F0 m pc ls rest)) : W p l e R s m args below meth c H locs cells slots Q (F0 m pc ls (.int x :: .int i :: .null :: rest)) := by
  intro T hT X
  obtain ⟨t, st, q⟩ := k T hT X
  exact ⟨t, X.iastoreNull hexec (g := F0 m pc ls (.int x :: .int i :: .null :: rest)) rfl (rest := rest) rfl (by rw [hb]; exact hdg) t st, q⟩
theorem vx_lastoreN (hexec : p.tables.exec = Jvm.exec) (hb : c.code = cc) {x : Int64} {i : Int32} (hdg : decode cc pc = .ok (.lastore, 1)) (k : vx_NoteN p l e R s m args below meth c H locs cells slots Q (F0 m pc ls rest)) : W p l e R s m args below meth c H locs cells slots Q (F0 m pc ls (.long x :: .int i :: .null :: rest)) := by
  intro T hT X
  obtain ⟨t, st, q⟩ := k T hT X
  exact ⟨t, X.lastoreNull hexec (g := F0 m pc ls (.long x :: .int i :: .null :: rest)) rfl (rest := rest) rfl (by rw [hb]; exact hdg) t st, q⟩
theorem vx_fastoreN (hexec : p.tables.exec = Jvm.exec) (hb : c.code = cc) {x : UInt32} {i : Int32} (hdg : decode cc pc = .ok (.fastore, 1)) (k : vx_NoteN p l e R s m args below meth c H locs cells slots Q (F0 m pc ls rest)) : W p l e R s m args below meth c H locs cells slots Q (F0 m pc ls (.float x :: .int i :: .null :: rest)) := by
  intro T hT X
  obtain ⟨t, st, q⟩ := k T hT X
  exact ⟨t, X.fastoreNull hexec (g := F0 m pc ls (.float x :: .int i :: .null :: rest)) rfl (rest := rest) rfl (by rw [hb]; exact hdg) t st, q⟩
theorem vx_dastoreN (hexec : p.tables.exec = Jvm.exec) (hb : c.code = cc) {x : UInt64} {i : Int32} (hdg : decode cc pc = .ok (.dastore, 1)) (k : vx_NoteN p l e R s m args below meth c H locs cells slots Q (F0 m pc ls rest)) : W p l e R s m args below meth c H locs cells slots Q (F0 m pc ls (.double x :: .int i :: .null :: rest)) := by
  intro T hT X
  obtain ⟨t, st, q⟩ := k T hT X
  exact ⟨t, X.dastoreNull hexec (g := F0 m pc ls (.double x :: .int i :: .null :: rest)) rfl (rest := rest) rfl (by rw [hb]; exact hdg) t st, q⟩
theorem vx_bastoreN (hexec : p.tables.exec = Jvm.exec) (hb : c.code = cc) {x : Int32} {i : Int32} (hdg : decode cc pc = .ok (.bastore, 1)) (k : vx_NoteN p l e R s m args below meth c H locs cells slots Q (F0 m pc ls rest)) : W p l e R s m args below meth c H locs cells slots Q (F0 m pc ls (.int x :: .int i :: .null :: rest)) := by
  intro T hT X
  obtain ⟨t, st, q⟩ := k T hT X
  exact ⟨t, X.bastoreNull hexec (g := F0 m pc ls (.int x :: .int i :: .null :: rest)) rfl (rest := rest) rfl (by rw [hb]; exact hdg) t st, q⟩
theorem vx_castoreN (hexec : p.tables.exec = Jvm.exec) (hb : c.code = cc) {x : Int32} {i : Int32} (hdg : decode cc pc = .ok (.castore, 1)) (k : vx_NoteN p l e R s m args below meth c H locs cells slots Q (F0 m pc ls rest)) : W p l e R s m args below meth c H locs cells slots Q (F0 m pc ls (.int x :: .int i :: .null :: rest)) := by
  intro T hT X
  obtain ⟨t, st, q⟩ := k T hT X
  exact ⟨t, X.castoreNull hexec (g := F0 m pc ls (.int x :: .int i :: .null :: rest)) rfl (rest := rest) rfl (by rw [hb]; exact hdg) t st, q⟩
theorem vx_sastoreN (hexec : p.tables.exec = Jvm.exec) (hb : c.code = cc) {x : Int32} {i : Int32} (hdg : decode cc pc = .ok (.sastore, 1)) (k : vx_NoteN p l e R s m args below meth c H locs cells slots Q (F0 m pc ls rest)) : W p l e R s m args below meth c H locs cells slots Q (F0 m pc ls (.int x :: .int i :: .null :: rest)) := by
  intro T hT X
  obtain ⟨t, st, q⟩ := k T hT X
  exact ⟨t, X.sastoreNull hexec (g := F0 m pc ls (.int x :: .int i :: .null :: rest)) rfl (rest := rest) rfl (by rw [hb]; exact hdg) t st, q⟩
theorem vx_invokeN {own C : String} {index maxL : Nat} {y : MethodName} {bytes : ByteArray} {ret : Option FieldType} (hexec : p.tables.exec = Jvm.exec) (hb : c.code = cc) (hown : s.vm.findClass own = some m.cls) (hlink : (Cond.methodLink own index y).before args s = true) (hinst : (Cond.instanceMethod y).before args s = true) (hcode : (Cond.code y bytes maxL ret).before args s = true) (hsel : (Cond.selects C y y).before args s = true)
    (hx : y.cls ≠ "java/lang/invoke/MethodHandle" ∧ y.cls ≠ "java/lang/invoke/VarHandle") {As : List Value} (hlen : (parseMethodDescriptor y.desc).map (fun d => d.parameters.length) = some As.length) (hdg : decode cc pc = .ok (.invokevirtual index, 3))
    (k : vx_NoteN p l e R s m args below meth c H locs cells slots Q (F0 m pc ls rest)) {st0 : List Value} (hst : st0 = As.reverse ++ .null :: rest) : W p l e R s m args below meth c H locs cells slots Q (F0 m pc ls st0) := by
  intro T hT X
  obtain ⟨r0, r, hn, hrm, hstR, hsigR⟩ := va_Decl.of hinst hcode
  obtain ⟨c2, r2, m2, q1, q2, q3, q4, kP, hkP, hkPi⟩ := Cond.selects_spec hsel
  cases hn.symm.trans q3
  have hl9 : As.length = r.sig.parameters.length := by
    rw [hsigR] at hlen
    exact (Option.some.inj hlen).symm
  obtain ⟨vm', X1, st1⟩ := X.invokevirtualNull hexec hown hlink hn hrm hstR hkP hkPi hx (g := F0 m pc ls st0) rfl (argsL := As) (rest := rest) hl9 hst (by rw [hb]; exact hdg)
  obtain ⟨t, st, q⟩ := k (T.setVm vm') hT X1
  exact ⟨t, st1 t st, q⟩
theorem vx_newarrayZ {atype : ArrayType} (hexec : p.tables.exec = Jvm.exec) (hb : c.code = cc) {n : Int32} (h0 : n < 0) (hdg : decode cc pc = .ok (.newarray atype, 2)) (k : ∀ tx : String, tx = toString n → vx_Note p l e R s m args below meth c H locs cells slots Q (F0 m pc ls rest) "java/lang/NegativeArraySizeException" tx) : W p l e R s m args below meth c H locs cells slots Q (F0 m pc ls (.int n :: rest)) := by
  intro T hT X
  obtain ⟨t, st, q⟩ := k _ rfl T hT X
  exact ⟨t, X.newarrayNegative hexec (g := F0 m pc ls (.int n :: rest)) rfl h0 (rest := rest) rfl (by rw [hb]; exact hdg) t st, q⟩
end
end VXM
/-! ===== END ===== -/
/-! ===== BEGIN an exception as an object: made, kept, thrown later (no traces kept) ===== -/
section VXK
variable {p : Program} {l : Launch} {e : Env} {R : Room} {s : State} {m₀ : MethodId} {args : Array Value} {below : List Frame} {meth : Method} {c : Code} {W : State} {locs : List Loc} {cells slots : Nat}
set_option maxHeartbeats 1000000 in
theorem vx_ctorMadeS (X : Stand p l e R s m₀ args below meth c W locs cells slots) (hexec : p.tables.exec = Jvm.exec) (htr : e.platform.stackTraces = false) {own cls : String} {names : List String} {ic : Nat}
    (hown : s.vm.findClass own = some m₀.cls) (hcls : Bundle.fit cls = true) (hnames : ∀ n ∈ names, Bundle.fit n = true)
    (h : ∀ a ∈ Bundle.ownAtoms own ic cls names, a.before args s = true)
    (hlocs : ∀ x ∈ locs, ∀ cell, s.heap[x.base]? = some cell → cell.vm.isStatics = false)
    {a : Addr} {cX : ClassId} {kX : Class} (hfoundX : s.vm.findClass cls = some cX) (hkX : s.vm.classes[cX]? = some kX) (hcell : W.heap[a]? = some (freshCell cX kX)) (hnew : s.heap.size ≤ a)
    {msg : Value} (hmsg : msg.isRef = true)
    {g : JFrame} (hg : g.method = m₀) (hsize : g.locals.size = c.maxLocals) {rest : List Value} (hstack : g.stack = msg :: .ref a :: .ref a :: rest)
    (hd6 : decode c.code g.pc = .ok (.invokespecial ic, 3))
    (hRframes : names.length + 3 < R.frames) (hRlocals : 2 * g.monitorRoom + ((Value.ref a :: rest).map fun v => v.category).sum + (13 * (names.length + 1) + 42) ≤ R.locals) :
    ∃ (V : State) (ce : Cell) (L : List Loc), Stand p l e R s m₀ args below meth c (V.setCell a ce) (locs ++ L) cells slots ∧ (∀ y ∈ L, y.base = a) ∧ a < V.heap.size ∧ ce.cls = cX ∧ ce.vm = .none ∧
      ∀ target, Steps p.tables e below ((V.setCell a ce).setTop { g with stack := .ref a :: rest, pc := g.pc + 3 }) target → Steps p.tables e below (W.setTop g) target := by
  have howns : e.platform.frameOwnsMonitors = true := by rw [X.admits.platform]
  have hfin : e.platform.finalization = false := by rw [X.admits.platform]
  have hpl : e.platform.magicAccessors = ({} : Platform).magicAccessors := by rw [X.admits.platform]
  have a' : ∀ x, x ∈ Bundle.ownAtoms own ic cls names → x.holds args s none s [] = true := fun x hx => h x hx
  obtain ⟨T, Z0, L, -, Y⟩ := ThrowableC.of_atoms (args := args) howns hfin hpl (fun x hx => h x (by simp [Bundle.ownAtoms, hx]))
  obtain ⟨Z, M, LZ, LM, hnZ⟩ := Init0T.ofS_atoms (args := args) hpl L Y (fun x hx => h x (by simp [Bundle.ownAtoms, hx]))
  obtain ⟨P1, Ps, hlen, L1, hL, hP1m, hlink1, hlink⟩ := Bundle.chainS (args := args) hpl hnZ names cls hcls hnames (fun x hx => h x (by simp [Bundle.ownAtoms, hx]))
  have hfound : s.vm.findClass cls = some P1.m.cls := findClass_of_methodNamed hP1m
  cases Option.some.inj (hfoundX.symm.trans hfound)
  obtain ⟨c1, kX', hc1, hk, hord, -, -, hn6⟩ := Cond.instantiable_spec (a' (.instantiable cls 6) (by simp [Bundle.ownAtoms]))
  cases Option.some.inj (hc1.symm.trans hfound)
  cases Option.some.inj (hkX.symm.trans hk)
  have hsel0 : selectMethod e.platform s.vm P1.m.cls T.fill0 = .method T.fill0 := by
    obtain ⟨c2, r2, m2, q1, q2, q3, q4, -⟩ := Cond.selects_spec (a' (.selects cls Bundle.tFill0 Bundle.tFill0) (by simp [Bundle.ownAtoms]))
    cases Option.some.inj (q1.symm.trans hfound)
    cases Option.some.inj (q2.symm.trans (State.methodFound?_of_named Y.fill0 (by decide)))
    cases Option.some.inj (q3.symm.trans Y.fill0)
    rw [Launch.admits_selectMethod X.admits]; exact q4
  have hselF : selectMethod e.platform s.vm P1.m.cls T.fill = .method T.fill := by
    obtain ⟨c2, r2, m2, q1, q2, q3, q4, -⟩ := Cond.selects_spec (a' (.selects cls Bundle.tFill Bundle.tFill) (by simp [Bundle.ownAtoms]))
    cases Option.some.inj (q1.symm.trans hfound)
    cases Option.some.inj (q2.symm.trans (State.methodFound?_of_named Y.fill (by decide)))
    cases Option.some.inj (q3.symm.trans Y.fill)
    rw [Launch.admits_selectMethod X.admits]; exact q4
  obtain ⟨cellS0, hcS0, hiss⟩ := Y.statics
  obtain ⟨u0, hu0⟩ := Cond.staticRefV Y.unassigned L.unassignedStatic L.statics hcS0 hiss (a' (.isRef (.static Bundle.tN "UNASSIGNED_STACK" Bundle.steD)) (by simp [Bundle.ownAtoms]))
  obtain ⟨sen, hsen⟩ := Cond.staticRefV Y.sentinel L.sentinelStatic L.statics hcS0 hiss (a' (.isRef (.static Bundle.tN "SUPPRESSED_SENTINEL" Bundle.listD)) (by simp [Bundle.ownAtoms]))
  obtain ⟨ci198, i198, fB, hk198, hg198, ha198, hsB, -, hnB, htB, hffB⟩ := Cond.ownField (t := .object "java/lang/Object") Y.found L.cls (by decide +kernel) (a' (.fieldLink Bundle.tN 198 Bundle.tN "backtrace" "Ljava/lang/Object;") (by simp [Bundle.ownAtoms])) (a' (.lays Bundle.tN Bundle.tN "backtrace" "Ljava/lang/Object;") (by simp [Bundle.ownAtoms])) e.platform hpl
  obtain ⟨cellS, hcS', heS, -, hkeep⟩ := X.same.2.2.2.2.2 T.aS cellS0 hcS0
  have hcellS : W.heap[T.aS]? = some cellS := hcS'
  have hout' : ∀ i, (⟨T.aS, i⟩ : Loc) ∉ locs := fun i hmem => by
    have := hlocs _ hmem cellS0 hcS0
    rw [hiss] at this; cases this
  have hknownS : cellS.vm ≠ .unknown := by
    rw [heS]; intro hu
    rw [show cellS0.vm = .unknown from hu] at hiss
    cases hiss
  have hneS : T.aS ≠ a := Nat.ne_of_lt (Nat.lt_of_lt_of_le (Array.getElem?_eq_some_iff.mp hcS0).1 hnew)
  obtain ⟨iM, hffM⟩ := Y.msg
  obtain ⟨tyC, dC, hdC, hdnC⟩ := Cond.laysAt hfound hk Y.cause (a' (.lays cls Bundle.tN "cause" "Ljava/lang/Throwable;") (by simp [Bundle.ownAtoms]))
  obtain ⟨tyS, dS, hdS, hdnS⟩ := Cond.laysAt hfound hk Y.stack (a' (.lays cls Bundle.tN "stackTrace" Bundle.steD) (by simp [Bundle.ownAtoms]))
  obtain ⟨tyP, dP, hdP, hdnP⟩ := Cond.laysAt hfound hk Y.supp (a' (.lays cls Bundle.tN "suppressedExceptions" Bundle.listD) (by simp [Bundle.ownAtoms]))
  obtain ⟨tyM, dM, hdM, hdnM⟩ := Cond.laysAt hfound hk hffM (a' (.lays cls Bundle.tN "detailMessage" "Ljava/lang/String;") (by simp [Bundle.ownAtoms]))
  obtain ⟨tyB, dB, hdB, hdnB⟩ := Cond.laysAt hfound hk hffB (a' (.lays cls Bundle.tN "backtrace" "Ljava/lang/Object;") (by simp [Bundle.ownAtoms]))
  have bC := Cond.laysApart hdB hdC hdnB hdnC (by rw [hnB, Y.causeName]; decide)
  have bS := Cond.laysApart hdB hdS hdnB hdnS (by rw [hnB, Y.stackName]; decide)
  have bP := Cond.laysApart hdB hdP hdnB hdnP (by rw [hnB, Y.suppName]; decide)
  have hskip : SkipFacts T e.platform s (fun u => u) u0 ((preparedCellV T.toThrowableT (freshCell P1.m.cls kX) a u0 sen).withEntry W.cur) :=
    ⟨{ ci198 := ci198, i198 := i198, fBack := fB }, ⟨hk198, hg198, ha198, hsB⟩, by
      have := fresh_default (c := P1.m.cls) tyB
      rw [htB] at this
      simpa [preparedCellV, Cell.setSlot, Cell.withEntry, Array.getElem?_setIfInBounds, bC, bS, bP, bC.symm, bS.symm, bP.symm, defaultValue] using this, fun _ _ => rfl⟩
  obtain ⟨tm, methC, cdC, kC, vm₁, hnC, -, -, -, -, -, -, -, hW₁, st1⟩ := Steps.initColdS (tb := p.tables) (e := e) (below := below) (s := s) (U := W) X.here hexec X.warmed hpl hown (t := Bundle.initS cls) rfl rfl (Bundle.fit_spec hcls).2
    (a' (.methodLink own ic (Bundle.initS cls)) (by simp [Bundle.ownAtoms])) (h (.instanceMethod (Bundle.initS cls)) (by cases names <;> simp [Bundle.ownAtoms, Bundle.chainSAtoms, Bundle.passSAtoms])) (bytes := Bundle.six) (maxL := 2) (h (.code (Bundle.initS cls) Bundle.six 2 none) (by cases names <;> simp [Bundle.ownAtoms, Bundle.chainSAtoms, Bundle.passSAtoms]))
    (f := g) hg (a := a) (msg := msg) (rest := .ref a :: rest) hstack hd6
  cases Option.some.inj (hnC.symm.trans hP1m)
  have X₁ := X.noted hW₁
  obtain ⟨vm₂, X₂, st2⟩ := X₁.ctorMessageOffV hexec (g := { g with stack := .ref a :: rest }) hg hsize T L Z LZ M LM (P1 :: Ps)
    (fun P hP => by rcases List.mem_cons.mp hP with rfl | hP; exact L1; exact hL P hP) ⟨hlink1, hlink⟩ (u0 := u0) (sen := sen) (self := a) hmsg (cell := freshCell P1.m.cls kX) (cellS := cellS)
    hcell (fun _ => by simp) (by simp) rfl rfl hsel0 hselF hcellS hneS hknownS (by rw [hkeep _ (hout' _)]; exact hu0) (by rw [hkeep _ (hout' _)]; exact hsen)
    (Takes.of_laid hk hord tyC (by rw [Y.causeType]; rfl)) (Takes.of_laid hk hord tyS (by rw [Y.stackType]; exact fits_refV_array _ u0)) (Takes.of_laid hk hord tyP (by rw [Y.suppType]; exact fits_refV_object _ sen))
    (Takes.of_laid hk hord tyM (by rw [Y.msgType]; exact fits_refV_object _ ⟨msg, hmsg⟩)) Y.objLocals hskip htr [] hd6
    (by simp only [List.length_cons, hlen]; omega) (by simp only [List.length_cons, hlen]; exact hRlocals)
  have hlt : a < ((W.setVm vm₁).setVm vm₂).heap.size := (Array.getElem?_eq_some_iff.mp hcell).1
  refine ⟨(W.setVm vm₁).setVm vm₂, _, _, X₂, fun y hy => ?_, hlt, rfl, rfl, fun target hwalk => st1 _ (fun acts => ?_)⟩
  · simp only [List.mem_cons, List.not_mem_nil, or_false] at hy
    rcases hy with rfl | rfl | rfl | rfl | rfl <;> rfl
  · rw [doInvoke_state]
    exact st2 _ hwalk
set_option maxHeartbeats 1000000 in
theorem vx_ctorMade0 (X : Stand p l e R s m₀ args below meth c W locs cells slots) (hexec : p.tables.exec = Jvm.exec) (htr : e.platform.stackTraces = false) {own cls : String} {names : List String} {ic : Nat}
    (hown : s.vm.findClass own = some m₀.cls) (hcls : Bundle.fit cls = true) (hnames : ∀ n ∈ names, Bundle.fit n = true)
    (h : ∀ a ∈ Bundle.ownAtoms0 own ic cls names, a.before args s = true)
    (hlocs : ∀ x ∈ locs, ∀ cell, s.heap[x.base]? = some cell → cell.vm.isStatics = false)
    {a : Addr} {cX : ClassId} {kX : Class} (hfoundX : s.vm.findClass cls = some cX) (hkX : s.vm.classes[cX]? = some kX) (hcell : W.heap[a]? = some (freshCell cX kX)) (hnew : s.heap.size ≤ a)
    {g : JFrame} (hg : g.method = m₀) (hsize : g.locals.size = c.maxLocals) {rest : List Value} (hstack : g.stack = .ref a :: .ref a :: rest)
    (hd6 : decode c.code g.pc = .ok (.invokespecial ic, 3))
    (hRframes : names.length + 3 < R.frames) (hRlocals : 2 * g.monitorRoom + ((Value.ref a :: rest).map fun v => v.category).sum + (13 * (names.length + 1) + 41) ≤ R.locals) :
    ∃ (V : State) (ce : Cell) (L : List Loc), Stand p l e R s m₀ args below meth c (V.setCell a ce) (locs ++ L) cells slots ∧ (∀ y ∈ L, y.base = a) ∧ a < V.heap.size ∧ ce.cls = cX ∧ ce.vm = .none ∧
      ∀ target, Steps p.tables e below ((V.setCell a ce).setTop { g with stack := .ref a :: rest, pc := g.pc + 3 }) target → Steps p.tables e below (W.setTop g) target := by
  have howns : e.platform.frameOwnsMonitors = true := by rw [X.admits.platform]
  have hfin : e.platform.finalization = false := by rw [X.admits.platform]
  have hpl : e.platform.magicAccessors = ({} : Platform).magicAccessors := by rw [X.admits.platform]
  have a' : ∀ x, x ∈ Bundle.ownAtoms0 own ic cls names → x.holds args s none s [] = true := fun x hx => h x hx
  obtain ⟨T, Z, L, LZ, Y⟩ := ThrowableC.of_atoms (args := args) howns hfin hpl (fun x hx => h x (by simp [Bundle.ownAtoms0, hx]))
  obtain ⟨P1, Ps, hlen, L1, hL, hP1m, hlink1, hlink⟩ := Bundle.chain0 (args := args) hpl Y.init0 names cls hcls hnames (fun x hx => h x (by simp [Bundle.ownAtoms0, hx]))
  have hfound : s.vm.findClass cls = some P1.m.cls := findClass_of_methodNamed hP1m
  cases Option.some.inj (hfoundX.symm.trans hfound)
  obtain ⟨c1, kX', hc1, hk, hord, -, -, hn6⟩ := Cond.instantiable_spec (a' (.instantiable cls 6) (by simp [Bundle.ownAtoms0]))
  cases Option.some.inj (hc1.symm.trans hfound)
  cases Option.some.inj (hkX.symm.trans hk)
  have hsel0 : selectMethod e.platform s.vm P1.m.cls T.fill0 = .method T.fill0 := by
    obtain ⟨c2, r2, m2, q1, q2, q3, q4, -⟩ := Cond.selects_spec (a' (.selects cls Bundle.tFill0 Bundle.tFill0) (by simp [Bundle.ownAtoms0]))
    cases Option.some.inj (q1.symm.trans hfound)
    cases Option.some.inj (q2.symm.trans (State.methodFound?_of_named Y.fill0 (by decide)))
    cases Option.some.inj (q3.symm.trans Y.fill0)
    rw [Launch.admits_selectMethod X.admits]; exact q4
  have hselF : selectMethod e.platform s.vm P1.m.cls T.fill = .method T.fill := by
    obtain ⟨c2, r2, m2, q1, q2, q3, q4, -⟩ := Cond.selects_spec (a' (.selects cls Bundle.tFill Bundle.tFill) (by simp [Bundle.ownAtoms0]))
    cases Option.some.inj (q1.symm.trans hfound)
    cases Option.some.inj (q2.symm.trans (State.methodFound?_of_named Y.fill (by decide)))
    cases Option.some.inj (q3.symm.trans Y.fill)
    rw [Launch.admits_selectMethod X.admits]; exact q4
  obtain ⟨cellS0, hcS0, hiss⟩ := Y.statics
  obtain ⟨u0, hu0⟩ := Cond.staticRefV Y.unassigned L.unassignedStatic L.statics hcS0 hiss (a' (.isRef (.static Bundle.tN "UNASSIGNED_STACK" Bundle.steD)) (by simp [Bundle.ownAtoms0]))
  obtain ⟨sen, hsen⟩ := Cond.staticRefV Y.sentinel L.sentinelStatic L.statics hcS0 hiss (a' (.isRef (.static Bundle.tN "SUPPRESSED_SENTINEL" Bundle.listD)) (by simp [Bundle.ownAtoms0]))
  obtain ⟨ci198, i198, fB, hk198, hg198, ha198, hsB, -, hnB, htB, hffB⟩ := Cond.ownField (t := .object "java/lang/Object") Y.found L.cls (by decide +kernel) (a' (.fieldLink Bundle.tN 198 Bundle.tN "backtrace" "Ljava/lang/Object;") (by simp [Bundle.ownAtoms0])) (a' (.lays Bundle.tN Bundle.tN "backtrace" "Ljava/lang/Object;") (by simp [Bundle.ownAtoms0])) e.platform hpl
  obtain ⟨cellS, hcS', heS, -, hkeep⟩ := X.same.2.2.2.2.2 T.aS cellS0 hcS0
  have hcellS : W.heap[T.aS]? = some cellS := hcS'
  have hout' : ∀ i, (⟨T.aS, i⟩ : Loc) ∉ locs := fun i hmem => by
    have := hlocs _ hmem cellS0 hcS0
    rw [hiss] at this; cases this
  have hknownS : cellS.vm ≠ .unknown := by
    rw [heS]; intro hu
    rw [show cellS0.vm = .unknown from hu] at hiss
    cases hiss
  have hneS : T.aS ≠ a := Nat.ne_of_lt (Nat.lt_of_lt_of_le (Array.getElem?_eq_some_iff.mp hcS0).1 hnew)
  obtain ⟨iM, hffM⟩ := Y.msg
  obtain ⟨tyC, dC, hdC, hdnC⟩ := Cond.laysAt hfound hk Y.cause (a' (.lays cls Bundle.tN "cause" "Ljava/lang/Throwable;") (by simp [Bundle.ownAtoms0]))
  obtain ⟨tyS, dS, hdS, hdnS⟩ := Cond.laysAt hfound hk Y.stack (a' (.lays cls Bundle.tN "stackTrace" Bundle.steD) (by simp [Bundle.ownAtoms0]))
  obtain ⟨tyP, dP, hdP, hdnP⟩ := Cond.laysAt hfound hk Y.supp (a' (.lays cls Bundle.tN "suppressedExceptions" Bundle.listD) (by simp [Bundle.ownAtoms0]))
  obtain ⟨tyM, dM, hdM, hdnM⟩ := Cond.laysAt hfound hk hffM (a' (.lays cls Bundle.tN "detailMessage" "Ljava/lang/String;") (by simp [Bundle.ownAtoms0]))
  obtain ⟨tyB, dB, hdB, hdnB⟩ := Cond.laysAt hfound hk hffB (a' (.lays cls Bundle.tN "backtrace" "Ljava/lang/Object;") (by simp [Bundle.ownAtoms0]))
  have bC := Cond.laysApart hdB hdC hdnB hdnC (by rw [hnB, Y.causeName]; decide)
  have bS := Cond.laysApart hdB hdS hdnB hdnS (by rw [hnB, Y.stackName]; decide)
  have bP := Cond.laysApart hdB hdP hdnB hdnP (by rw [hnB, Y.suppName]; decide)
  have hskip : SkipFacts T e.platform s (fun u => u) u0 ((preparedCellV T.toThrowableT (freshCell P1.m.cls kX) a u0 sen).withEntry W.cur) :=
    ⟨{ ci198 := ci198, i198 := i198, fBack := fB }, ⟨hk198, hg198, ha198, hsB⟩, by
      have := fresh_default (c := P1.m.cls) tyB
      rw [htB] at this
      simpa [preparedCellV, Cell.setSlot, Cell.withEntry, Array.getElem?_setIfInBounds, bC, bS, bP, bC.symm, bS.symm, bP.symm, defaultValue] using this, fun _ _ => rfl⟩
  obtain ⟨tm, methC, cdC, kC, vm₁, hnC, -, -, -, -, -, -, -, hW₁, st1⟩ := Steps.initCold (tb := p.tables) (e := e) (below := below) (s := s) (U := W) X.here hexec X.warmed hpl hown (t := Bundle.init0 cls) rfl rfl (Bundle.fit_spec hcls).2
    (a' (.methodLink own ic (Bundle.init0 cls)) (by simp [Bundle.ownAtoms0])) (h (.instanceMethod (Bundle.init0 cls)) (by cases names <;> simp [Bundle.ownAtoms0, Bundle.chain0Atoms, Bundle.passAtoms])) (bytes := Bundle.five) (maxL := 1) (h (.code (Bundle.init0 cls) Bundle.five 1 none) (by cases names <;> simp [Bundle.ownAtoms0, Bundle.chain0Atoms, Bundle.passAtoms]))
    (f := g) hg (a := a) (rest := .ref a :: rest) hstack hd6
  cases Option.some.inj (hnC.symm.trans hP1m)
  have X₁ := X.noted hW₁
  obtain ⟨vm₂, X₂, st2⟩ := X₁.ctorPlainOffV hexec (g := { g with stack := .ref a :: rest }) hg hsize T L Z LZ (P1 :: Ps)
    (fun P hP => by rcases List.mem_cons.mp hP with rfl | hP; exact L1; exact hL P hP) ⟨hlink1, hlink⟩ (u0 := u0) (sen := sen) (self := a) (cell := freshCell P1.m.cls kX) (cellS := cellS)
    hcell (fun _ => by simp) (by simp) rfl rfl hsel0 hselF hcellS hneS hknownS (by rw [hkeep _ (hout' _)]; exact hu0) (by rw [hkeep _ (hout' _)]; exact hsen)
    (Takes.of_laid hk hord tyC (by rw [Y.causeType]; rfl)) (Takes.of_laid hk hord tyS (by rw [Y.stackType]; exact fits_refV_array _ u0)) (Takes.of_laid hk hord tyP (by rw [Y.suppType]; exact fits_refV_object _ sen)) Y.objLocals hskip htr [] hd6
    (by simp only [List.length_cons, hlen]; omega) (by simp only [List.length_cons, hlen]; exact hRlocals)
  have hlt : a < ((W.setVm vm₁).setVm vm₂).heap.size := (Array.getElem?_eq_some_iff.mp hcell).1
  refine ⟨(W.setVm vm₁).setVm vm₂, _, _, X₂, fun y hy => ?_, hlt, rfl, rfl, fun target hwalk => st1 _ (fun acts => ?_)⟩
  · simp only [List.mem_cons, List.not_mem_nil, or_false] at hy
    rcases hy with rfl | rfl | rfl | rfl <;> rfl
  · rw [doInvoke_state]
    exact st2 _ hwalk
end VXK
section VXK2
variable {p : Program} {l : Launch} {e : Env} {R : Room} {s : State} {m : MethodId} {args : Array Value} {below : List Frame} {meth : Method} {c : Code} {H : Heap} {locs : List Loc} {cells slots : Nat} {Q : State → Prop}
variable {ls : Array Slot} {rest : List Value} {D : va_G} {cl : List vw_C} {tys : List (ClassId × FieldType)} {ws : va_W}
/-- 'new E("text")' that isn't thrown at once: the object goes on the stack -/
theorem vx_makeS {cc : ByteArray} {pc : Nat} (hexec : p.tables.exec = Jvm.exec) (hb : c.code = cc) (hl : l.stackTraces = false) {own cls text : String} {names : List String} {ik is ic sa ci : Nat} {A : Nat → Prop} {T0 : u_T}
    (hown : s.vm.findClass own = some m.cls) (hcls : Bundle.fit cls = true) (hnames : ∀ n ∈ names, Bundle.fit n = true)
    (hk : (Cond.classLink own ik cls).before args s = true) (hini : (Cond.initialized cls).before args s = true) (hstr : vk_R own is text sa s) (hat : ∀ w ∈ vx_atS own ic cls names, w.before args s = true)
    (hgood : ∀ w ∈ Cond.classLink own ik cls :: Cond.initialized cls :: vx_atS own ic cls names, vx_ot w = true)
    (hU : vx_Zq Bundle.tN "UNASSIGNED_STACK" Bundle.steD A s s.heap) (hN : vx_Zq Bundle.tN "SUPPRESSED_SENTINEL" Bundle.listD A s s.heap) (hS : va_S A s.heap H locs) (hsize : ls.size = c.maxLocals)
    (d0 : decode cc pc = .ok (.new ik, 3)) (d3 : decode cc (pc + 3) = .ok (.dup, 1)) (d4 : decode cc (pc + 4) = .ok (.ldc is, 2)) (d6 : decode cc (pc + 6) = .ok (.invokespecial ic, 3))
    (hK : va_K D cl tys s) (hP : va_P D cl ws H) (hD : va_D A ws) (hA : ∀ q, s.heap.size ≤ q → A q) (hc : cl[ci]? = some (cls, T0, 0))
    (hRframes : names.length + 3 < R.frames) (hRlocals : (rest.map fun v => v.category).sum + (13 * (names.length + 1) + 43) ≤ R.locals) (hRcells : cells + 1 ≤ R.cells) (hRslots : slots + 6 ≤ R.slots)
    (kk : ∀ (q : Nat) (H1 : Heap), va_P D cl (ws ++ [(q, .inr (ci, []))]) H1 → va_D A (ws ++ [(q, .inr (ci, []))]) → va_S A s.heap H1 locs → W p l e R s m args below meth c H1 locs (cells + 1) (slots + 6) Q (F0 m (pc + 9) ls (.ref q :: rest))) :
    W p l e R s m args below meth c H locs cells slots Q (F0 m pc ls rest) := by
  intro T hT X
  subst hT
  have htr : e.platform.stackTraces = false := (show e.platform.stackTraces = l.stackTraces by rw [X.admits.platform]).trans hl
  have Y := vx_rebase X (R' := { frames := R.frames, locals := R.locals, cells := 1, slots := 6 }) (Nat.le_refl _) (Nat.le_refl _) hRcells hRslots
  obtain ⟨s', hA'⟩ : ∃ z, z = (T.setVm s.vm).setFrames (.invoking m args :: below) := ⟨_, rfl⟩
  rw [← hA'] at Y
  have hvm : s'.vm = s.vm := by rw [hA']; rfl
  have hhp : s'.heap = T.heap := by rw [hA']; rfl
  have hW0 : s.WarmedH s'.vm := by rw [hvm]; exact State.WarmedH.refl s
  have hat' : ∀ w ∈ vx_atS own ic cls names, w.before args s' = true := fun w hw => vx_ot_at hW0 hvm.symm (hgood w (List.mem_cons_of_mem _ (List.mem_cons_of_mem _ hw))) (hat w hw)
  have hk' : (Cond.classLink own ik cls).before args s' = true := vx_ot_at hW0 hvm.symm (hgood _ List.mem_cons_self) hk
  have hini' : (Cond.initialized cls).before args s' = true := vx_ot_at hW0 hvm.symm (hgood _ (List.mem_cons_of_mem _ List.mem_cons_self)) hini
  have hU' : vx_Zq Bundle.tN "UNASSIGNED_STACK" Bundle.steD A s' s'.heap := by rw [hhp]; exact vx_Zq.moved hW0.alike (hU.kept hS.2.1)
  have hN' : vx_Zq Bundle.tN "SUPPRESSED_SENTINEL" Bundle.listD A s' s'.heap := by rw [hhp]; exact vx_Zq.moved hW0.alike (hN.kept hS.2.1)
  have h : ∀ w ∈ Bundle.ownAtoms own ic cls names, w.before args s' = true := vx_own hat' (vx_isRefq hU'.1) (vx_isRefq hN'.1) hU'.2.word hN'.2.word
  have hown' : s'.vm.findClass own = some m.cls := by rw [hvm]; exact hown
  have hins : (Cond.instantiable cls 6).before args s' = true := h _ (by simp [Bundle.ownAtoms])
  obtain ⟨vm₁, cX, kX, hfX, hkX, -, -, X₁, st1⟩ := Y.newCold hexec (own := own) (C := cls) (index := ik) (n := 6) hown' hk' hins hini'
    (g := F0 m pc ls rest) rfl (by rw [hb]; exact d0) (Nat.le_refl _) (Nat.le_refl _)
  generalize hT1 : (T.setVm vm₁).pushCell { cls := cX, slots := kX.instanceTypes.map defaultValue, vm := .none } = T1 at X₁ st1
  have hcat : (Value.ref T.heap.size).category = 1 := rfl
  have hcellA : T1.heap[T.heap.size]? = some (freshCell cX kX) := by rw [← hT1]; exact State.heap_pushCell_size _ _
  have d3' : decode c.code (pc + 3) = .ok (.dup, 1) := by rw [hb]; exact d3
  have d4' : decode c.code (pc + 4) = .ok (.ldc is, 2) := by rw [hb]; exact d4
  have hstr' : vk_R own is text sa s' := vk_R.warm hW0 hstr
  obtain ⟨V, ce, L, Z, hL, hlt, hcl9, hvm9, st⟩ := vx_ctorMadeS X₁ hexec htr (own := own) (cls := cls) (names := names) (ic := ic) hown' hcls hnames h (fun x hx => nomatch hx) hfX hkX hcellA (by rw [hhp]; exact Nat.le_refl _) (msg := .ref sa) rfl
    (g := { method := m, pc := pc + 6, locals := ls, stack := .ref sa :: .ref T.heap.size :: .ref T.heap.size :: rest, locked := none }) rfl hsize (rest := rest) rfl
    (by rw [hb]; exact d6) hRframes (by simp only [List.map_cons, List.sum_cons, hcat]; omega)
  have Z0 := Stand.forget (locs := []) Z (fun y hy => by rw [hL y hy, hhp]; exact Nat.le_refl _)
  obtain ⟨f1, f2⟩ := vx_frame Z0.same
  rw [hhp] at f1 f2
  have hcid : ce.cls = D.1 ci := by
    rw [hcl9]
    have h1 := (hK.1 ci _ hc).2.1
    rw [hvm] at hfX
    exact Option.some.inj (hfX.symm.trans h1)
  have hh : (V.setCell T.heap.size ce).heap[T.heap.size]? = some ce := heapAt_setCell_self (s := V) ce hlt
  subst hA'
  have X5 := vx_back9 X Y Z0
  have X6 : Stand p l e R s m args below meth c (V.setCell T.heap.size ce) locs (cells + 1) (slots + 6) := { X5 with same := X5.same.mono (by omega) (by omega) }
  have hk9 : ∀ (k : Nat) (x : Nat × va_E), ws[k]? = some x → (V.setCell T.heap.size ce).heap[x.1]? = T.heap[x.1]? := fun k x hx => f2 x.1 ((hP k x hx).lt) (fun z hz => nomatch hz)
  obtain ⟨t, a1, b1⟩ := kk T.heap.size (V.setCell T.heap.size ce).heap ((hP.kept hk9).app (fun k x hx => by
      have hz : k < 1 := (List.getElem?_eq_some_iff.mp hx).1
      rw [show k = 0 by omega] at hx
      cases hx
      exact ⟨_, hc, ce, hh, hcid, hvm9, fun k hk => absurd hk (Nat.not_lt_zero k)⟩)) (hD.push hP rfl (hA _ hS.1)) ⟨Nat.le_trans hS.1 f1, fun q h1 h2 => (f2 q (Nat.lt_of_lt_of_le h1 hS.1) (fun z hz => nomatch hz)).trans (hS.2.1 q h1 h2), hS.2.2⟩ _ rfl X6
  refine ⟨t, st1 _ ?_, b1⟩
  show Steps p.tables e below (T1.setTop { method := m, pc := pc + 3, locals := ls, stack := .ref T.heap.size :: rest, locked := none }) _
  jvm_step X₁.here [X₁.here.top, hexec, d3', Value.category]
  exact X₁.ldcString hexec (own := own) (text := text) (index := is) (a := sa) hown' hstr'.1 hstr'.2
    (g := { method := m, pc := pc + 4, locals := ls, stack := .ref T.heap.size :: .ref T.heap.size :: rest, locked := none }) rfl d4' _ (st _ a1)
/-- 'new E()' that isn't thrown at once: the object goes on the stack -/
theorem vx_make0 {cc : ByteArray} {pc : Nat} (hexec : p.tables.exec = Jvm.exec) (hb : c.code = cc) (hl : l.stackTraces = false) {own cls : String} {names : List String} {ik ic ci : Nat} {A : Nat → Prop} {T0 : u_T}
    (hown : s.vm.findClass own = some m.cls) (hcls : Bundle.fit cls = true) (hnames : ∀ n ∈ names, Bundle.fit n = true)
    (hk : (Cond.classLink own ik cls).before args s = true) (hini : (Cond.initialized cls).before args s = true) (hat : ∀ w ∈ vx_at0 own ic cls names, w.before args s = true)
    (hgood : ∀ w ∈ Cond.classLink own ik cls :: Cond.initialized cls :: vx_at0 own ic cls names, vx_ot w = true)
    (hU : vx_Zq Bundle.tN "UNASSIGNED_STACK" Bundle.steD A s s.heap) (hN : vx_Zq Bundle.tN "SUPPRESSED_SENTINEL" Bundle.listD A s s.heap) (hS : va_S A s.heap H locs) (hsize : ls.size = c.maxLocals)
    (d0 : decode cc pc = .ok (.new ik, 3)) (d3 : decode cc (pc + 3) = .ok (.dup, 1)) (d4 : decode cc (pc + 4) = .ok (.invokespecial ic, 3))
    (hK : va_K D cl tys s) (hP : va_P D cl ws H) (hD : va_D A ws) (hA : ∀ q, s.heap.size ≤ q → A q) (hc : cl[ci]? = some (cls, T0, 0))
    (hRframes : names.length + 3 < R.frames) (hRlocals : (rest.map fun v => v.category).sum + (13 * (names.length + 1) + 42) ≤ R.locals) (hRcells : cells + 1 ≤ R.cells) (hRslots : slots + 6 ≤ R.slots)
    (kk : ∀ (q : Nat) (H1 : Heap), va_P D cl (ws ++ [(q, .inr (ci, []))]) H1 → va_D A (ws ++ [(q, .inr (ci, []))]) → va_S A s.heap H1 locs → W p l e R s m args below meth c H1 locs (cells + 1) (slots + 6) Q (F0 m (pc + 7) ls (.ref q :: rest))) :
    W p l e R s m args below meth c H locs cells slots Q (F0 m pc ls rest) := by
  intro T hT X
  subst hT
  have htr : e.platform.stackTraces = false := (show e.platform.stackTraces = l.stackTraces by rw [X.admits.platform]).trans hl
  have Y := vx_rebase X (R' := { frames := R.frames, locals := R.locals, cells := 1, slots := 6 }) (Nat.le_refl _) (Nat.le_refl _) hRcells hRslots
  obtain ⟨s', hA'⟩ : ∃ z, z = (T.setVm s.vm).setFrames (.invoking m args :: below) := ⟨_, rfl⟩
  rw [← hA'] at Y
  have hvm : s'.vm = s.vm := by rw [hA']; rfl
  have hhp : s'.heap = T.heap := by rw [hA']; rfl
  have hW0 : s.WarmedH s'.vm := by rw [hvm]; exact State.WarmedH.refl s
  have hat' : ∀ w ∈ vx_at0 own ic cls names, w.before args s' = true := fun w hw => vx_ot_at hW0 hvm.symm (hgood w (List.mem_cons_of_mem _ (List.mem_cons_of_mem _ hw))) (hat w hw)
  have hk' : (Cond.classLink own ik cls).before args s' = true := vx_ot_at hW0 hvm.symm (hgood _ List.mem_cons_self) hk
  have hini' : (Cond.initialized cls).before args s' = true := vx_ot_at hW0 hvm.symm (hgood _ (List.mem_cons_of_mem _ List.mem_cons_self)) hini
  have hU' : vx_Zq Bundle.tN "UNASSIGNED_STACK" Bundle.steD A s' s'.heap := by rw [hhp]; exact vx_Zq.moved hW0.alike (hU.kept hS.2.1)
  have hN' : vx_Zq Bundle.tN "SUPPRESSED_SENTINEL" Bundle.listD A s' s'.heap := by rw [hhp]; exact vx_Zq.moved hW0.alike (hN.kept hS.2.1)
  have h : ∀ w ∈ Bundle.ownAtoms0 own ic cls names, w.before args s' = true := vx_own hat' (vx_isRefq hU'.1) (vx_isRefq hN'.1) hU'.2.word hN'.2.word
  have hown' : s'.vm.findClass own = some m.cls := by rw [hvm]; exact hown
  have hins : (Cond.instantiable cls 6).before args s' = true := h _ (by simp [Bundle.ownAtoms0])
  obtain ⟨vm₁, cX, kX, hfX, hkX, -, -, X₁, st1⟩ := Y.newCold hexec (own := own) (C := cls) (index := ik) (n := 6) hown' hk' hins hini'
    (g := F0 m pc ls rest) rfl (by rw [hb]; exact d0) (Nat.le_refl _) (Nat.le_refl _)
  generalize hT1 : (T.setVm vm₁).pushCell { cls := cX, slots := kX.instanceTypes.map defaultValue, vm := .none } = T1 at X₁ st1
  have hcat : (Value.ref T.heap.size).category = 1 := rfl
  have hcellA : T1.heap[T.heap.size]? = some (freshCell cX kX) := by rw [← hT1]; exact State.heap_pushCell_size _ _
  have d3' : decode c.code (pc + 3) = .ok (.dup, 1) := by rw [hb]; exact d3
  obtain ⟨V, ce, L, Z, hL, hlt, hcl9, hvm9, st⟩ := vx_ctorMade0 X₁ hexec htr (own := own) (cls := cls) (names := names) (ic := ic) hown' hcls hnames h (fun x hx => nomatch hx) hfX hkX hcellA (by rw [hhp]; exact Nat.le_refl _)
    (g := { method := m, pc := pc + 4, locals := ls, stack := .ref T.heap.size :: .ref T.heap.size :: rest, locked := none }) rfl hsize (rest := rest) rfl
    (by rw [hb]; exact d4) hRframes (by simp only [List.map_cons, List.sum_cons, hcat]; omega)
  have Z0 := Stand.forget (locs := []) Z (fun y hy => by rw [hL y hy, hhp]; exact Nat.le_refl _)
  obtain ⟨f1, f2⟩ := vx_frame Z0.same
  rw [hhp] at f1 f2
  have hcid : ce.cls = D.1 ci := by
    rw [hcl9]
    have h1 := (hK.1 ci _ hc).2.1
    rw [hvm] at hfX
    exact Option.some.inj (hfX.symm.trans h1)
  have hh : (V.setCell T.heap.size ce).heap[T.heap.size]? = some ce := heapAt_setCell_self (s := V) ce hlt
  subst hA'
  have X5 := vx_back9 X Y Z0
  have X6 : Stand p l e R s m args below meth c (V.setCell T.heap.size ce) locs (cells + 1) (slots + 6) := { X5 with same := X5.same.mono (by omega) (by omega) }
  have hk9 : ∀ (k : Nat) (x : Nat × va_E), ws[k]? = some x → (V.setCell T.heap.size ce).heap[x.1]? = T.heap[x.1]? := fun k x hx => f2 x.1 ((hP k x hx).lt) (fun z hz => nomatch hz)
  obtain ⟨t, a1, b1⟩ := kk T.heap.size (V.setCell T.heap.size ce).heap ((hP.kept hk9).app (fun k x hx => by
      have hz : k < 1 := (List.getElem?_eq_some_iff.mp hx).1
      rw [show k = 0 by omega] at hx
      cases hx
      exact ⟨_, hc, ce, hh, hcid, hvm9, fun k hk => absurd hk (Nat.not_lt_zero k)⟩)) (hD.push hP rfl (hA _ hS.1)) ⟨Nat.le_trans hS.1 f1, fun q h1 h2 => (f2 q (Nat.lt_of_lt_of_le h1 hS.1) (fun z hz => nomatch hz)).trans (hS.2.1 q h1 h2), hS.2.2⟩ _ rfl X6
  refine ⟨t, st1 _ ?_, b1⟩
  show Steps p.tables e below (T1.setTop { method := m, pc := pc + 3, locals := ls, stack := .ref T.heap.size :: rest, locked := none }) _
  jvm_step X₁.here [X₁.here.top, hexec, d3', Value.category]
  exact st _ a1
/-- 'throw x' of an object that was made before -/
theorem vx_athrow {cc : ByteArray} {pc : Nat} (hexec : p.tables.exec = Jvm.exec) (hb : c.code = cc) {q : Addr} (hdg : decode cc pc = .ok (.athrow, 1)) (k : vx_W p l e R s m args below meth c H locs cells slots Q (F0 m pc ls rest) q) : W p l e R s m args below meth c H locs cells slots Q (F0 m pc ls (.ref q :: rest)) := by
  intro T hT X
  obtain ⟨t, st, hq⟩ := k T hT X
  refine ⟨t, ?_, hq⟩
  have hdg' : decode c.code pc = .ok (.athrow, 1) := by rw [hb]; exact hdg
  jvm_step X.here [X.here.top, hexec, hdg', athrow.wp_sem]
  exact st
end VXK2
/-! ===== END ===== -/
/-! ===== BEGIN a constructor that throws (launches without stack traces) ===== -/
section VXIA
variable {p : Program} {l : Launch} {e : Env} {R : Room} {s : State} {m : MethodId} {args : Array Value} {below : List Frame} {meth : Method} {c : Code} {T : State} {locs : List Loc} {cells slots : Nat}
theorem vx_callI (X : Stand p l e R s m args below meth c T locs cells slots) (hexec : p.tables.exec = Jvm.exec) {own : String} {index : Nat} {y : MethodName} {bytes : ByteArray} {maxL : Nat}
    (hown : s.vm.findClass own = some m.cls) (hy1 : y.name = "<init>") (hlink : (Cond.methodLink own index y).before args s = true) (hinst : (Cond.instanceMethod y).before args s = true)
    (hcode : (Cond.code y bytes maxL none).before args s = true) (hy : y.cls ≠ "java/lang/invoke/MethodHandle" ∧ y.cls ≠ "java/lang/invoke/VarHandle")
    {W9 : Nat} {Pre : Pt → Array Value → Prop} {Post : Pt → Array Value → Option Value → Pt → Prop} {PostX : Pt → Array Value → Addr → Pt → Prop} (hK : vx_Back l R p e below s args y 3 W9 Pre Post PostX)
    {g : JFrame} (hg : g.method = m) (hsize : g.locals.size = c.maxLocals) {a : Addr} {argsL rest : List Value} (hlen : ∀ sig, parseMethodDescriptor y.desc = some sig → argsL.length = sig.parameters.length)
    (hstack : g.stack = argsL.reverse ++ .ref a :: rest) (hW : 2 * g.monitorRoom + (rest.map fun v => v.category).sum ≤ W9) (hdg : decode c.code g.pc = .ok (.invokespecial index, 3))
    (hpre : ∀ vm₁, s.WarmedH vm₁ → Pre ⟨T.setVm vm₁, locs, cells, slots⟩ (Value.ref a :: argsL).toArray) :
    (∃ (v : Option Value) (vm₁ : Vm) (B : Pt), s.WarmedH vm₁ ∧ Stand p l e R s m args below meth c B.U B.locs B.cells B.slots ∧ Post ⟨T.setVm vm₁, locs, cells, slots⟩ (Value.ref a :: argsL).toArray v B ∧
      ∀ target, Steps p.tables e below (B.U.setTop { g with pc := g.pc + 3, stack := v.toList ++ rest }) target → Steps p.tables e below (T.setTop g) target) ∨
    (∃ (q : Addr) (vm₁ : Vm) (B : Pt), s.WarmedH vm₁ ∧ Stand p l e R s m args below meth c B.U B.locs B.cells B.slots ∧ PostX ⟨T.setVm vm₁, locs, cells, slots⟩ (Value.ref a :: argsL).toArray q B ∧
      Steps p.tables e below (T.setTop g) ((B.U.setTop { g with stack := rest }).pushFrame (.throwing q))) := by
  subst hg
  have hpl : e.platform.magicAccessors = ({} : Platform).magicAccessors := by rw [X.admits.platform]
  obtain ⟨mk, methM, cM, kP, vm₁, hnamed, hmethM, hcodeM, -, hlocalsM, -, hkP, -, hW₁, hstep₁⟩ := Steps.initColdArgs (e := e) X.here hexec X.warmed hpl hown hy1 hy hlink hinst hcode (f := g) rfl hlen hstack hdg
  have X₁ := X.noted hW₁
  rcases hK g.method meth c ⟨T.setVm vm₁, locs, cells, slots⟩ { g with stack := rest } (.invokespecial index) mk (Value.ref a :: argsL).toArray X₁ rfl hsize hdg hW (X₁.named hnamed) (hpre vm₁ X₁.warmed) with ⟨v, B, X', hpost, hsteps⟩ | ⟨q, B, X', hpost, hsteps⟩
  · exact Or.inl ⟨v, vm₁, B, X₁.warmed, X', hpost, fun target h => hstep₁ _ fun acts => by rw [doInvoke_state]; exact hsteps.trans h⟩
  · exact Or.inr ⟨q, vm₁, B, X₁.warmed, X', hpost, hstep₁ _ fun acts => by rw [doInvoke_state]; exact hsteps⟩
end VXIA
section VXIB
variable {p : Program} {l : Launch} {e : Env} {R : Room} {s : State} {m : MethodId} {args : Array Value} {below : List Frame} {meth : Method} {c : Code} {H : Heap} {locs : List Loc} {cells slots : Nat}
variable {y : MethodName} {bytes cc : ByteArray} {maxL nL mc ms n index : Nat} {ret : Option FieldType} {ws : List Cond} {rm : Room} {Pc : Array Value → State → Prop} {Qc : Array Value → State → Outcome → State → Prop} {XC : String → State → State → Prop} {free : Addr → Prop} {Ts : List Cond} {own C : String} {b : Addr} {As rest : List Value} {g : JFrame}
theorem vx_runI (S : CallFix p m c cc nL s args Ts own) (hM : vx_Met l y ws rm Pc Qc XC mc ms free) (cw : CallB R s args own index y bytes maxL none ws rm mc ms n ∧ y.name = "<init>" ∧ (Cond.instanceMethod y).before args s = true) (hp : PreS s H Pc (.ref b :: As))
    (hg : g.method = m) (hn : As.length = n) (hsize : g.locals.size = nL) (hstack : g.stack = As.reverse ++ .ref b :: rest) (hW : 2 * g.monitorRoom + (rest.map fun v => v.category).sum ≤ 8) (hdg : decode cc g.pc = .ok (.invokespecial index, 3)) (hf : cells + mc ≤ R.cells ∧ slots + ms ≤ R.slots) :
    vx_Run p l e R s m args below meth c H locs cells slots mc ms g rest (Qc (Value.ref b :: As).toArray) XC free := by
  have hK : vx_Back l R p e below s args y 3 8 (PreOf R mc ms Pc) (PostOf Qc mc ms free) (vx_Post XC mc ms free) := vx_callBack cw.1 hM hp.1
  obtain ⟨⟨-, -, -, -, -, -, hcode, -, hy, hlen, hl⟩, hy1, hin⟩ := cw
  obtain ⟨hx, hb, hml, ho, -⟩ := S
  have hPc := hp.2
  intro T hT X
  rcases vx_callI X hx (bytes := bytes) (maxL := maxL) ho hy1 hl hin hcode hy hK hg (hsize.trans hml.symm) (a := b) (argsL := As) (rest := rest) (fun sig h => hn.trans (hlen sig h)) hstack hW (by rw [hb]; exact hdg)
    (fun vm₁ hW₁ => ⟨hf.1, hf.2, hPc (T.setVm vm₁) hT hW₁⟩) with ⟨v, vm₁, ⟨U', l2, c2, s2⟩, hW₁, X', ⟨g', mk, t, L, e1, e2, hq, h1, hL, h2, h3⟩, st⟩ | ⟨q, vm₁, ⟨U', l2, c2, s2⟩, hW₁, X', ⟨g', mk, t, L, E, ce, e1, e2, hq, hce, hcv, hcl, h1, hL, h2, h3⟩, st⟩
  · dsimp only [Pt.U, Pt.locs, Pt.cells, Pt.slots] at X' e1 e2 h1 h2 h3 st
    subst h1; subst h2; subst h3
    exact Or.inl ⟨v, (T.setVm vm₁).calling g' mk (Value.ref b :: As).toArray, t, U', L, hT, X', hL, e1, e2, hq, st⟩
  · dsimp only [Pt.U, Pt.locs, Pt.cells, Pt.slots] at X' e1 e2 h1 h2 h3 st hcl
    subst h1; subst h2; subst h3
    exact Or.inr ⟨q, (T.setVm vm₁).calling g' mk (Value.ref b :: As).toArray, t, U', L, E, ce, hT, X', hL, e1, e2, hq, hce, hcv, vx_cls hW₁ hcl, st⟩
end VXIB
/-! ===== END ===== -/
/-! ===== BEGIN a private constructor of a nest mate that throws ===== -/
section VXIC
variable {p : Program} {l : Launch} {e : Env} {R : Room} {s : State} {m : MethodId} {args : Array Value} {below : List Frame} {meth : Method} {c : Code} {T : State} {locs : List Loc} {cells slots : Nat}
theorem vx_callIN (X : Stand p l e R s m args below meth c T locs cells slots) (hexec : p.tables.exec = Jvm.exec) {own : String} {index : Nat} {host : String} {y : MethodName} {bytes : ByteArray} {maxL : Nat}
    (hown : s.vm.findClass own = some m.cls) (hy1 : y.name = "<init>") (hlink : (Cond.methodLinkNest own index y host).before args s = true) (hinst : (Cond.instanceMethod y).before args s = true)
    (hcode : (Cond.code y bytes maxL none).before args s = true) (hy : y.cls ≠ "java/lang/invoke/MethodHandle" ∧ y.cls ≠ "java/lang/invoke/VarHandle")
    {W9 : Nat} {Pre : Pt → Array Value → Prop} {Post : Pt → Array Value → Option Value → Pt → Prop} {PostX : Pt → Array Value → Addr → Pt → Prop} (hK : vx_Back l R p e below s args y 3 W9 Pre Post PostX)
    {g : JFrame} (hg : g.method = m) (hsize : g.locals.size = c.maxLocals) {a : Addr} {argsL rest : List Value} (hlen : ∀ sig, parseMethodDescriptor y.desc = some sig → argsL.length = sig.parameters.length)
    (hstack : g.stack = argsL.reverse ++ .ref a :: rest) (hW : 2 * g.monitorRoom + (rest.map fun v => v.category).sum ≤ W9) (hdg : decode c.code g.pc = .ok (.invokespecial index, 3))
    (hpre : ∀ vm₁, s.WarmedH vm₁ → Pre ⟨T.setVm vm₁, locs, cells, slots⟩ (Value.ref a :: argsL).toArray) :
    (∃ (v : Option Value) (vm₁ : Vm) (B : Pt), s.WarmedH vm₁ ∧ Stand p l e R s m args below meth c B.U B.locs B.cells B.slots ∧ Post ⟨T.setVm vm₁, locs, cells, slots⟩ (Value.ref a :: argsL).toArray v B ∧
      ∀ target, Steps p.tables e below (B.U.setTop { g with pc := g.pc + 3, stack := v.toList ++ rest }) target → Steps p.tables e below (T.setTop g) target) ∨
    (∃ (q : Addr) (vm₁ : Vm) (B : Pt), s.WarmedH vm₁ ∧ Stand p l e R s m args below meth c B.U B.locs B.cells B.slots ∧ PostX ⟨T.setVm vm₁, locs, cells, slots⟩ (Value.ref a :: argsL).toArray q B ∧
      Steps p.tables e below (T.setTop g) ((B.U.setTop { g with stack := rest }).pushFrame (.throwing q))) := by
  subst hg
  have hpl : e.platform.magicAccessors = ({} : Platform).magicAccessors := by rw [X.admits.platform]
  obtain ⟨mk, methM, cM, kP, vm₁, hnamed, hmethM, hcodeM, -, hlocalsM, -, hkP, -, hW₁, hstep₁⟩ := Steps.initColdArgsNest (e := e) X.here hexec X.warmed hpl hown hy1 hy hlink hinst hcode (f := g) rfl hlen hstack hdg
  have X₁ := X.noted hW₁
  rcases hK g.method meth c ⟨T.setVm vm₁, locs, cells, slots⟩ { g with stack := rest } (.invokespecial index) mk (Value.ref a :: argsL).toArray X₁ rfl hsize hdg hW (X₁.named hnamed) (hpre vm₁ X₁.warmed) with ⟨v, B, X', hpost, hsteps⟩ | ⟨q, B, X', hpost, hsteps⟩
  · exact Or.inl ⟨v, vm₁, B, X₁.warmed, X', hpost, fun target h => hstep₁ _ fun acts => by rw [doInvoke_state]; exact hsteps.trans h⟩
  · exact Or.inr ⟨q, vm₁, B, X₁.warmed, X', hpost, hstep₁ _ fun acts => by rw [doInvoke_state]; exact hsteps⟩
end VXIC
section VXID
variable {p : Program} {l : Launch} {e : Env} {R : Room} {s : State} {m : MethodId} {args : Array Value} {below : List Frame} {meth : Method} {c : Code} {H : Heap} {locs : List Loc} {cells slots : Nat}
theorem vx_runIN {y : MethodName} {bytes cc : ByteArray} {maxL nL mc ms n index : Nat} {ws : List Cond} {rm : Room} {Pc : Array Value → State → Prop} {Qc : Array Value → State → Outcome → State → Prop} {XC : String → State → State → Prop} {free : Addr → Prop} {Ts : List Cond} {own host : String} {b : Addr} {As rest : List Value} {g : JFrame}
    (S : CallFix p m c cc nL s args Ts own) (hM : vx_Met l y ws rm Pc Qc XC mc ms free) (cw : va_CN R s args own index y host bytes maxL none ws rm mc ms n ∧ y.name = "<init>" ∧ (Cond.instanceMethod y).before args s = true) (hp : PreS s H Pc (.ref b :: As))
    (hg : g.method = m) (hn : As.length = n) (hsize : g.locals.size = nL) (hstack : g.stack = As.reverse ++ .ref b :: rest) (hW : 2 * g.monitorRoom + (rest.map fun v => v.category).sum ≤ 8) (hdg : decode cc g.pc = .ok (.invokespecial index, 3)) (hf : cells + mc ≤ R.cells ∧ slots + ms ≤ R.slots) :
    vx_Run p l e R s m args below meth c H locs cells slots mc ms g rest (Qc (Value.ref b :: As).toArray) XC free := by
  obtain ⟨⟨⟨hrc, hrs, hfr, hlo, hws, hcw⟩, hcode, hini, hy, hlen, hl⟩, hx1, hx2⟩ := cw
  have hK : vx_Back l R p e below s args y 3 8 (PreOf R mc ms Pc) (PostOf Qc mc ms free) (vx_Post XC mc ms free) := vx_back (bytes := bytes) (maxL := maxL) (ret := none) hM hp.1 hrc hrs hfr hlo hws hcw (fun a' U hW => word_at hW (Or.inl (by first | rfl | simp [Cond.onTables, Cond.keeps, Cond.steady])) hini)
  obtain ⟨hx, hb, hml, ho, -⟩ := S
  have hPc := hp.2
  intro T hT X
  rcases vx_callIN X hx (bytes := bytes) (maxL := maxL) ho hx1 hl hx2 hcode hy hK hg (hsize.trans hml.symm) (a := b) (argsL := As) (rest := rest) (fun sig h => hn.trans (hlen sig h)) hstack hW (by rw [hb]; exact hdg)
    (fun vm₁ hW₁ => ⟨hf.1, hf.2, hPc (T.setVm vm₁) hT hW₁⟩) with ⟨v, vm₁, ⟨U', l2, c2, s2⟩, hW₁, X', ⟨g', mk, t, L, e1, e2, hq, h1, hL, h2, h3⟩, st⟩ | ⟨q, vm₁, ⟨U', l2, c2, s2⟩, hW₁, X', ⟨g', mk, t, L, E, ce, e1, e2, hq, hce, hcv, hcl, h1, hL, h2, h3⟩, st⟩
  · dsimp only [Pt.U, Pt.locs, Pt.cells, Pt.slots] at X' e1 e2 h1 h2 h3 st
    subst h1; subst h2; subst h3
    exact Or.inl ⟨v, (T.setVm vm₁).calling g' mk (Value.ref b :: As).toArray, t, U', L, hT, X', hL, e1, e2, hq, st⟩
  · dsimp only [Pt.U, Pt.locs, Pt.cells, Pt.slots] at X' e1 e2 h1 h2 h3 st hcl
    subst h1; subst h2; subst h3
    exact Or.inr ⟨q, (T.setVm vm₁).calling g' mk (Value.ref b :: As).toArray, t, U', L, E, ce, hT, X', hL, e1, e2, hq, hce, hcv, vx_cls hW₁ hcl, st⟩
end VXID
/-! ===== END ===== -/
/-! ===== BEGIN a method of a class above, found by the receiver, that may throw (follows va_callVU, va_runU of this kit) ===== -/
section
variable {p : Program} {l : Launch} {e : Env} {R : Room} {s : State} {m : MethodId} {args : Array Value} {below : List Frame} {meth : Method} {c : Code} {H : Heap} {locs : List Loc} {cells slots : Nat}
theorem vx_callVU {T : State} {locs : List Loc} {cells slots : Nat} (X : Stand p l e R s m args below meth c T locs cells slots) (hexec : p.tables.exec = Jvm.exec) {own C owner : String} {index : Nat} {x y : MethodName} {bytes : ByteArray} {maxL : Nat} {ret : Option FieldType}
    (hown : s.vm.findClass own = some m.cls) (hlink : (Cond.methodLink own index x).before args s = true) (hsame : (Cond.sameMethod x.cls owner x.name x.desc).before args s = true)
    (hd0 : va_Decl s ⟨owner, x.name, x.desc⟩) (howner : owner ≠ "java/lang/invoke/MethodHandle" ∧ owner ≠ "java/lang/invoke/VarHandle")
    (hsel : (Cond.selects C x y).before args s = true) (hinst : (Cond.instanceMethod y).before args s = true) (hcode : (Cond.code y bytes maxL ret).before args s = true)
    {W : Nat} {Pre : Pt → Array Value → Prop} {Post : Pt → Array Value → Option Value → Pt → Prop} {PostX : Pt → Array Value → Addr → Pt → Prop} (hK : vx_Back l R p e below s args y 3 W Pre Post PostX)
    {b : Addr} {cellB : Cell} (hcell : T.heap[b]? = some cellB) (hobj : cellB.vm.isStatics = false) (hcls : s.vm.findClass C = some cellB.cls)
    {g : JFrame} (hg : g.method = m) (hsize : g.locals.size = c.maxLocals) {argsL rest : List Value} (hlen : ∀ sig, parseMethodDescriptor x.desc = some sig → argsL.length = sig.parameters.length)
    (hstack : g.stack = argsL.reverse ++ .ref b :: rest) (hW : 2 * g.monitorRoom + (rest.map fun v => v.category).sum ≤ W) (hdg : decode c.code g.pc = .ok (.invokevirtual index, 3))
    (hpre : ∀ vm₁, s.WarmedH vm₁ → Pre ⟨T.setVm vm₁, locs, cells, slots⟩ (Value.ref b :: argsL).toArray) :
    (∃ (v : Option Value) (vm₁ : Vm) (B : Pt), s.WarmedH vm₁ ∧ Stand p l e R s m args below meth c B.U B.locs B.cells B.slots ∧ Post ⟨T.setVm vm₁, locs, cells, slots⟩ (Value.ref b :: argsL).toArray v B ∧
      ∀ target, Steps p.tables e below (B.U.setTop { g with pc := g.pc + 3, stack := v.toList ++ rest }) target → Steps p.tables e below (T.setTop g) target) ∨
    (∃ (q : Addr) (vm₁ : Vm) (B : Pt), s.WarmedH vm₁ ∧ Stand p l e R s m args below meth c B.U B.locs B.cells B.slots ∧ PostX ⟨T.setVm vm₁, locs, cells, slots⟩ (Value.ref b :: argsL).toArray q B ∧
      Steps p.tables e below (T.setTop g) ((B.U.setTop { g with stack := rest }).pushFrame (.throwing q))) := by
  obtain ⟨r0, r, hn, hrm, hstR, hsigR⟩ := hd0
  obtain ⟨cn, ck, r1, hcn, hck, hni, hf, hn1⟩ := Cond.sameMethod_found hsame
  cases hn.symm.trans hn1
  obtain ⟨mk, methM, hnamed, hmethM, -, habM⟩ := Cond.instanceMethod_spec hinst
  obtain ⟨c2, r2, m2, q1, q2, q3, q4, kP, hkP, hkPi⟩ := Cond.selects_spec hsel
  cases hcls.symm.trans q1
  cases hf.symm.trans q2
  cases hnamed.symm.trans q3
  have hselP : selectMethod e.platform s.vm cellB.cls r0 = .method mk := by rw [Launch.admits_selectMethod X.admits]; exact q4
  obtain ⟨vm₁, X₁, hstep₁⟩ := X.invokevirtualUp hexec hown hlink hsame howner hn hrm hstR (a := b) (cell := cellB) hcell
    (fun z h => by rw [h] at hobj; cases hobj) hselP hmethM habM hkP hkPi (g := g) hg (argsL := argsL) (rest := rest) (hlen _ hsigR) hstack hdg
  rcases hK m meth c ⟨T.setVm vm₁, locs, cells, slots⟩ { g with stack := rest } (.invokevirtual index) mk (Value.ref b :: argsL).toArray X₁ hg hsize hdg hW (X₁.named hnamed) (hpre vm₁ X₁.warmed) with ⟨v, B, X', hpost, hsteps⟩ | ⟨q, B, X', hpost, hsteps⟩
  · exact Or.inl ⟨v, vm₁, B, X₁.warmed, X', hpost, fun target h => hstep₁ _ fun acts => by rw [doInvoke_state]; exact hsteps.trans h⟩
  · exact Or.inr ⟨q, vm₁, B, X₁.warmed, X', hpost, hstep₁ _ fun acts => by rw [doInvoke_state]; exact hsteps⟩
theorem vx_runU {x y : MethodName} {bytes cc : ByteArray} {maxL nL mc ms n index : Nat} {ret : Option FieldType} {ws : List Cond} {rm : Room} {Pc : Array Value → State → Prop} {Qc : Array Value → State → Outcome → State → Prop} {XC : String → State → State → Prop} {free : Addr → Prop} {Ts : List Cond} {own C owner : String} {b : Addr} {As rest : List Value} {g : JFrame}
    (S : CallFix p m c cc nL s args Ts own) (hM : vx_Met l y ws rm Pc Qc XC mc ms free) (cw : va_CU R s args own C owner index x y bytes maxL ret ws rm mc ms n) (hp : PreV s H C b Pc As)
    (hg : g.method = m) (hn : As.length = n) (hsize : g.locals.size = nL) (hstack : g.stack = As.reverse ++ .ref b :: rest) (hW : 2 * g.monitorRoom + (rest.map fun v => v.category).sum ≤ 8) (hdg : decode cc g.pc = .ok (.invokevirtual index, 3)) (hf : cells + mc ≤ R.cells ∧ slots + ms ≤ R.slots) :
    vx_Run p l e R s m args below meth c H locs cells slots mc ms g rest (Qc (Value.ref b :: As).toArray) XC free := by
  obtain ⟨hrc, hrs, hfr, hlo, hws, hcw⟩ := cw.back
  have hini := cw.init
  have hK : vx_Back l R p e below s args y 3 8 (PreOf R mc ms Pc) (PostOf Qc mc ms free) (vx_Post XC mc ms free) := vx_back (bytes := bytes) (maxL := maxL) (ret := ret) hM hp.1 hrc hrs hfr hlo hws hcw (fun a' U hW => word_at hW (Or.inl (by first | rfl | simp [Cond.onTables, Cond.keeps, Cond.steady])) hini)
  obtain ⟨hx, hb, hml, ho, -⟩ := S
  obtain ⟨-, ⟨cellB, hcB, hoB, hclB⟩, hPc⟩ := hp
  intro T hT X
  rcases vx_callVU X hx (C := C) (owner := owner) (bytes := bytes) (maxL := maxL) (ret := ret) ho cw.link cw.same cw.decl cw.notMH cw.sel cw.inst cw.code hK (by rw [hT]; exact hcB) hoB hclB hg (hsize.trans hml.symm) (argsL := As) (rest := rest) (fun sig h => hn.trans (cw.len sig h)) hstack hW (by rw [hb]; exact hdg)
    (fun vm₁ hW₁ => ⟨hf.1, hf.2, hPc (T.setVm vm₁) hT hW₁⟩) with ⟨v, vm₁, ⟨U', l2, c2, s2⟩, hW₁, X', ⟨g', mk, t, L, e1, e2, hq, h1, hL, h2, h3⟩, st⟩ | ⟨q, vm₁, ⟨U', l2, c2, s2⟩, hW₁, X', ⟨g', mk, t, L, E, ce, e1, e2, hq, hce, hcv, hcl, h1, hL, h2, h3⟩, st⟩
  · dsimp only [Pt.U, Pt.locs, Pt.cells, Pt.slots] at X' e1 e2 h1 h2 h3 st
    subst h1; subst h2; subst h3
    exact Or.inl ⟨v, (T.setVm vm₁).calling g' mk (Value.ref b :: As).toArray, t, U', L, hT, X', hL, e1, e2, hq, st⟩
  · dsimp only [Pt.U, Pt.locs, Pt.cells, Pt.slots] at X' e1 e2 h1 h2 h3 st hcl
    subst h1; subst h2; subst h3
    exact Or.inr ⟨q, (T.setVm vm₁).calling g' mk (Value.ref b :: As).toArray, t, U', L, E, ce, hT, X', hL, e1, e2, hq, hce, hcv, vx_cls hW₁ hcl, st⟩
end
/-! ===== END ===== -/
/-! ===== BEGIN super.m(..) that may throw (follows va_callSU, va_runSU) ===== -/
section
variable {p : Program} {l : Launch} {e : Env} {R : Room} {s : State} {m : MethodId} {args : Array Value} {below : List Frame} {meth : Method} {c : Code} {H : Heap} {locs : List Loc} {cells slots : Nat}
theorem vx_callSU {T : State} {locs : List Loc} {cells slots : Nat} (X : Stand p l e R s m args below meth c T locs cells slots) (hexec : p.tables.exec = Jvm.exec) {own : String} {index : Nat} {y : MethodName} {bytes : ByteArray} {maxL : Nat} {ret : Option FieldType}
    (hown : s.vm.findClass own = some m.cls) (hlink : (Cond.methodLink own index y).before args s = true) (hsame : (Cond.sameMethod y.cls y.cls y.name y.desc).before args s = true) (hsup : (Cond.superclass own y.cls).before args s = true)
    (hinst : (Cond.instanceMethod y).before args s = true) (hcode : (Cond.code y bytes maxL ret).before args s = true) (hno : y.name ≠ "<init>")
    {W : Nat} {Pre : Pt → Array Value → Prop} {Post : Pt → Array Value → Option Value → Pt → Prop} {PostX : Pt → Array Value → Addr → Pt → Prop} (hK : vx_Back l R p e below s args y 3 W Pre Post PostX)
    {b : Addr} {cellB : Cell} {kB : Class} (hcell : T.heap[b]? = some cellB) (hobj : cellB.vm.isStatics = false) (hkB : s.vm.classes[cellB.cls]? = some kB)
    {g : JFrame} (hg : g.method = m) (hsize : g.locals.size = c.maxLocals) {argsL rest : List Value} (hlen : ∀ sig, parseMethodDescriptor y.desc = some sig → argsL.length = sig.parameters.length)
    (hstack : g.stack = argsL.reverse ++ .ref b :: rest) (hW : 2 * g.monitorRoom + (rest.map fun v => v.category).sum ≤ W) (hdg : decode c.code g.pc = .ok (.invokespecial index, 3))
    (hpre : ∀ vm₁, s.WarmedH vm₁ → Pre ⟨T.setVm vm₁, locs, cells, slots⟩ (Value.ref b :: argsL).toArray) :
    (∃ (v : Option Value) (vm₁ : Vm) (B : Pt), s.WarmedH vm₁ ∧ Stand p l e R s m args below meth c B.U B.locs B.cells B.slots ∧ Post ⟨T.setVm vm₁, locs, cells, slots⟩ (Value.ref b :: argsL).toArray v B ∧
      ∀ target, Steps p.tables e below (B.U.setTop { g with pc := g.pc + 3, stack := v.toList ++ rest }) target → Steps p.tables e below (T.setTop g) target) ∨
    (∃ (q : Addr) (vm₁ : Vm) (B : Pt), s.WarmedH vm₁ ∧ Stand p l e R s m args below meth c B.U B.locs B.cells B.slots ∧ PostX ⟨T.setVm vm₁, locs, cells, slots⟩ (Value.ref b :: argsL).toArray q B ∧
      Steps p.tables e below (T.setTop g) ((B.U.setTop { g with stack := rest }).pushFrame (.throwing q))) := by
  obtain ⟨mk, methM, hnamed, hmethM, hstM, habM⟩ := Cond.instanceMethod_spec hinst
  obtain ⟨methM', cM, hmethM', -, -, -, -, -, -, hsigM⟩ := Cond.code_spec hnamed hcode
  cases hmethM.symm.trans hmethM'
  obtain ⟨ps, dk, kp, hps, hdk, hkp, hsuper, -, -, hnid⟩ := Cond.superclass_spec hown hsup
  have hn : s.methodNamed? ⟨y.cls, y.name, y.desc⟩ = some mk := hnamed
  have hpm : ps = mk.cls := Option.some.inj (hps.symm.trans (findClass_of_methodNamed hnamed))
  have hsub : s.vm.isSubclass ps mk.cls = true := by rw [hpm]; simp [Vm.isSubclass, Vm.isSubclassAux]
  obtain ⟨vm₁, X₁, hstep₁⟩ := X.invokespecialUp hexec hown hlink hsame hn hmethM hstM habM hno hdk hnid hps hsuper hsub (a := b) (cell := cellB) hcell
    (fun z h => by rw [h] at hobj; cases hobj) hkB (g := g) hg (argsL := argsL) (rest := rest) (hlen _ hsigM) hstack hdg
  rcases hK m meth c ⟨T.setVm vm₁, locs, cells, slots⟩ { g with stack := rest } (.invokespecial index) mk (Value.ref b :: argsL).toArray X₁ hg hsize hdg hW (X₁.named hnamed) (hpre vm₁ X₁.warmed) with ⟨v, B, X', hpost, hsteps⟩ | ⟨q, B, X', hpost, hsteps⟩
  · exact Or.inl ⟨v, vm₁, B, X₁.warmed, X', hpost, fun target h => hstep₁ _ (by rw [doInvoke_state]; exact hsteps.trans h)⟩
  · exact Or.inr ⟨q, vm₁, B, X₁.warmed, X', hpost, hstep₁ _ (by rw [doInvoke_state]; exact hsteps)⟩
theorem vx_runSU {y : MethodName} {bytes cc : ByteArray} {maxL nL mc ms n index : Nat} {ret : Option FieldType} {ws : List Cond} {rm : Room} {Pc : Array Value → State → Prop} {Qc : Array Value → State → Outcome → State → Prop} {XC : String → State → State → Prop} {free : Addr → Prop} {Ts : List Cond} {own C : String} {cC : ClassId} {b : Addr} {As rest : List Value} {g : JFrame}
    (hat : ClassAt s C cC) (S : CallFix p m c cc nL s args Ts own) (hM : vx_Met l y ws rm Pc Qc XC mc ms free) (cw : va_CS R s args own index y bytes maxL ret ws rm mc ms n) (hp : PreV s H C b Pc As)
    (hg : g.method = m) (hn : As.length = n) (hsize : g.locals.size = nL) (hstack : g.stack = As.reverse ++ .ref b :: rest) (hW : 2 * g.monitorRoom + (rest.map fun v => v.category).sum ≤ 8) (hdg : decode cc g.pc = .ok (.invokespecial index, 3)) (hf : cells + mc ≤ R.cells ∧ slots + ms ≤ R.slots) :
    vx_Run p l e R s m args below meth c H locs cells slots mc ms g rest (Qc (Value.ref b :: As).toArray) XC free := by
  obtain ⟨⟨hrc, hrs, hfr, hlo, hws, hcw⟩, hl1, hl2, hl3, hl4, hini, hcode, hno, hlen⟩ := cw
  have hK : vx_Back l R p e below s args y 3 8 (PreOf R mc ms Pc) (PostOf Qc mc ms free) (vx_Post XC mc ms free) := vx_back (bytes := bytes) (maxL := maxL) (ret := ret) hM hp.1 hrc hrs hfr hlo hws hcw (fun a' U hW => word_at hW (Or.inl (by first | rfl | simp [Cond.onTables, Cond.keeps, Cond.steady])) hini)
  obtain ⟨hx, hb, hml, ho, -⟩ := S
  obtain ⟨-, ⟨cellB, hcB, hoB, hclB⟩, hPc⟩ := hp
  obtain ⟨hfc, kB, hkB, -⟩ := hat
  cases hfc.symm.trans hclB
  intro T hT X
  rcases vx_callSU X hx (bytes := bytes) (maxL := maxL) (ret := ret) ho hl1 hl2 hl3 hl4 hcode hno hK (by rw [hT]; exact hcB) hoB hkB hg (hsize.trans hml.symm) (argsL := As) (rest := rest) (fun sig h => hn.trans (hlen sig h)) hstack hW (by rw [hb]; exact hdg)
    (fun vm₁ hW₁ => ⟨hf.1, hf.2, hPc (T.setVm vm₁) hT hW₁⟩) with ⟨v, vm₁, ⟨U', l2, c2, s2⟩, hW₁, X', ⟨g', mk, t, L, e1, e2, hq, h1, hL, h2, h3⟩, st⟩ | ⟨q, vm₁, ⟨U', l2, c2, s2⟩, hW₁, X', ⟨g', mk, t, L, E, ce, e1, e2, hq, hce, hcv, hcl, h1, hL, h2, h3⟩, st⟩
  · dsimp only [Pt.U, Pt.locs, Pt.cells, Pt.slots] at X' e1 e2 h1 h2 h3 st
    subst h1; subst h2; subst h3
    exact Or.inl ⟨v, (T.setVm vm₁).calling g' mk (Value.ref b :: As).toArray, t, U', L, hT, X', hL, e1, e2, hq, st⟩
  · dsimp only [Pt.U, Pt.locs, Pt.cells, Pt.slots] at X' e1 e2 h1 h2 h3 st hcl
    subst h1; subst h2; subst h3
    exact Or.inr ⟨q, (T.setVm vm₁).calling g' mk (Value.ref b :: As).toArray, t, U', L, E, ce, hT, X', hL, e1, e2, hq, hce, hcv, vx_cls hW₁ hcl, st⟩
end
/-! ===== END ===== -/
/-! ===== BEGIN a private method of a nest mate that may throw (follows va_callVN, va_callSN, va_runVN, va_runSN) ===== -/
section
variable {p : Program} {l : Launch} {e : Env} {R : Room} {s : State} {m : MethodId} {args : Array Value} {below : List Frame} {meth : Method} {c : Code} {H : Heap} {locs : List Loc} {cells slots : Nat}
variable {T : State}
theorem vx_callVN (X : Stand p l e R s m args below meth c T locs cells slots) (hexec : p.tables.exec = Jvm.exec) {own C : String} {index : Nat} {host : String} {y : MethodName} {bytes : ByteArray} {maxL : Nat} {ret : Option FieldType}
    (hown : s.vm.findClass own = some m.cls) (hlink : (Cond.methodLinkNest own index y host).before args s = true) (hinst : (Cond.instanceMethod y).before args s = true) (hsel : (Cond.selects C y y).before args s = true)
    (hcode : (Cond.code y bytes maxL ret).before args s = true) (hy : y.cls ≠ "java/lang/invoke/MethodHandle" ∧ y.cls ≠ "java/lang/invoke/VarHandle")
    {W : Nat} {Pre : Pt → Array Value → Prop} {Post : Pt → Array Value → Option Value → Pt → Prop} {PostX : Pt → Array Value → Addr → Pt → Prop} (hK : vx_Back l R p e below s args y 3 W Pre Post PostX)
    {b : Addr} {cellB : Cell} (hcell : T.heap[b]? = some cellB) (hobj : cellB.vm.isStatics = false) (hcls : s.vm.findClass C = some cellB.cls)
    {g : JFrame} (hg : g.method = m) (hsize : g.locals.size = c.maxLocals) {argsL rest : List Value} (hlen : ∀ sig, parseMethodDescriptor y.desc = some sig → argsL.length = sig.parameters.length)
    (hstack : g.stack = argsL.reverse ++ .ref b :: rest) (hW : 2 * g.monitorRoom + (rest.map fun v => v.category).sum ≤ W) (hdg : decode c.code g.pc = .ok (.invokevirtual index, 3))
    (hpre : ∀ vm₁, s.WarmedH vm₁ → Pre ⟨T.setVm vm₁, locs, cells, slots⟩ (Value.ref b :: argsL).toArray) :
    (∃ (v : Option Value) (vm₁ : Vm) (B : Pt), s.WarmedH vm₁ ∧ Stand p l e R s m args below meth c B.U B.locs B.cells B.slots ∧ Post ⟨T.setVm vm₁, locs, cells, slots⟩ (Value.ref b :: argsL).toArray v B ∧
      ∀ target, Steps p.tables e below (B.U.setTop { g with pc := g.pc + 3, stack := v.toList ++ rest }) target → Steps p.tables e below (T.setTop g) target) ∨
    (∃ (q : Addr) (vm₁ : Vm) (B : Pt), s.WarmedH vm₁ ∧ Stand p l e R s m args below meth c B.U B.locs B.cells B.slots ∧ PostX ⟨T.setVm vm₁, locs, cells, slots⟩ (Value.ref b :: argsL).toArray q B ∧
      Steps p.tables e below (T.setTop g) ((B.U.setTop { g with stack := rest }).pushFrame (.throwing q))) := by
  obtain ⟨mk, methM, hnamed, hmethM, hstM, habM⟩ := Cond.instanceMethod_spec hinst
  obtain ⟨methM', cM, hmethM', -, -, -, -, -, -, hsigM⟩ := Cond.code_spec hnamed hcode
  cases hmethM.symm.trans hmethM'
  obtain ⟨c2, r2, m2, q1, q2, q3, q4, kP, hkP, hkPi⟩ := Cond.selects_spec hsel
  cases hcls.symm.trans q1
  cases (State.methodFound?_of_named hnamed hy).symm.trans q2
  cases hnamed.symm.trans q3
  have hselP : selectMethod e.platform s.vm cellB.cls mk = .method mk := by rw [Launch.admits_selectMethod X.admits]; exact q4
  obtain ⟨vm₁, X₁, hstep₁⟩ := X.invokevirtualNest hexec hown hlink hnamed hmethM hstM hkP hkPi hy (a := b) (cell := cellB) hcell
    (fun z h => by rw [h] at hobj; cases hobj) hselP hmethM habM hkP hkPi (g := g) hg (argsL := argsL) (rest := rest) (hlen _ hsigM) hstack hdg
  rcases hK m meth c ⟨T.setVm vm₁, locs, cells, slots⟩ { g with stack := rest } (.invokevirtual index) mk (Value.ref b :: argsL).toArray X₁ hg hsize hdg hW (X₁.named hnamed) (hpre vm₁ X₁.warmed) with ⟨v, B, X', hpost, hsteps⟩ | ⟨q, B, X', hpost, hsteps⟩
  · exact Or.inl ⟨v, vm₁, B, X₁.warmed, X', hpost, fun target h => hstep₁ _ fun acts => by rw [doInvoke_state]; exact hsteps.trans h⟩
  · exact Or.inr ⟨q, vm₁, B, X₁.warmed, X', hpost, hstep₁ _ fun acts => by rw [doInvoke_state]; exact hsteps⟩
theorem vx_callSN (X : Stand p l e R s m args below meth c T locs cells slots) (hexec : p.tables.exec = Jvm.exec) {own : String} {index : Nat} {host : String} {y : MethodName} {bytes : ByteArray} {maxL : Nat} {ret : Option FieldType}
    (hown : s.vm.findClass own = some m.cls) (hlink : (Cond.methodLinkNest own index y host).before args s = true) (hstat : (Cond.static y).before args s = true) (hinit : (Cond.initialized y.cls).before args s = true)
    (hcode : (Cond.code y bytes maxL ret).before args s = true) (hy : y.cls ≠ "java/lang/invoke/MethodHandle" ∧ y.cls ≠ "java/lang/invoke/VarHandle")
    {W : Nat} {Pre : Pt → Array Value → Prop} {Post : Pt → Array Value → Option Value → Pt → Prop} {PostX : Pt → Array Value → Addr → Pt → Prop} (hK : vx_Back l R p e below s args y 3 W Pre Post PostX)
    {g : JFrame} (hg : g.method = m) (hsize : g.locals.size = c.maxLocals) {argsL rest : List Value} (hlen : ∀ sig, parseMethodDescriptor y.desc = some sig → argsL.length = sig.parameters.length)
    (hstack : g.stack = argsL.reverse ++ rest) (hW : 2 * g.monitorRoom + (rest.map fun v => v.category).sum ≤ W) (hdg : decode c.code g.pc = .ok (.invokestatic index, 3))
    (hpre : ∀ vm₁, s.WarmedH vm₁ → Pre ⟨T.setVm vm₁, locs, cells, slots⟩ argsL.toArray) :
    (∃ (v : Option Value) (vm₁ : Vm) (B : Pt), s.WarmedH vm₁ ∧ Stand p l e R s m args below meth c B.U B.locs B.cells B.slots ∧ Post ⟨T.setVm vm₁, locs, cells, slots⟩ argsL.toArray v B ∧
      ∀ target, Steps p.tables e below (B.U.setTop { g with pc := g.pc + 3, stack := v.toList ++ rest }) target → Steps p.tables e below (T.setTop g) target) ∨
    (∃ (q : Addr) (vm₁ : Vm) (B : Pt), s.WarmedH vm₁ ∧ Stand p l e R s m args below meth c B.U B.locs B.cells B.slots ∧ PostX ⟨T.setVm vm₁, locs, cells, slots⟩ argsL.toArray q B ∧
      Steps p.tables e below (T.setTop g) ((B.U.setTop { g with stack := rest }).pushFrame (.throwing q))) := by
  obtain ⟨mk, hnamed⟩ := Cond.code_named hcode
  obtain ⟨methM, cM, hmethM, -, -, -, -, -, -, hsigM⟩ := Cond.code_spec hnamed hcode
  have hstatic : methM.isStatic = true := Cond.static_spec hnamed hmethM hstat
  obtain ⟨kP, hkP, -⟩ := className_of_methodNamed hnamed
  have hinitP : kP.init = .initialized := Cond.initialized_spec (findClass_of_methodNamed hnamed) hkP hinit
  obtain ⟨vm₁, X₁, hstep₁⟩ := X.invokestaticNest hexec hown hlink hnamed hmethM hstatic hkP hinitP hy (g := g) hg (argsL := argsL) (rest := rest) (hlen _ hsigM) hstack hdg
  rcases hK m meth c ⟨T.setVm vm₁, locs, cells, slots⟩ { g with stack := rest } (.invokestatic index) mk argsL.toArray X₁ hg hsize hdg hW (X₁.named hnamed) (hpre vm₁ X₁.warmed) with ⟨v, B, X', hpost, hsteps⟩ | ⟨q, B, X', hpost, hsteps⟩
  · exact Or.inl ⟨v, vm₁, B, X₁.warmed, X', hpost, fun target h => hstep₁ _ fun acts => by rw [doInvoke_state]; exact hsteps.trans h⟩
  · exact Or.inr ⟨q, vm₁, B, X₁.warmed, X', hpost, hstep₁ _ fun acts => by rw [doInvoke_state]; exact hsteps⟩
theorem vx_runVN {y : MethodName} {bytes cc : ByteArray} {maxL nL mc ms n index : Nat} {ret : Option FieldType} {ws : List Cond} {rm : Room} {Pc : Array Value → State → Prop} {Qc : Array Value → State → Outcome → State → Prop} {XC : String → State → State → Prop} {free : Addr → Prop} {Ts : List Cond} {own C host : String} {b : Addr} {As rest : List Value} {g : JFrame}
    (S : CallFix p m c cc nL s args Ts own) (hM : vx_Met l y ws rm Pc Qc XC mc ms free) (cw : va_CN R s args own index y host bytes maxL ret ws rm mc ms n ∧ (Cond.instanceMethod y).before args s = true ∧ (Cond.selects C y y).before args s = true) (hp : PreV s H C b Pc As)
    (hg : g.method = m) (hn : As.length = n) (hsize : g.locals.size = nL) (hstack : g.stack = As.reverse ++ .ref b :: rest) (hW : 2 * g.monitorRoom + (rest.map fun v => v.category).sum ≤ 8) (hdg : decode cc g.pc = .ok (.invokevirtual index, 3)) (hf : cells + mc ≤ R.cells ∧ slots + ms ≤ R.slots) :
    vx_Run p l e R s m args below meth c H locs cells slots mc ms g rest (Qc (Value.ref b :: As).toArray) XC free := by
  obtain ⟨⟨⟨hrc, hrs, hfr, hlo, hws, hcw⟩, hcode, hini, hy, hlen, hl⟩, hx1, hx2⟩ := cw
  have hK : vx_Back l R p e below s args y 3 8 (PreOf R mc ms Pc) (PostOf Qc mc ms free) (vx_Post XC mc ms free) := vx_back (bytes := bytes) (maxL := maxL) (ret := ret) hM hp.1 hrc hrs hfr hlo hws hcw (fun a' U hW => word_at hW (Or.inl (by first | rfl | simp [Cond.onTables, Cond.keeps, Cond.steady])) hini)
  obtain ⟨hx, hb, hml, ho, -⟩ := S
  obtain ⟨-, ⟨cellB, hcB, hoB, hclB⟩, hPc⟩ := hp
  intro T hT X
  rcases vx_callVN X hx (C := C) (bytes := bytes) (maxL := maxL) (ret := ret) ho hl hx1 hx2 hcode hy hK (by rw [hT]; exact hcB) hoB hclB hg (hsize.trans hml.symm) (argsL := As) (rest := rest) (fun sig h => hn.trans (hlen sig h)) hstack hW (by rw [hb]; exact hdg)
    (fun vm₁ hW₁ => ⟨hf.1, hf.2, hPc (T.setVm vm₁) hT hW₁⟩) with ⟨v, vm₁, ⟨U', l2, c2, s2⟩, hW₁, X', ⟨g', mk, t, L, e1, e2, hq, h1, hL, h2, h3⟩, st⟩ | ⟨q, vm₁, ⟨U', l2, c2, s2⟩, hW₁, X', ⟨g', mk, t, L, E, ce, e1, e2, hq, hce, hcv, hcl, h1, hL, h2, h3⟩, st⟩
  · dsimp only [Pt.U, Pt.locs, Pt.cells, Pt.slots] at X' e1 e2 h1 h2 h3 st
    subst h1; subst h2; subst h3
    exact Or.inl ⟨v, (T.setVm vm₁).calling g' mk (Value.ref b :: As).toArray, t, U', L, hT, X', hL, e1, e2, hq, st⟩
  · dsimp only [Pt.U, Pt.locs, Pt.cells, Pt.slots] at X' e1 e2 h1 h2 h3 st hcl
    subst h1; subst h2; subst h3
    exact Or.inr ⟨q, (T.setVm vm₁).calling g' mk (Value.ref b :: As).toArray, t, U', L, E, ce, hT, X', hL, e1, e2, hq, hce, hcv, vx_cls hW₁ hcl, st⟩
theorem vx_runSN {y : MethodName} {bytes cc : ByteArray} {maxL nL mc ms n index : Nat} {ret : Option FieldType} {ws : List Cond} {rm : Room} {Pc : Array Value → State → Prop} {Qc : Array Value → State → Outcome → State → Prop} {XC : String → State → State → Prop} {free : Addr → Prop} {Ts : List Cond} {own host : String} {As rest : List Value} {g : JFrame}
    (S : CallFix p m c cc nL s args Ts own) (hM : vx_Met l y ws rm Pc Qc XC mc ms free) (cw : va_CN R s args own index y host bytes maxL ret ws rm mc ms n ∧ (Cond.static y).before args s = true ∧ True) (hp : PreS s H Pc As)
    (hg : g.method = m) (hn : As.length = n) (hsize : g.locals.size = nL) (hstack : g.stack = As.reverse ++ rest) (hW : 2 * g.monitorRoom + (rest.map fun v => v.category).sum ≤ 8) (hdg : decode cc g.pc = .ok (.invokestatic index, 3)) (hf : cells + mc ≤ R.cells ∧ slots + ms ≤ R.slots) :
    vx_Run p l e R s m args below meth c H locs cells slots mc ms g rest (Qc As.toArray) XC free := by
  obtain ⟨⟨⟨hrc, hrs, hfr, hlo, hws, hcw⟩, hcode, hini, hy, hlen, hl⟩, hx1, hx2⟩ := cw
  have hK : vx_Back l R p e below s args y 3 8 (PreOf R mc ms Pc) (PostOf Qc mc ms free) (vx_Post XC mc ms free) := vx_back (bytes := bytes) (maxL := maxL) (ret := ret) hM hp.1 hrc hrs hfr hlo hws hcw (fun a' U hW => word_at hW (Or.inl (by first | rfl | simp [Cond.onTables, Cond.keeps, Cond.steady])) hini)
  obtain ⟨hx, hb, hml, ho, -⟩ := S
  have hPc := hp.2
  intro T hT X
  rcases vx_callSN X hx (bytes := bytes) (maxL := maxL) (ret := ret) ho hl hx1 hini hcode hy hK hg (hsize.trans hml.symm) (argsL := As) (rest := rest) (fun sig h => hn.trans (hlen sig h)) hstack hW (by rw [hb]; exact hdg)
    (fun vm₁ hW₁ => ⟨hf.1, hf.2, hPc (T.setVm vm₁) hT hW₁⟩) with ⟨v, vm₁, ⟨U', l2, c2, s2⟩, hW₁, X', ⟨g', mk, t, L, e1, e2, hq, h1, hL, h2, h3⟩, st⟩ | ⟨q, vm₁, ⟨U', l2, c2, s2⟩, hW₁, X', ⟨g', mk, t, L, E, ce, e1, e2, hq, hce, hcv, hcl, h1, hL, h2, h3⟩, st⟩
  · dsimp only [Pt.U, Pt.locs, Pt.cells, Pt.slots] at X' e1 e2 h1 h2 h3 st
    subst h1; subst h2; subst h3
    exact Or.inl ⟨v, (T.setVm vm₁).calling g' mk As.toArray, t, U', L, hT, X', hL, e1, e2, hq, st⟩
  · dsimp only [Pt.U, Pt.locs, Pt.cells, Pt.slots] at X' e1 e2 h1 h2 h3 st hcl
    subst h1; subst h2; subst h3
    exact Or.inr ⟨q, (T.setVm vm₁).calling g' mk As.toArray, t, U', L, E, ce, hT, X', hL, e1, e2, hq, hce, hcv, vx_cls hW₁ hcl, st⟩
end
/-! ===== END ===== -/
/-! ===== BEGIN calls by an interface of methods that may throw (vx_callIF, vx_runF follow va_callIF, va_runF of this kit) ===== -/
section
variable {p : Program} {l : Launch} {e : Env} {R : Room} {s : State} {m : MethodId} {args : Array Value} {below : List Frame} {meth : Method} {c : Code} {H : Heap} {locs : List Loc} {cells slots : Nat} {Q : State → Prop}
variable {mc ms : Nat} {free : Addr → Prop} {A0 A1 : Nat → Prop} {H0 : Heap} {a : Array Value} {pc : Nat} {ls : Array Slot} {st0 rest : List Value}
def vx_Run5 (p : Program) (l : Launch) (e : Env) (R : Room) (s : State) (m : MethodId) (args : Array Value) (below : List Frame) (meth : Method) (c : Code) (H : Heap) (locs : List Loc) (cells slots mc ms : Nat) (g : JFrame) (rest : List Value) (Qa : State → Outcome → State → Prop) (XC : String → State → State → Prop) (free : Addr → Prop) : Prop :=
  ∀ T : State, T.heap = H → Stand p l e R s m args below meth c T locs cells slots →
    (∃ (v : Option Value) (st₀ t T' : State) (L : List Loc), st₀.heap = H ∧ Stand p l e R s m args below meth c T' (locs ++ L) (cells + mc) (slots + ms) ∧ (∀ q ∈ L, free q.base) ∧ T'.heap = t.heap ∧ T'.vm = t.vm ∧ Qa st₀ (.returned v) t ∧
      Goes p e below T g T' { g with pc := g.pc + 5, stack := v.toList ++ rest }) ∨
    (∃ (q : Addr) (st₀ t T' : State) (L : List Loc) (E : String) (ce : Cell), st₀.heap = H ∧ Stand p l e R s m args below meth c T' (locs ++ L) (cells + mc) (slots + ms) ∧ (∀ z ∈ L, free z.base) ∧ T'.heap = t.heap ∧ T'.vm = t.vm ∧ XC E st₀ t ∧ t.heap[q]? = some ce ∧ ce.vm = .none ∧ s.vm.findClass E = some ce.cls ∧
      Steps p.tables e below (T.setTop g) ((T'.setTop { g with stack := rest }).pushFrame (.throwing q)))
theorem vx_callIF {T : State} (X : Stand p l e R s m args below meth c T locs cells slots) (hexec : p.tables.exec = Jvm.exec) {own C : String} {index count : Nat} {x y : MethodName} {bytes : ByteArray} {maxL : Nat} {ret : Option FieldType}
    (hown : s.vm.findClass own = some m.cls) (hlink : (Cond.methodLink own index x).before args s = true) (hdecl : (Cond.declares x).before args s = true) (hface : (Cond.interfaceMethod x.cls x.cls x.name x.desc).before args s = true)
    (hsel : (Cond.selects C x y).before args s = true) (hinst : (Cond.instanceMethod y).before args s = true) (hpub : (Cond.publicMethod y).before args s = true) (hunh : (Cond.unhidden C x.name x.desc).before args s = true)
    (hcast : (Cond.castable C x.cls).before args s = true) (hcode : (Cond.code y bytes maxL ret).before args s = true) (hx : x.cls ≠ "java/lang/invoke/MethodHandle" ∧ x.cls ≠ "java/lang/invoke/VarHandle")
    {W9 : Nat} {Pre : Pt → Array Value → Prop} {Post : Pt → Array Value → Option Value → Pt → Prop} {PostX : Pt → Array Value → Addr → Pt → Prop} (hK : vx_Back l R p e below s args y 5 W9 Pre Post PostX)
    {b : Addr} {cellB : Cell} {kB : Class} (hcell : T.heap[b]? = some cellB) (hobj : cellB.vm.isStatics = false) (hcls : s.vm.findClass C = some cellB.cls) (hkB : s.vm.classes[cellB.cls]? = some kB)
    {g : JFrame} (hg : g.method = m) (hsize : g.locals.size = c.maxLocals) {argsL rest : List Value} (hlen : ∀ sig, parseMethodDescriptor x.desc = some sig → argsL.length = sig.parameters.length)
    (hstack : g.stack = argsL.reverse ++ .ref b :: rest) (hW : 2 * g.monitorRoom + (rest.map fun v => v.category).sum ≤ W9) (hdg : decode c.code g.pc = .ok (.invokeinterface index count, 5))
    (hpre : ∀ vm₁, s.WarmedH vm₁ → Pre ⟨T.setVm vm₁, locs, cells, slots⟩ (Value.ref b :: argsL).toArray) :
    (∃ (v : Option Value) (vm₁ : Vm) (B : Pt), s.WarmedH vm₁ ∧ Stand p l e R s m args below meth c B.U B.locs B.cells B.slots ∧ Post ⟨T.setVm vm₁, locs, cells, slots⟩ (Value.ref b :: argsL).toArray v B ∧
      ∀ target, Steps p.tables e below (B.U.setTop { g with pc := g.pc + 5, stack := v.toList ++ rest }) target → Steps p.tables e below (T.setTop g) target) ∨
    (∃ (q : Addr) (vm₁ : Vm) (B : Pt), s.WarmedH vm₁ ∧ Stand p l e R s m args below meth c B.U B.locs B.cells B.slots ∧ PostX ⟨T.setVm vm₁, locs, cells, slots⟩ (Value.ref b :: argsL).toArray q B ∧
      Steps p.tables e below (T.setTop g) ((B.U.setTop { g with stack := rest }).pushFrame (.throwing q))) := by
  obtain ⟨r0, r, hn, hrm, hstR, hsigR⟩ := Cond.declares_spec hdecl
  obtain ⟨cL, kL, r1, hcL, hkL, hiL, hfoundL, hn1⟩ := Cond.interfaceMethod_spec hface
  cases hn.symm.trans hn1
  have hr0cls : r0.cls = cL := Option.some.inj ((findClass_of_methodNamed hn).symm.trans hcL)
  obtain ⟨hnameR, hdescR⟩ := name_of_methodNamed hn hrm
  obtain ⟨mk, methM, hnamed, hmethM, -, habM⟩ := Cond.instanceMethod_spec hinst
  obtain ⟨c2, r2, m2, q1, q2, q3, q4, -⟩ := Cond.selects_spec hsel
  cases hcls.symm.trans q1
  cases hfoundL.symm.trans q2
  cases hnamed.symm.trans q3
  have hselP : selectMethod e.platform s.vm cellB.cls r0 = .method mk := by rw [Launch.admits_selectMethod X.admits]; exact q4
  have hpubM : hasFlag methM.accessFlags Acc.public_ = true := Cond.publicMethod_spec hnamed hmethM hpub
  have hway : ((cellB.cls :: s.vm.superclasses cellB.cls).any fun k => (declaredIn s.vm r.name r.desc k).any fun (_, z) => z.isPrivate || z.isStatic) = false := by
    rw [hnameR, hdescR]; exact Cond.unhidden_spec hcls hunh
  obtain ⟨c3, t3, w1, w2, w3⟩ := Cond.castable_spec hcast
  cases hcls.symm.trans w1
  cases hcL.symm.trans w2
  obtain ⟨vm₁, X₁, hstep₁⟩ := X.invokeinterface hexec hown hlink hn hrm hstR (by rw [hr0cls]; exact hkL) hiL hx (a := b) (cell := cellB) (kcell := kB) hcell
    (fun z h => by rw [h] at hobj; cases hobj) hkB (by rw [hr0cls]; exact w3) hselP hmethM hway hpubM habM (g := g) hg (argsL := argsL) (rest := rest) (hlen _ hsigR) hstack hdg
  rcases hK m meth c ⟨T.setVm vm₁, locs, cells, slots⟩ { g with stack := rest } (.invokeinterface index count) mk (Value.ref b :: argsL).toArray X₁ hg hsize hdg hW (X₁.named hnamed) (hpre vm₁ X₁.warmed) with ⟨v, B, X', hpost, hsteps⟩ | ⟨q, B, X', hpost, hsteps⟩
  · exact Or.inl ⟨v, vm₁, B, X₁.warmed, X', hpost, fun target h => hstep₁ _ fun acts => by rw [doInvoke_state]; exact hsteps.trans h⟩
  · exact Or.inr ⟨q, vm₁, B, X₁.warmed, X', hpost, hstep₁ _ fun acts => by rw [doInvoke_state]; exact hsteps⟩
theorem vx_runF {x y : MethodName} {bytes cc : ByteArray} {maxL nL mc ms n index count : Nat} {ret : Option FieldType} {ws : List Cond} {rm : Room} {Pc : Array Value → State → Prop} {Qc : Array Value → State → Outcome → State → Prop} {XC : String → State → State → Prop} {free : Addr → Prop} {Ts : List Cond} {own C : String} {cC : ClassId} {b : Addr} {As rest : List Value} {g : JFrame}
    (hat : ClassAt s C cC) (S : CallFix p m c cc nL s args Ts own) (hM : vx_Met l y ws rm Pc Qc XC mc ms free) (cw : va_CI R s args own C index x y bytes maxL ret ws rm mc ms n) (hp : PreV s H C b Pc As)
    (hg : g.method = m) (hn : As.length = n) (hsize : g.locals.size = nL) (hstack : g.stack = As.reverse ++ .ref b :: rest) (hW : 2 * g.monitorRoom + (rest.map fun v => v.category).sum ≤ 8) (hdg : decode cc g.pc = .ok (.invokeinterface index count, 5)) (hf : cells + mc ≤ R.cells ∧ slots + ms ≤ R.slots) :
    vx_Run5 p l e R s m args below meth c H locs cells slots mc ms g rest (Qc (Value.ref b :: As).toArray) XC free := by
  obtain ⟨hrc, hrs, hfr, hlo, hws, hcw⟩ := cw.back
  have hini := cw.init
  have hK : vx_Back l R p e below s args y 5 8 (PreOf R mc ms Pc) (PostOf Qc mc ms free) (vx_Post XC mc ms free) := vx_back (bytes := bytes) (maxL := maxL) (ret := ret) hM hp.1 hrc hrs hfr hlo hws hcw (fun a' U hW => word_at hW (Or.inl (by first | rfl | simp [Cond.onTables, Cond.keeps, Cond.steady])) hini)
  obtain ⟨hx, hb, hml, ho, -⟩ := S
  obtain ⟨-, ⟨cellB, hcB, hoB, hclB⟩, hPc⟩ := hp
  obtain ⟨hfc, kB, hkB, -⟩ := hat
  cases hfc.symm.trans hclB
  intro T hT X
  rcases vx_callIF X hx (C := C) (bytes := bytes) (maxL := maxL) (ret := ret) ho cw.link cw.decl cw.face cw.sel cw.inst cw.pub cw.unh cw.cast cw.code cw.notMH hK (by rw [hT]; exact hcB) hoB hclB hkB hg (hsize.trans hml.symm) (argsL := As) (rest := rest) (fun sig h => hn.trans (cw.len sig h)) hstack hW (by rw [hb]; exact hdg)
    (fun vm₁ hW₁ => ⟨hf.1, hf.2, hPc (T.setVm vm₁) hT hW₁⟩) with ⟨v, vm₁, ⟨U', l2, c2, s2⟩, hW₁, X', ⟨g', mk, t, L, e1, e2, hq, h1, hL, h2, h3⟩, st⟩ | ⟨q, vm₁, ⟨U', l2, c2, s2⟩, hW₁, X', ⟨g', mk, t, L, E, ce, e1, e2, hq, hce, hcv, hcl, h1, hL, h2, h3⟩, st⟩
  · dsimp only [Pt.U, Pt.locs, Pt.cells, Pt.slots] at X' e1 e2 h1 h2 h3 st
    subst h1; subst h2; subst h3
    exact Or.inl ⟨v, (T.setVm vm₁).calling g' mk (Value.ref b :: As).toArray, t, U', L, hT, X', hL, e1, e2, hq, st⟩
  · dsimp only [Pt.U, Pt.locs, Pt.cells, Pt.slots] at X' e1 e2 h1 h2 h3 st hcl
    subst h1; subst h2; subst h3
    exact Or.inr ⟨q, (T.setVm vm₁).calling g' mk (Value.ref b :: As).toArray, t, U', L, E, ce, hT, X', hL, e1, e2, hq, hce, hcv, vx_cls hW₁ hcl, st⟩
theorem vx_callFv {S SX : Type} {post : S → Prop} {px : SX → Prop} {B : S → State → Prop} {BX : String → SX → State → Prop} {AX : Nat → Prop} (hr : vx_Run5 p l e R s m args below meth c H locs cells slots mc ms (F0 m pc ls st0) rest (va_Qv post B A1 a) (vx_X px BX AX) free) (hS : va_S A0 H0 H locs) (hA : ∀ q, q < H.size → A1 q → A0 q) (hf : ∀ q, free q → A0 q) (hAX : ∀ q, q < H.size → AX q → A0 q)
    (kx : ∀ (E : String) (ce : Cell) (q9 : Addr) (u : SX) (t : State) (H1 : Heap) (locs1 : List Loc), t.heap = H1 → s.vm.Alike t.vm → px u → BX E u t → H.size ≤ H1.size → (∀ q : Nat, q < H.size → ¬ AX q → H1[q]? = H[q]?) → va_S A0 H0 H1 locs1 → H1[q9]? = some ce → ce.vm = .none → s.vm.findClass E = some ce.cls → vx_W p l e R s m args below meth c H1 locs1 (cells + mc) (slots + ms) Q (F0 m pc ls rest) q9)
    (kk : ∀ (u : S) (t : State) (H1 : Heap) (locs1 : List Loc), t.heap = H1 → s.vm.Alike t.vm → post u → B u t → H.size ≤ H1.size → (∀ q : Nat, q < H.size → ¬ A1 q → H1[q]? = H[q]?) → va_S A0 H0 H1 locs1 → W p l e R s m args below meth c H1 locs1 (cells + mc) (slots + ms) Q (F0 m (pc + 5) ls (rest))) : W p l e R s m args below meth c H locs cells slots Q (F0 m pc ls st0) := by
  intro T hT X
  rcases hr T hT X with ⟨v, st₀, t, T', L, h0, X', hL, e1, e2, ⟨⟨u, hv, hp, hb⟩, hF⟩, st⟩ | ⟨q, st₀, t, T', L, E, ce, h0, X', hL, e1, e2, ⟨u, hp, hb, hF⟩, hce, hcv, hcl, st⟩
  · cases hv
    obtain ⟨k1, k2, k3⟩ := vx_keep h0 e1 hS hA hf hL hF
    obtain ⟨t2, a1, b1⟩ := kk u t T'.heap (locs ++ L) e1.symm (by rw [← e2]; exact X'.warmed.alike) hp hb k1 k2 k3 T' rfl X'
    exact ⟨t2, st t2 a1, b1⟩
  · obtain ⟨k1, k2, k3⟩ := vx_keep h0 e1 hS hAX hf hL hF
    obtain ⟨t2, a1, b1⟩ := kx E ce q u t T'.heap (locs ++ L) e1.symm (by rw [← e2]; exact X'.warmed.alike) hp hb k1 k2 k3 (by rw [e1]; exact hce) hcv hcl T' rfl X'
    exact ⟨t2, st.trans a1, b1⟩
theorem vx_callFi {S SX : Type} {post : Int32 → S → Prop} {px : SX → Prop} {B : S → State → Prop} {BX : String → SX → State → Prop} {AX : Nat → Prop} (hr : vx_Run5 p l e R s m args below meth c H locs cells slots mc ms (F0 m pc ls st0) rest (va_Qi post B A1 a) (vx_X px BX AX) free) (hS : va_S A0 H0 H locs) (hA : ∀ q, q < H.size → A1 q → A0 q) (hf : ∀ q, free q → A0 q) (hAX : ∀ q, q < H.size → AX q → A0 q)
    (kx : ∀ (E : String) (ce : Cell) (q9 : Addr) (u : SX) (t : State) (H1 : Heap) (locs1 : List Loc), t.heap = H1 → s.vm.Alike t.vm → px u → BX E u t → H.size ≤ H1.size → (∀ q : Nat, q < H.size → ¬ AX q → H1[q]? = H[q]?) → va_S A0 H0 H1 locs1 → H1[q9]? = some ce → ce.vm = .none → s.vm.findClass E = some ce.cls → vx_W p l e R s m args below meth c H1 locs1 (cells + mc) (slots + ms) Q (F0 m pc ls rest) q9)
    (kk : ∀ (r : Int32) (u : S) (t : State) (H1 : Heap) (locs1 : List Loc), t.heap = H1 → s.vm.Alike t.vm → post r u → B u t → H.size ≤ H1.size → (∀ q : Nat, q < H.size → ¬ A1 q → H1[q]? = H[q]?) → va_S A0 H0 H1 locs1 → W p l e R s m args below meth c H1 locs1 (cells + mc) (slots + ms) Q (F0 m (pc + 5) ls (.int r :: rest))) : W p l e R s m args below meth c H locs cells slots Q (F0 m pc ls st0) := by
  intro T hT X
  rcases hr T hT X with ⟨v, st₀, t, T', L, h0, X', hL, e1, e2, ⟨⟨r, u, hv, hp, hb⟩, hF⟩, st⟩ | ⟨q, st₀, t, T', L, E, ce, h0, X', hL, e1, e2, ⟨u, hp, hb, hF⟩, hce, hcv, hcl, st⟩
  · cases hv
    obtain ⟨k1, k2, k3⟩ := vx_keep h0 e1 hS hA hf hL hF
    obtain ⟨t2, a1, b1⟩ := kk r u t T'.heap (locs ++ L) e1.symm (by rw [← e2]; exact X'.warmed.alike) hp hb k1 k2 k3 T' rfl X'
    exact ⟨t2, st t2 a1, b1⟩
  · obtain ⟨k1, k2, k3⟩ := vx_keep h0 e1 hS hAX hf hL hF
    obtain ⟨t2, a1, b1⟩ := kx E ce q u t T'.heap (locs ++ L) e1.symm (by rw [← e2]; exact X'.warmed.alike) hp hb k1 k2 k3 (by rw [e1]; exact hce) hcv hcl T' rfl X'
    exact ⟨t2, st.trans a1, b1⟩
theorem vx_callFl {S SX : Type} {post : Int64 → S → Prop} {px : SX → Prop} {B : S → State → Prop} {BX : String → SX → State → Prop} {AX : Nat → Prop} (hr : vx_Run5 p l e R s m args below meth c H locs cells slots mc ms (F0 m pc ls st0) rest (va_Ql post B A1 a) (vx_X px BX AX) free) (hS : va_S A0 H0 H locs) (hA : ∀ q, q < H.size → A1 q → A0 q) (hf : ∀ q, free q → A0 q) (hAX : ∀ q, q < H.size → AX q → A0 q)
    (kx : ∀ (E : String) (ce : Cell) (q9 : Addr) (u : SX) (t : State) (H1 : Heap) (locs1 : List Loc), t.heap = H1 → s.vm.Alike t.vm → px u → BX E u t → H.size ≤ H1.size → (∀ q : Nat, q < H.size → ¬ AX q → H1[q]? = H[q]?) → va_S A0 H0 H1 locs1 → H1[q9]? = some ce → ce.vm = .none → s.vm.findClass E = some ce.cls → vx_W p l e R s m args below meth c H1 locs1 (cells + mc) (slots + ms) Q (F0 m pc ls rest) q9)
    (kk : ∀ (r : Int64) (u : S) (t : State) (H1 : Heap) (locs1 : List Loc), t.heap = H1 → s.vm.Alike t.vm → post r u → B u t → H.size ≤ H1.size → (∀ q : Nat, q < H.size → ¬ A1 q → H1[q]? = H[q]?) → va_S A0 H0 H1 locs1 → W p l e R s m args below meth c H1 locs1 (cells + mc) (slots + ms) Q (F0 m (pc + 5) ls (.long r :: rest))) : W p l e R s m args below meth c H locs cells slots Q (F0 m pc ls st0) := by
  intro T hT X
  rcases hr T hT X with ⟨v, st₀, t, T', L, h0, X', hL, e1, e2, ⟨⟨r, u, hv, hp, hb⟩, hF⟩, st⟩ | ⟨q, st₀, t, T', L, E, ce, h0, X', hL, e1, e2, ⟨u, hp, hb, hF⟩, hce, hcv, hcl, st⟩
  · cases hv
    obtain ⟨k1, k2, k3⟩ := vx_keep h0 e1 hS hA hf hL hF
    obtain ⟨t2, a1, b1⟩ := kk r u t T'.heap (locs ++ L) e1.symm (by rw [← e2]; exact X'.warmed.alike) hp hb k1 k2 k3 T' rfl X'
    exact ⟨t2, st t2 a1, b1⟩
  · obtain ⟨k1, k2, k3⟩ := vx_keep h0 e1 hS hAX hf hL hF
    obtain ⟨t2, a1, b1⟩ := kx E ce q u t T'.heap (locs ++ L) e1.symm (by rw [← e2]; exact X'.warmed.alike) hp hb k1 k2 k3 (by rw [e1]; exact hce) hcv hcl T' rfl X'
    exact ⟨t2, st.trans a1, b1⟩
theorem vx_callFf {S SX : Type} {post : UInt32 → S → Prop} {px : SX → Prop} {B : S → State → Prop} {BX : String → SX → State → Prop} {AX : Nat → Prop} (hr : vx_Run5 p l e R s m args below meth c H locs cells slots mc ms (F0 m pc ls st0) rest (va_Qf post B A1 a) (vx_X px BX AX) free) (hS : va_S A0 H0 H locs) (hA : ∀ q, q < H.size → A1 q → A0 q) (hf : ∀ q, free q → A0 q) (hAX : ∀ q, q < H.size → AX q → A0 q)
    (kx : ∀ (E : String) (ce : Cell) (q9 : Addr) (u : SX) (t : State) (H1 : Heap) (locs1 : List Loc), t.heap = H1 → s.vm.Alike t.vm → px u → BX E u t → H.size ≤ H1.size → (∀ q : Nat, q < H.size → ¬ AX q → H1[q]? = H[q]?) → va_S A0 H0 H1 locs1 → H1[q9]? = some ce → ce.vm = .none → s.vm.findClass E = some ce.cls → vx_W p l e R s m args below meth c H1 locs1 (cells + mc) (slots + ms) Q (F0 m pc ls rest) q9)
    (kk : ∀ (r : UInt32) (u : S) (t : State) (H1 : Heap) (locs1 : List Loc), t.heap = H1 → s.vm.Alike t.vm → post r u → B u t → H.size ≤ H1.size → (∀ q : Nat, q < H.size → ¬ A1 q → H1[q]? = H[q]?) → va_S A0 H0 H1 locs1 → W p l e R s m args below meth c H1 locs1 (cells + mc) (slots + ms) Q (F0 m (pc + 5) ls (.float r :: rest))) : W p l e R s m args below meth c H locs cells slots Q (F0 m pc ls st0) := by
  intro T hT X
  rcases hr T hT X with ⟨v, st₀, t, T', L, h0, X', hL, e1, e2, ⟨⟨r, u, hv, hp, hb⟩, hF⟩, st⟩ | ⟨q, st₀, t, T', L, E, ce, h0, X', hL, e1, e2, ⟨u, hp, hb, hF⟩, hce, hcv, hcl, st⟩
  · cases hv
    obtain ⟨k1, k2, k3⟩ := vx_keep h0 e1 hS hA hf hL hF
    obtain ⟨t2, a1, b1⟩ := kk r u t T'.heap (locs ++ L) e1.symm (by rw [← e2]; exact X'.warmed.alike) hp hb k1 k2 k3 T' rfl X'
    exact ⟨t2, st t2 a1, b1⟩
  · obtain ⟨k1, k2, k3⟩ := vx_keep h0 e1 hS hAX hf hL hF
    obtain ⟨t2, a1, b1⟩ := kx E ce q u t T'.heap (locs ++ L) e1.symm (by rw [← e2]; exact X'.warmed.alike) hp hb k1 k2 k3 (by rw [e1]; exact hce) hcv hcl T' rfl X'
    exact ⟨t2, st.trans a1, b1⟩
theorem vx_callFd {S SX : Type} {post : UInt64 → S → Prop} {px : SX → Prop} {B : S → State → Prop} {BX : String → SX → State → Prop} {AX : Nat → Prop} (hr : vx_Run5 p l e R s m args below meth c H locs cells slots mc ms (F0 m pc ls st0) rest (va_Qd post B A1 a) (vx_X px BX AX) free) (hS : va_S A0 H0 H locs) (hA : ∀ q, q < H.size → A1 q → A0 q) (hf : ∀ q, free q → A0 q) (hAX : ∀ q, q < H.size → AX q → A0 q)
    (kx : ∀ (E : String) (ce : Cell) (q9 : Addr) (u : SX) (t : State) (H1 : Heap) (locs1 : List Loc), t.heap = H1 → s.vm.Alike t.vm → px u → BX E u t → H.size ≤ H1.size → (∀ q : Nat, q < H.size → ¬ AX q → H1[q]? = H[q]?) → va_S A0 H0 H1 locs1 → H1[q9]? = some ce → ce.vm = .none → s.vm.findClass E = some ce.cls → vx_W p l e R s m args below meth c H1 locs1 (cells + mc) (slots + ms) Q (F0 m pc ls rest) q9)
    (kk : ∀ (r : UInt64) (u : S) (t : State) (H1 : Heap) (locs1 : List Loc), t.heap = H1 → s.vm.Alike t.vm → post r u → B u t → H.size ≤ H1.size → (∀ q : Nat, q < H.size → ¬ A1 q → H1[q]? = H[q]?) → va_S A0 H0 H1 locs1 → W p l e R s m args below meth c H1 locs1 (cells + mc) (slots + ms) Q (F0 m (pc + 5) ls (.double r :: rest))) : W p l e R s m args below meth c H locs cells slots Q (F0 m pc ls st0) := by
  intro T hT X
  rcases hr T hT X with ⟨v, st₀, t, T', L, h0, X', hL, e1, e2, ⟨⟨r, u, hv, hp, hb⟩, hF⟩, st⟩ | ⟨q, st₀, t, T', L, E, ce, h0, X', hL, e1, e2, ⟨u, hp, hb, hF⟩, hce, hcv, hcl, st⟩
  · cases hv
    obtain ⟨k1, k2, k3⟩ := vx_keep h0 e1 hS hA hf hL hF
    obtain ⟨t2, a1, b1⟩ := kk r u t T'.heap (locs ++ L) e1.symm (by rw [← e2]; exact X'.warmed.alike) hp hb k1 k2 k3 T' rfl X'
    exact ⟨t2, st t2 a1, b1⟩
  · obtain ⟨k1, k2, k3⟩ := vx_keep h0 e1 hS hAX hf hL hF
    obtain ⟨t2, a1, b1⟩ := kx E ce q u t T'.heap (locs ++ L) e1.symm (by rw [← e2]; exact X'.warmed.alike) hp hb k1 k2 k3 (by rw [e1]; exact hce) hcv hcl T' rfl X'
    exact ⟨t2, st.trans a1, b1⟩
end
/-! ===== END ===== -/
/-! ===== BEGIN by an interface, a method with a table of its own that may throw (follows va_callIFW, va_runFW) ===== -/
section
variable {p : Program} {l : Launch} {e : Env} {R : Room} {s : State} {m : MethodId} {args : Array Value} {below : List Frame} {meth : Method} {c : Code} {H : Heap} {locs : List Loc} {cells slots : Nat}
theorem vx_callIFW {T : State} (X : Stand p l e R s m args below meth c T locs cells slots) (hexec : p.tables.exec = Jvm.exec) {own C : String} {index count : Nat} {x y : MethodName} {bytes : ByteArray} {maxL : Nat} {ret : Option FieldType} {hh : List (Nat × Nat × Nat × Nat)}
    (hown : s.vm.findClass own = some m.cls) (hlink : (Cond.methodLink own index x).before args s = true) (hdecl : (Cond.declares x).before args s = true) (hface : (Cond.interfaceMethod x.cls x.cls x.name x.desc).before args s = true)
    (hsel : (Cond.selects C x y).before args s = true) (hinst : (Cond.instanceMethod y).before args s = true) (hpub : (Cond.publicMethod y).before args s = true) (hunh : (Cond.unhidden C x.name x.desc).before args s = true)
    (hcast : (Cond.castable C x.cls).before args s = true) (hcode : (Cond.codeWith y bytes maxL ret hh).before args s = true) (hx : x.cls ≠ "java/lang/invoke/MethodHandle" ∧ x.cls ≠ "java/lang/invoke/VarHandle")
    {W : Nat} {Pre : Pt → Array Value → Prop} {Post : Pt → Array Value → Option Value → Pt → Prop} {PostX : Pt → Array Value → Addr → Pt → Prop} (hK : vx_Back l R p e below s args y 5 W Pre Post PostX)
    {b : Addr} {cellB : Cell} {kB : Class} (hcell : T.heap[b]? = some cellB) (hobj : cellB.vm.isStatics = false) (hcls : s.vm.findClass C = some cellB.cls) (hkB : s.vm.classes[cellB.cls]? = some kB)
    {g : JFrame} (hg : g.method = m) (hsize : g.locals.size = c.maxLocals) {argsL rest : List Value} (hlen : ∀ sig, parseMethodDescriptor x.desc = some sig → argsL.length = sig.parameters.length)
    (hstack : g.stack = argsL.reverse ++ .ref b :: rest) (hW : 2 * g.monitorRoom + (rest.map fun v => v.category).sum ≤ W) (hdg : decode c.code g.pc = .ok (.invokeinterface index count, 5))
    (hpre : ∀ vm₁, s.WarmedH vm₁ → Pre ⟨T.setVm vm₁, locs, cells, slots⟩ (Value.ref b :: argsL).toArray) :
    (∃ (v : Option Value) (vm₁ : Vm) (B : Pt), s.WarmedH vm₁ ∧ Stand p l e R s m args below meth c B.U B.locs B.cells B.slots ∧ Post ⟨T.setVm vm₁, locs, cells, slots⟩ (Value.ref b :: argsL).toArray v B ∧
      ∀ target, Steps p.tables e below (B.U.setTop { g with pc := g.pc + 5, stack := v.toList ++ rest }) target → Steps p.tables e below (T.setTop g) target) ∨
    (∃ (q : Addr) (vm₁ : Vm) (B : Pt), s.WarmedH vm₁ ∧ Stand p l e R s m args below meth c B.U B.locs B.cells B.slots ∧ PostX ⟨T.setVm vm₁, locs, cells, slots⟩ (Value.ref b :: argsL).toArray q B ∧
      Steps p.tables e below (T.setTop g) ((B.U.setTop { g with stack := rest }).pushFrame (.throwing q))) := by
  obtain ⟨r0, r, hn, hrm, hstR, hsigR⟩ := Cond.declares_spec hdecl
  obtain ⟨cL, kL, r1, hcL, hkL, hiL, hfoundL, hn1⟩ := Cond.interfaceMethod_spec hface
  cases hn.symm.trans hn1
  have hr0cls : r0.cls = cL := Option.some.inj ((findClass_of_methodNamed hn).symm.trans hcL)
  obtain ⟨hnameR, hdescR⟩ := name_of_methodNamed hn hrm
  obtain ⟨mk, methM, hnamed, hmethM, -, habM⟩ := Cond.instanceMethod_spec hinst
  obtain ⟨c2, r2, m2, q1, q2, q3, q4, -⟩ := Cond.selects_spec hsel
  cases hcls.symm.trans q1
  cases hfoundL.symm.trans q2
  cases hnamed.symm.trans q3
  have hselP : selectMethod e.platform s.vm cellB.cls r0 = .method mk := by rw [Launch.admits_selectMethod X.admits]; exact q4
  have hpubM : hasFlag methM.accessFlags Acc.public_ = true := Cond.publicMethod_spec hnamed hmethM hpub
  have hway : ((cellB.cls :: s.vm.superclasses cellB.cls).any fun k => (declaredIn s.vm r.name r.desc k).any fun (_, z) => z.isPrivate || z.isStatic) = false := by
    rw [hnameR, hdescR]; exact Cond.unhidden_spec hcls hunh
  obtain ⟨c3, t3, w1, w2, w3⟩ := Cond.castable_spec hcast
  cases hcls.symm.trans w1
  cases hcL.symm.trans w2
  obtain ⟨vm₁, X₁, hstep₁⟩ := X.invokeinterface hexec hown hlink hn hrm hstR (by rw [hr0cls]; exact hkL) hiL hx (a := b) (cell := cellB) (kcell := kB) hcell
    (fun z h => by rw [h] at hobj; cases hobj) hkB (by rw [hr0cls]; exact w3) hselP hmethM hway hpubM habM (g := g) hg (argsL := argsL) (rest := rest) (hlen _ hsigR) hstack hdg
  rcases hK m meth c ⟨T.setVm vm₁, locs, cells, slots⟩ { g with stack := rest } (.invokeinterface index count) mk (Value.ref b :: argsL).toArray X₁ hg hsize hdg hW (X₁.named hnamed) (hpre vm₁ X₁.warmed) with ⟨v, B, X', hpost, hsteps⟩ | ⟨q, B, X', hpost, hsteps⟩
  · exact Or.inl ⟨v, vm₁, B, X₁.warmed, X', hpost, fun target h => hstep₁ _ fun acts => by rw [doInvoke_state]; exact hsteps.trans h⟩
  · exact Or.inr ⟨q, vm₁, B, X₁.warmed, X', hpost, hstep₁ _ fun acts => by rw [doInvoke_state]; exact hsteps⟩
theorem vx_runFW {x y : MethodName} {bytes cc : ByteArray} {maxL nL mc ms n index count : Nat} {ret : Option FieldType} {hh : List (Nat × Nat × Nat × Nat)} {ws : List Cond} {rm : Room} {Pc : Array Value → State → Prop} {Qc : Array Value → State → Outcome → State → Prop} {XC : String → State → State → Prop} {free : Addr → Prop} {Ts : List Cond} {own C : String} {cC : ClassId} {b : Addr} {As rest : List Value} {g : JFrame}
    (hat : ClassAt s C cC) (S : CallFix p m c cc nL s args Ts own) (hM : vx_Met l y ws rm Pc Qc XC mc ms free) (cw : va_CIW R s args own C index x y bytes maxL ret hh ws rm mc ms n) (hp : PreV s H C b Pc As)
    (hg : g.method = m) (hn : As.length = n) (hsize : g.locals.size = nL) (hstack : g.stack = As.reverse ++ .ref b :: rest) (hW : 2 * g.monitorRoom + (rest.map fun v => v.category).sum ≤ 8) (hdg : decode cc g.pc = .ok (.invokeinterface index count, 5)) (hf : cells + mc ≤ R.cells ∧ slots + ms ≤ R.slots) :
    vx_Run5 p l e R s m args below meth c H locs cells slots mc ms g rest (Qc (Value.ref b :: As).toArray) XC free := by
  obtain ⟨hrc, hrs, hfr, hlo, hws, hcw⟩ := cw.back
  have hini := cw.init
  have hK : vx_Back l R p e below s args y 5 8 (PreOf R mc ms Pc) (PostOf Qc mc ms free) (vx_Post XC mc ms free) := vx_backW (hh := hh) (bytes := bytes) (maxL := maxL) (ret := ret) hM hp.1 hrc hrs hfr hlo hws hcw (fun a' U hW => word_at hW (Or.inl (by first | rfl | simp [Cond.onTables, Cond.keeps, Cond.steady])) hini)
  obtain ⟨hx, hb, hml, ho, -⟩ := S
  obtain ⟨-, ⟨cellB, hcB, hoB, hclB⟩, hPc⟩ := hp
  obtain ⟨hfc, kB, hkB, -⟩ := hat
  cases hfc.symm.trans hclB
  intro T hT X
  rcases vx_callIFW X hx (C := C) (hh := hh) (bytes := bytes) (maxL := maxL) (ret := ret) ho cw.link cw.decl cw.face cw.sel cw.inst cw.pub cw.unh cw.cast cw.code cw.notMH hK (by rw [hT]; exact hcB) hoB hclB hkB hg (hsize.trans hml.symm) (argsL := As) (rest := rest) (fun sig h => hn.trans (cw.len sig h)) hstack hW (by rw [hb]; exact hdg)
    (fun vm₁ hW₁ => ⟨hf.1, hf.2, hPc (T.setVm vm₁) hT hW₁⟩) with ⟨v, vm₁, ⟨U', l2, c2, s2⟩, hW₁, X', ⟨g', mk, t, L, e1, e2, hq, h1, hL, h2, h3⟩, st⟩ | ⟨q, vm₁, ⟨U', l2, c2, s2⟩, hW₁, X', ⟨g', mk, t, L, E, ce, e1, e2, hq, hce, hcv, hcl, h1, hL, h2, h3⟩, st⟩
  · dsimp only [Pt.U, Pt.locs, Pt.cells, Pt.slots] at X' e1 e2 h1 h2 h3 st
    subst h1; subst h2; subst h3
    exact Or.inl ⟨v, (T.setVm vm₁).calling g' mk (Value.ref b :: As).toArray, t, U', L, hT, X', hL, e1, e2, hq, st⟩
  · dsimp only [Pt.U, Pt.locs, Pt.cells, Pt.slots] at X' e1 e2 h1 h2 h3 st hcl
    subst h1; subst h2; subst h3
    exact Or.inr ⟨q, (T.setVm vm₁).calling g' mk (Value.ref b :: As).toArray, t, U', L, E, ce, hT, X', hL, e1, e2, hq, hce, hcv, vx_cls hW₁ hcl, st⟩
end
/-! ===== END ===== -/
/-! ===== BEGIN .. of methods that hand back an object of the pool ===== -/
section
variable {p : Program} {l : Launch} {e : Env} {R : Room} {s : State} {m : MethodId} {args : Array Value} {below : List Frame} {meth : Method} {c : Code} {H : Heap} {locs : List Loc} {cells slots : Nat} {Q : State → Prop}
variable {mc ms : Nat} {free : Addr → Prop} {A0 A1 : Nat → Prop} {H0 : Heap} {a : Array Value} {pc : Nat} {ls : Array Slot} {st0 rest : List Value}
theorem vx_callq {S SX : Type} {post : Option Nat → S → Prop} {px : SX → Prop} {B : S → State → Prop} {BX : String → SX → State → Prop} {AX : Nat → Prop} (hr : vx_Run p l e R s m args below meth c H locs cells slots mc ms (F0 m pc ls st0) rest (va_Qq post B A1 a) (vx_X px BX AX) free) (hS : va_S A0 H0 H locs) (hA : ∀ q, q < H.size → A1 q → A0 q) (hf : ∀ q, free q → A0 q) (hAX : ∀ q, q < H.size → AX q → A0 q)
    (kx : ∀ (E : String) (ce : Cell) (q9 : Addr) (u : SX) (t : State) (H1 : Heap) (locs1 : List Loc), t.heap = H1 → s.vm.Alike t.vm → px u → BX E u t → H.size ≤ H1.size → (∀ q : Nat, q < H.size → ¬ AX q → H1[q]? = H[q]?) → va_S A0 H0 H1 locs1 → H1[q9]? = some ce → ce.vm = .none → s.vm.findClass E = some ce.cls → vx_W p l e R s m args below meth c H1 locs1 (cells + mc) (slots + ms) Q (F0 m pc ls rest) q9)
    (kk : ∀ (r : Option Nat) (u : S) (t : State) (H1 : Heap) (locs1 : List Loc), t.heap = H1 → s.vm.Alike t.vm → post r u → B u t → H.size ≤ H1.size → (∀ q : Nat, q < H.size → ¬ A1 q → H1[q]? = H[q]?) → va_S A0 H0 H1 locs1 → W p l e R s m args below meth c H1 locs1 (cells + mc) (slots + ms) Q (F0 m (pc + 3) ls (va_rf r :: rest))) : W p l e R s m args below meth c H locs cells slots Q (F0 m pc ls st0) := by
  intro T hT X
  rcases hr T hT X with ⟨v, st₀, t, T', L, h0, X', hL, e1, e2, ⟨⟨r, u, hv, hp, hb⟩, hF⟩, st⟩ | ⟨q, st₀, t, T', L, E, ce, h0, X', hL, e1, e2, ⟨u, hp, hb, hF⟩, hce, hcv, hcl, st⟩
  · cases hv
    obtain ⟨k1, k2, k3⟩ := vx_keep h0 e1 hS hA hf hL hF
    obtain ⟨t2, a1, b1⟩ := kk r u t T'.heap (locs ++ L) e1.symm (by rw [← e2]; exact X'.warmed.alike) hp hb k1 k2 k3 T' rfl X'
    exact ⟨t2, st t2 a1, b1⟩
  · obtain ⟨k1, k2, k3⟩ := vx_keep h0 e1 hS hAX hf hL hF
    obtain ⟨t2, a1, b1⟩ := kx E ce q u t T'.heap (locs ++ L) e1.symm (by rw [← e2]; exact X'.warmed.alike) hp hb k1 k2 k3 (by rw [e1]; exact hce) hcv hcl T' rfl X'
    exact ⟨t2, st.trans a1, b1⟩
end
/-! ===== END ===== -/
/-! ===== BEGIN .. a constant ===== -/
section
variable {p : Program} {l : Launch} {e : Env} {R : Room} {s : State} {m : MethodId} {args : Array Value} {below : List Frame} {meth : Method} {c : Code} {H : Heap} {locs : List Loc} {cells slots : Nat} {Q : State → Prop}
variable {mc ms : Nat} {free : Addr → Prop} {A0 A1 : Nat → Prop} {H0 : Heap} {a : Array Value} {pc : Nat} {ls : Array Slot} {st0 rest : List Value}
theorem vx_calle {ad : Nat → Nat} {S SX : Type} {post : Option Nat → S → Prop} {px : SX → Prop} {B : S → State → Prop} {BX : String → SX → State → Prop} {AX : Nat → Prop} (hr : vx_Run p l e R s m args below meth c H locs cells slots mc ms (F0 m pc ls st0) rest (va_Qe ad post B A1 a) (vx_X px BX AX) free) (hS : va_S A0 H0 H locs) (hA : ∀ q, q < H.size → A1 q → A0 q) (hf : ∀ q, free q → A0 q) (hAX : ∀ q, q < H.size → AX q → A0 q)
    (kx : ∀ (E : String) (ce : Cell) (q9 : Addr) (u : SX) (t : State) (H1 : Heap) (locs1 : List Loc), t.heap = H1 → s.vm.Alike t.vm → px u → BX E u t → H.size ≤ H1.size → (∀ q : Nat, q < H.size → ¬ AX q → H1[q]? = H[q]?) → va_S A0 H0 H1 locs1 → H1[q9]? = some ce → ce.vm = .none → s.vm.findClass E = some ce.cls → vx_W p l e R s m args below meth c H1 locs1 (cells + mc) (slots + ms) Q (F0 m pc ls rest) q9)
    (kk : ∀ (r : Option Nat) (u : S) (t : State) (H1 : Heap) (locs1 : List Loc), t.heap = H1 → s.vm.Alike t.vm → post r u → B u t → H.size ≤ H1.size → (∀ q : Nat, q < H.size → ¬ A1 q → H1[q]? = H[q]?) → va_S A0 H0 H1 locs1 → W p l e R s m args below meth c H1 locs1 (cells + mc) (slots + ms) Q (F0 m (pc + 3) ls (va_re ad r :: rest))) : W p l e R s m args below meth c H locs cells slots Q (F0 m pc ls st0) := by
  intro T hT X
  rcases hr T hT X with ⟨v, st₀, t, T', L, h0, X', hL, e1, e2, ⟨⟨r, u, hv, hp, hb⟩, hF⟩, st⟩ | ⟨q, st₀, t, T', L, E, ce, h0, X', hL, e1, e2, ⟨u, hp, hb, hF⟩, hce, hcv, hcl, st⟩
  · cases hv
    obtain ⟨k1, k2, k3⟩ := vx_keep h0 e1 hS hA hf hL hF
    obtain ⟨t2, a1, b1⟩ := kk r u t T'.heap (locs ++ L) e1.symm (by rw [← e2]; exact X'.warmed.alike) hp hb k1 k2 k3 T' rfl X'
    exact ⟨t2, st t2 a1, b1⟩
  · obtain ⟨k1, k2, k3⟩ := vx_keep h0 e1 hS hAX hf hL hF
    obtain ⟨t2, a1, b1⟩ := kx E ce q u t T'.heap (locs ++ L) e1.symm (by rw [← e2]; exact X'.warmed.alike) hp hb k1 k2 k3 (by rw [e1]; exact hce) hcv hcl T' rfl X'
    exact ⟨t2, st.trans a1, b1⟩
end
/-! ===== END ===== -/
/-! ===== BEGIN .. by an interface, an object ===== -/
section
variable {p : Program} {l : Launch} {e : Env} {R : Room} {s : State} {m : MethodId} {args : Array Value} {below : List Frame} {meth : Method} {c : Code} {H : Heap} {locs : List Loc} {cells slots : Nat} {Q : State → Prop}
variable {mc ms : Nat} {free : Addr → Prop} {A0 A1 : Nat → Prop} {H0 : Heap} {a : Array Value} {pc : Nat} {ls : Array Slot} {st0 rest : List Value}
theorem vx_callFq {S SX : Type} {post : Option Nat → S → Prop} {px : SX → Prop} {B : S → State → Prop} {BX : String → SX → State → Prop} {AX : Nat → Prop} (hr : vx_Run5 p l e R s m args below meth c H locs cells slots mc ms (F0 m pc ls st0) rest (va_Qq post B A1 a) (vx_X px BX AX) free) (hS : va_S A0 H0 H locs) (hA : ∀ q, q < H.size → A1 q → A0 q) (hf : ∀ q, free q → A0 q) (hAX : ∀ q, q < H.size → AX q → A0 q)
    (kx : ∀ (E : String) (ce : Cell) (q9 : Addr) (u : SX) (t : State) (H1 : Heap) (locs1 : List Loc), t.heap = H1 → s.vm.Alike t.vm → px u → BX E u t → H.size ≤ H1.size → (∀ q : Nat, q < H.size → ¬ AX q → H1[q]? = H[q]?) → va_S A0 H0 H1 locs1 → H1[q9]? = some ce → ce.vm = .none → s.vm.findClass E = some ce.cls → vx_W p l e R s m args below meth c H1 locs1 (cells + mc) (slots + ms) Q (F0 m pc ls rest) q9)
    (kk : ∀ (r : Option Nat) (u : S) (t : State) (H1 : Heap) (locs1 : List Loc), t.heap = H1 → s.vm.Alike t.vm → post r u → B u t → H.size ≤ H1.size → (∀ q : Nat, q < H.size → ¬ A1 q → H1[q]? = H[q]?) → va_S A0 H0 H1 locs1 → W p l e R s m args below meth c H1 locs1 (cells + mc) (slots + ms) Q (F0 m (pc + 5) ls (va_rf r :: rest))) : W p l e R s m args below meth c H locs cells slots Q (F0 m pc ls st0) := by
  intro T hT X
  rcases hr T hT X with ⟨v, st₀, t, T', L, h0, X', hL, e1, e2, ⟨⟨r, u, hv, hp, hb⟩, hF⟩, st⟩ | ⟨q, st₀, t, T', L, E, ce, h0, X', hL, e1, e2, ⟨u, hp, hb, hF⟩, hce, hcv, hcl, st⟩
  · cases hv
    obtain ⟨k1, k2, k3⟩ := vx_keep h0 e1 hS hA hf hL hF
    obtain ⟨t2, a1, b1⟩ := kk r u t T'.heap (locs ++ L) e1.symm (by rw [← e2]; exact X'.warmed.alike) hp hb k1 k2 k3 T' rfl X'
    exact ⟨t2, st t2 a1, b1⟩
  · obtain ⟨k1, k2, k3⟩ := vx_keep h0 e1 hS hAX hf hL hF
    obtain ⟨t2, a1, b1⟩ := kx E ce q u t T'.heap (locs ++ L) e1.symm (by rw [← e2]; exact X'.warmed.alike) hp hb k1 k2 k3 (by rw [e1]; exact hce) hcv hcl T' rfl X'
    exact ⟨t2, st.trans a1, b1⟩
end
/-! ===== END ===== -/
/-! ===== BEGIN .. by an interface, a constant ===== -/
section
variable {p : Program} {l : Launch} {e : Env} {R : Room} {s : State} {m : MethodId} {args : Array Value} {below : List Frame} {meth : Method} {c : Code} {H : Heap} {locs : List Loc} {cells slots : Nat} {Q : State → Prop}
variable {mc ms : Nat} {free : Addr → Prop} {A0 A1 : Nat → Prop} {H0 : Heap} {a : Array Value} {pc : Nat} {ls : Array Slot} {st0 rest : List Value}
theorem vx_callFe {ad : Nat → Nat} {S SX : Type} {post : Option Nat → S → Prop} {px : SX → Prop} {B : S → State → Prop} {BX : String → SX → State → Prop} {AX : Nat → Prop} (hr : vx_Run5 p l e R s m args below meth c H locs cells slots mc ms (F0 m pc ls st0) rest (va_Qe ad post B A1 a) (vx_X px BX AX) free) (hS : va_S A0 H0 H locs) (hA : ∀ q, q < H.size → A1 q → A0 q) (hf : ∀ q, free q → A0 q) (hAX : ∀ q, q < H.size → AX q → A0 q)
    (kx : ∀ (E : String) (ce : Cell) (q9 : Addr) (u : SX) (t : State) (H1 : Heap) (locs1 : List Loc), t.heap = H1 → s.vm.Alike t.vm → px u → BX E u t → H.size ≤ H1.size → (∀ q : Nat, q < H.size → ¬ AX q → H1[q]? = H[q]?) → va_S A0 H0 H1 locs1 → H1[q9]? = some ce → ce.vm = .none → s.vm.findClass E = some ce.cls → vx_W p l e R s m args below meth c H1 locs1 (cells + mc) (slots + ms) Q (F0 m pc ls rest) q9)
    (kk : ∀ (r : Option Nat) (u : S) (t : State) (H1 : Heap) (locs1 : List Loc), t.heap = H1 → s.vm.Alike t.vm → post r u → B u t → H.size ≤ H1.size → (∀ q : Nat, q < H.size → ¬ A1 q → H1[q]? = H[q]?) → va_S A0 H0 H1 locs1 → W p l e R s m args below meth c H1 locs1 (cells + mc) (slots + ms) Q (F0 m (pc + 5) ls (va_re ad r :: rest))) : W p l e R s m args below meth c H locs cells slots Q (F0 m pc ls st0) := by
  intro T hT X
  rcases hr T hT X with ⟨v, st₀, t, T', L, h0, X', hL, e1, e2, ⟨⟨r, u, hv, hp, hb⟩, hF⟩, st⟩ | ⟨q, st₀, t, T', L, E, ce, h0, X', hL, e1, e2, ⟨u, hp, hb, hF⟩, hce, hcv, hcl, st⟩
  · cases hv
    obtain ⟨k1, k2, k3⟩ := vx_keep h0 e1 hS hA hf hL hF
    obtain ⟨t2, a1, b1⟩ := kk r u t T'.heap (locs ++ L) e1.symm (by rw [← e2]; exact X'.warmed.alike) hp hb k1 k2 k3 T' rfl X'
    exact ⟨t2, st t2 a1, b1⟩
  · obtain ⟨k1, k2, k3⟩ := vx_keep h0 e1 hS hAX hf hL hF
    obtain ⟨t2, a1, b1⟩ := kx E ce q u t T'.heap (locs ++ L) e1.symm (by rw [← e2]; exact X'.warmed.alike) hp hb k1 k2 k3 (by rw [e1]; exact hce) hcv hcl T' rfl X'
    exact ⟨t2, st.trans a1, b1⟩
end
/-! ===== END ===== -/
/-! ===== BEGIN what the machine throws by itself: null at a field, at athrow ===== -/
section VXM2
variable {p : Program} {l : Launch} {e : Env} {R : Room} {s : State} {m : MethodId} {args : Array Value} {below : List Frame} {meth : Method} {c : Code} {H : Heap} {locs : List Loc} {cells slots : Nat}
variable {Q : State → Prop} {cc : ByteArray} {pc : Nat} {ls : Array Slot} {rest : List Value}
theorem vx_getfN {D cl tys} {own ref C : String} {T : u_T} {N ci index : Nat} {Ts : List Cond} (hexec : p.tables.exec = Jvm.exec) (hb : c.code = cc) (hts : ∀ w ∈ Ts, w.before args s = true) (hin : ∀ w ∈ u_ws C T N, w ∈ Ts) (hown : s.vm.findClass own = some m.cls) (hK : va_K D cl tys s) (hc : cl[ci]? = some (C, T, N)) (k : Nat) (hk : k < N) (hlink : (Cond.fieldLink own index ref (T k).2.1 (T k).2.2.1).before args s = true) (hsame : ∀ x, s.fieldFound? (T k).1 (T k).2.1 (T k).2.2.1 = some x → s.fieldFound? ref (T k).2.1 (T k).2.2.1 = some x) (hdg : decode cc pc = .ok (.getfield index, 3)) (kk : vx_NoteN p l e R s m args below meth c H locs cells slots Q (F0 m pc ls rest)) : W p l e R s m args below meth c H locs cells slots Q (F0 m pc ls (.null :: rest)) := by
  obtain ⟨hS, hfc, kC, hkC, -⟩ := hK.1 ci _ hc
  obtain ⟨cf, kf, fi, f, hi, -⟩ := hS k hk
  intro U hU X
  obtain ⟨vm', X1, st1⟩ := X.getfieldNull hexec hown hlink (hsame _ hi) (u_facts hfc hkC (u_lays hts hin hk) hi).1 (g := F0 m pc ls (.null :: rest)) rfl (rest := rest) rfl (by rw [hb]; exact hdg)
  obtain ⟨t, st, q⟩ := kk (U.setVm vm') hU X1
  exact ⟨t, st1 t st, q⟩
theorem vx_getfNN {D cl tys} {own ref C host : String} {T : u_T} {N ci index : Nat} {Ts : List Cond} (hexec : p.tables.exec = Jvm.exec) (hb : c.code = cc) (hts : ∀ w ∈ Ts, w.before args s = true) (hin : ∀ w ∈ u_ws C T N, w ∈ Ts) (hown : s.vm.findClass own = some m.cls) (hK : va_K D cl tys s) (hc : cl[ci]? = some (C, T, N)) (k : Nat) (hk : k < N) (hlink : (Cond.fieldLinkNest own index ref (T k).2.1 (T k).2.2.1 host).before args s = true) (hsame : ∀ x, s.fieldFound? (T k).1 (T k).2.1 (T k).2.2.1 = some x → s.fieldFound? ref (T k).2.1 (T k).2.2.1 = some x) (hdg : decode cc pc = .ok (.getfield index, 3)) (kk : vx_NoteN p l e R s m args below meth c H locs cells slots Q (F0 m pc ls rest)) : W p l e R s m args below meth c H locs cells slots Q (F0 m pc ls (.null :: rest)) := by
  obtain ⟨hS, hfc, kC, hkC, -⟩ := hK.1 ci _ hc
  obtain ⟨cf, kf, fi, f, hi, -⟩ := hS k hk
  intro U hU X
  obtain ⟨vm', X1, st1⟩ := X.getfieldNullNest hexec hown hlink (hsame _ hi) (u_facts hfc hkC (u_lays hts hin hk) hi).1 (g := F0 m pc ls (.null :: rest)) rfl (rest := rest) rfl (by rw [hb]; exact hdg)
  obtain ⟨t, st, q⟩ := kk (U.setVm vm') hU X1
  exact ⟨t, st1 t st, q⟩
theorem vx_putfN {D cl tys} {own ref C : String} {T : u_T} {N ci index : Nat} {Ts : List Cond} (hexec : p.tables.exec = Jvm.exec) (hb : c.code = cc) (hts : ∀ w ∈ Ts, w.before args s = true) (hin : ∀ w ∈ u_ws C T N, w ∈ Ts) (hown : s.vm.findClass own = some m.cls) (hK : va_K D cl tys s) (hc : cl[ci]? = some (C, T, N)) (k : Nat) (hk : k < N) (hlink : (Cond.fieldLink own index ref (T k).2.1 (T k).2.2.1).before args s = true) (hsame : ∀ x, s.fieldFound? (T k).1 (T k).2.1 (T k).2.2.1 = some x → s.fieldFound? ref (T k).2.1 (T k).2.2.1 = some x) (hfin : (T k).2.2.2 = false) {v : Value} (hdg : decode cc pc = .ok (.putfield index, 3)) (kk : vx_NoteN p l e R s m args below meth c H locs cells slots Q (F0 m pc ls rest)) : W p l e R s m args below meth c H locs cells slots Q (F0 m pc ls (v :: .null :: rest)) := by
  obtain ⟨hS, hfc, kC, hkC, -⟩ := hK.1 ci _ hc
  obtain ⟨cf, kf, fi, f, hi, -⟩ := hS k hk
  have hlay := hts _ (hin _ (u_in_lay hk))
  unfold u_lay at hlay
  rw [if_neg (by rw [hfin]; decide)] at hlay
  obtain ⟨c9, k9, cf9, kf9, fi9, f9, -, -, hi9, hst9, hnf9, -⟩ := Cond.lays_spec hlay
  cases hi.symm.trans hi9
  intro U hU X
  obtain ⟨vm', X1, st1⟩ := X.putfieldNull hexec hown hlink (hsame _ hi) hst9 hnf9 (g := F0 m pc ls (v :: .null :: rest)) rfl (v := v) (rest := rest) rfl (by rw [hb]; exact hdg)
  obtain ⟨t, st, q⟩ := kk (U.setVm vm') hU X1
  exact ⟨t, st1 t st, q⟩
theorem vx_putfNN {D cl tys} {own ref C host : String} {T : u_T} {N ci index : Nat} {Ts : List Cond} (hexec : p.tables.exec = Jvm.exec) (hb : c.code = cc) (hts : ∀ w ∈ Ts, w.before args s = true) (hin : ∀ w ∈ u_ws C T N, w ∈ Ts) (hown : s.vm.findClass own = some m.cls) (hK : va_K D cl tys s) (hc : cl[ci]? = some (C, T, N)) (k : Nat) (hk : k < N) (hlink : (Cond.fieldLinkNest own index ref (T k).2.1 (T k).2.2.1 host).before args s = true) (hsame : ∀ x, s.fieldFound? (T k).1 (T k).2.1 (T k).2.2.1 = some x → s.fieldFound? ref (T k).2.1 (T k).2.2.1 = some x) (hfin : (T k).2.2.2 = false) {v : Value} (hdg : decode cc pc = .ok (.putfield index, 3)) (kk : vx_NoteN p l e R s m args below meth c H locs cells slots Q (F0 m pc ls rest)) : W p l e R s m args below meth c H locs cells slots Q (F0 m pc ls (v :: .null :: rest)) := by
  obtain ⟨hS, hfc, kC, hkC, -⟩ := hK.1 ci _ hc
  obtain ⟨cf, kf, fi, f, hi, -⟩ := hS k hk
  have hlay := hts _ (hin _ (u_in_lay hk))
  unfold u_lay at hlay
  rw [if_neg (by rw [hfin]; decide)] at hlay
  obtain ⟨c9, k9, cf9, kf9, fi9, f9, -, -, hi9, hst9, hnf9, -⟩ := Cond.lays_spec hlay
  cases hi.symm.trans hi9
  intro U hU X
  obtain ⟨vm', X1, st1⟩ := X.putfieldNullNest hexec hown hlink (hsame _ hi) hst9 hnf9 (g := F0 m pc ls (v :: .null :: rest)) rfl (v := v) (rest := rest) rfl (by rw [hb]; exact hdg)
  obtain ⟨t, st, q⟩ := kk (U.setVm vm') hU X1
  exact ⟨t, st1 t st, q⟩
theorem vx_athrowN (hexec : p.tables.exec = Jvm.exec) (hb : c.code = cc) (hdg : decode cc pc = .ok (.athrow, 1)) (k : vx_NoteN p l e R s m args below meth c H locs cells slots Q (F0 m pc ls rest)) : W p l e R s m args below meth c H locs cells slots Q (F0 m pc ls (.null :: rest)) := by
  intro T hT X
  obtain ⟨t, st, q⟩ := k T hT X
  exact ⟨t, X.athrowNull hexec (g := F0 m pc ls (.null :: rest)) rfl (rest := rest) rfl (by rw [hb]; exact hdg) t st, q⟩
end VXM2
/-! ===== END ===== -/
/-- the table's word of arrays of arrays (the row va_mna wants it) -/
def va_AOA (t : FieldType) (U : State) : Prop := (Cond.arrayOver (.array t)).before #[] U = true
theorem va_AOA.of {t : FieldType} {A : Array Value} {U : State} (h : (Cond.arrayOver (.array t)).before A U = true) : va_AOA t U := h
theorem va_AOA.use {t : FieldType} {A : Array Value} {U : State} (h : va_AOA t U) : (Cond.arrayOver (.array t)).before A U = true := h
/-! ===== BEGIN new T[n][m]: the outer array a place, the inner ones among the pooled ===== -/
/-- f, but v at every address of l -/
def vr_up {α : Type} (f : Nat → α) (l : List Nat) (v : α) : Nat → α := fun a => if a ∈ l then v else f a
theorem vr_up_in {α : Type} {f : Nat → α} {l : List Nat} {v : α} {a : Nat} (h : a ∈ l) : vr_up f l v a = v := if_pos h
theorem vr_up_ne {α : Type} {f : Nat → α} {l : List Nat} {v : α} {a : Nat} (h : a ∉ l) : vr_up f l v a = f a := if_neg h
theorem vr_rows {L l : List Nat} {f : Nat → va_E} {e : va_E} (h : ∀ a, a ∈ l → a ∉ L) : va_pl L f ++ l.map (fun a => (a, e)) = va_pl (L ++ l) (vr_up f l e) := by
  unfold va_pl
  rw [List.map_append]
  congr 1
  · apply List.map_congr_left
    intro a ha
    rw [vr_up_ne (fun q => h a q ha)]
  · apply List.map_congr_left
    intro a ha
    rw [vr_up_in ha]
theorem vr_lay {X rows : va_W} {x : Nat × va_E} {pl : va_W} {D : va_G} {cl : List vw_C} {H : Heap} (hP : va_P D cl (((X ++ pl) ++ [x]) ++ rows) H) : va_P D cl ((X ++ [x]) ++ (pl ++ rows)) H := by
  rw [List.append_assoc (X ++ pl)] at hP
  have h := va_P.swap hP
  rw [← List.append_assoc X] at h
  have h2 := va_P.swap h
  rw [List.append_assoc (X ++ [x])] at h2
  exact h2
theorem vr_layD {X rows : va_W} {x : Nat × va_E} {pl : va_W} {A : Nat → Prop} (hD : va_D A (((X ++ pl) ++ [x]) ++ rows)) : va_D A ((X ++ [x]) ++ (pl ++ rows)) := by
  rw [List.append_assoc (X ++ pl)] at hD
  have h := va_D.swap hD
  rw [← List.append_assoc X] at h
  have h2 := va_D.swap h
  rw [List.append_assoc (X ++ [x])] at h2
  exact h2
theorem vr_outer (c : ClassId) (N h0 : Nat) : ∀ i : Nat, Jvm.Free.Multi.outerC c N h0 i = arrV c N (fun j => va_rf (if j < i then some (h0 + 1 + j) else none))
  | 0 => by
    show ({ cls := c, slots := Array.replicate N .null, vm := .none } : Cell) = _
    rw [arrV_new]
    refine congrArg (arrV c N) (funext fun j => ?_)
    simp [va_rf]
  | i + 1 => by
    show (Jvm.Free.Multi.outerC c N h0 i).setSlot i (.ref (h0 + 1 + i)) = _
    rw [vr_outer c N h0 i, arrV_store]
    refine congrArg (arrV c N) (funext fun j => ?_)
    by_cases e : j = i
    · subst e
      simp [updV, va_rf]
    · by_cases h : j < i
      · simp [updV, e, h, Nat.lt_succ_of_lt h]
      · simp [updV, e, h, show ¬ j < i + 1 by omega]
section VGM
variable {p : Program} {l : Launch} {e : Env} {R : Room} {s : State} {m : MethodId} {args : Array Value} {below : List Frame} {meth : Method} {c : Code} {H : Heap} {locs : List Loc} {cells slots : Nat} {Q : State → Prop}
variable {cc : ByteArray} {pc : Nat} {ls : Array Slot} {rest : List Value} {D : va_G} {cl : List vw_C} {A : Nat → Prop} {a : Nat} {tys : List (ClassId × FieldType)} {ws : va_W} {H0 : Heap}
theorem va_mna {X : va_W} {L : List Nat} {f : Nat → va_E} {cc : ByteArray} (hexec : p.tables.exec = Jvm.exec) (hb : c.code = cc) {own : String} {index : Nat} {ty : FieldType} {cy : ClassId} (hown : s.vm.findClass own = some m.cls) (hclink : (Cond.classLink own index ("[" ++ (FieldType.array ty).toString)).before args s = true) (hover : va_AOA ty s) (harr : (Cond.arrayClass ty).before args s = true) (hcy : s.vm.findClass (FieldType.array ty).toString = some cy)
    (hK : va_K D cl tys s) (hP : va_P D cl (X ++ va_pl L f) H) (hD : va_D A (X ++ va_pl L f)) (hS : va_S A H0 H locs) (hA : ∀ q, H0.size ≤ q → A q) {n k : Int32} {N' K' : Nat} {z : vp_A} (hn : ¬ n < 0) (hk : ¬ k < 0) (hN : n.toNatClampNeg = N') (hM : k.toNatClampNeg = K')
    (hb1 : N' * 4 ≤ 536870912) (hb2 : K' * componentBytes ty ≤ 536870912) (hb3 : K' ≤ 536870912) (hdf : fits ty (defaultValue ty) = true) (hdd : (defaultValue ty).isDefault = true) (hcells : cells + (1 + N') ≤ R.cells) (hslots : slots + (N' + N' * K') ≤ R.slots) (hz : ∀ c : ClassId, Jvm.Free.Multi.innerC c K' (defaultValue ty) = vp_cell c z) (hdg : decode cc pc = .ok (.multianewarray index 2, 4))
    (kk : ∀ (q : Nat) (r : Nat → Nat) (cA : ClassId) (H1 : Heap), (∀ i j : Nat, i < N' → j < N' → r i = r j → i = j) → (∀ i : Nat, i < N' → r i ∉ L) → va_K D cl (tys ++ [(cA, .array ty)]) s →
      va_P D cl ((X ++ [(q, .inl (cA, N', .inr (.inr (.inr (.inr (fun i => if i < N' then some (r i) else none))))))]) ++ va_pl (L ++ (List.range N').map r) (vr_up f ((List.range N').map r) (.inl (cy, z)))) H1 → va_D A ((X ++ [(q, .inl (cA, N', .inr (.inr (.inr (.inr (fun i => if i < N' then some (r i) else none))))))]) ++ va_pl (L ++ (List.range N').map r) (vr_up f ((List.range N').map r) (.inl (cy, z)))) → va_S A H0 H1 locs →
      W p l e R s m args below meth c H1 locs (cells + 1 + N') (slots + N' + N' * K') Q (F0 m (pc + 4) ls (.ref q :: rest))) : W p l e R s m args below meth c H locs cells slots Q (F0 m pc ls (.int k :: .int n :: rest)) := by
  subst hN
  subst hM
  intro T hT Xs
  obtain ⟨vm₁, cA, comp, -, fA, fC, hO, -, X', step⟩ := Xs.multianewarray2F hexec hown hclink (va_AOA.use hover) harr (g := F0 m pc ls (.int k :: .int n :: rest)) rfl (by rw [hb]; exact hdg) rfl hn hk hb1 hb2 hb3 hdf hdd hcells hslots
  have ec : some cy = some comp := hcy.symm.trans fC
  cases ec
  generalize hF : Jvm.Free.Multi.fill (T.setVm vm₁) cA cy n.toNatClampNeg k.toNatClampNeg (defaultValue ty) n.toNatClampNeg = F at X' step
  have hTh : (T.setVm vm₁).heap = H := hT
  obtain ⟨f1, f2, -, -⟩ := Jvm.Free.Multi.fill_facts (T.setVm vm₁) cA cy n.toNatClampNeg k.toNatClampNeg (defaultValue ty) n.toNatClampNeg
  rw [hF, hTh] at f1 f2
  have hold : ∀ x : Nat, x < H.size → F.heap[x]? = H[x]? := fun x hx => by
    have := Jvm.Free.Multi.fill_old (T.setVm vm₁) cA cy n.toNatClampNeg k.toNatClampNeg (defaultValue ty) (a := x) (by rw [hTh]; exact hx) n.toNatClampNeg
    rw [hF, hTh] at this
    exact this
  have hrow : ∀ j : Nat, j < n.toNatClampNeg → F.heap[H.size + 1 + j]? = some (vp_cell cy z) := fun j hj => by
    have := Jvm.Free.Multi.fill_inner (T.setVm vm₁) cA cy n.toNatClampNeg k.toNatClampNeg (defaultValue ty) n.toNatClampNeg j hj
    rw [hF, hTh, hz] at this
    exact this
  have hout : Jvm.Free.Multi.outerC cA n.toNatClampNeg H.size n.toNatClampNeg = vp_cell cA (n.toNatClampNeg, .inr (.inr (.inr (.inr (fun i => if i < n.toNatClampNeg then some (H.size + 1 + i) else none))))) := by
    rw [vp_cell_q]
    exact vr_outer cA n.toNatClampNeg H.size n.toNatClampNeg
  rw [hout] at f2
  have hlt : ∀ a, a ∈ L → a < H.size := fun a ha => by
    obtain ⟨k9, hk9⟩ := va_pl_get (X := X) (f := f) ha
    exact (hP k9 _ hk9).lt
  have hnl : ∀ i : Nat, i < n.toNatClampNeg → H.size + 1 + i ∉ L := fun i _ h => by
    have := hlt _ h
    omega
  have hnm : ∀ a, a ∈ (List.range n.toNatClampNeg).map (fun i => H.size + 1 + i) → a ∉ L := fun a ha h => by
    obtain ⟨i, -, rfl⟩ := List.mem_map.mp ha
    have := hlt _ h
    omega
  have hP0 : va_P D cl (X ++ va_pl L f) F.heap := hP.kept (fun k9 x hx => hold x.1 ((hP k9 x hx).lt))
  have hP1 : va_P D cl ((X ++ va_pl L f) ++ [(H.size, .inl (cA, n.toNatClampNeg, .inr (.inr (.inr (.inr (fun i => if i < n.toNatClampNeg then some (H.size + 1 + i) else none))))))]) F.heap := hP0.app (fun k9 x hx => by
    have h0 : k9 < 1 := (List.getElem?_eq_some_iff.mp hx).1
    rw [show k9 = 0 by omega] at hx
    cases hx
    exact f2)
  have hP2 : va_P D cl (((X ++ va_pl L f) ++ [(H.size, .inl (cA, n.toNatClampNeg, .inr (.inr (.inr (.inr (fun i => if i < n.toNatClampNeg then some (H.size + 1 + i) else none))))))]) ++ ((List.range n.toNatClampNeg).map (fun i => H.size + 1 + i)).map (fun a => (a, .inl (cy, z)))) F.heap := hP1.app (fun k9 x hx => by
    obtain ⟨a, ha, rfl⟩ := List.mem_map.mp (List.mem_of_getElem? hx)
    obtain ⟨i, hi, rfl⟩ := List.mem_map.mp ha
    exact hrow i (List.mem_range.mp hi))
  have hD2 : va_D A (((X ++ va_pl L f) ++ [(H.size, .inl (cA, n.toNatClampNeg, .inr (.inr (.inr (.inr (fun i => if i < n.toNatClampNeg then some (H.size + 1 + i) else none))))))]) ++ ((List.range n.toNatClampNeg).map (fun i => H.size + 1 + i)).map (fun a => (a, .inl (cy, z)))) := by
    have hD1 := hD.push (e := .inl (cA, n.toNatClampNeg, .inr (.inr (.inr (.inr (fun i => if i < n.toNatClampNeg then some (H.size + 1 + i) else none)))))) hP rfl (hA _ hS.1)
    generalize hW1 : (X ++ va_pl L f) ++ [(H.size, .inl (cA, n.toNatClampNeg, .inr (.inr (.inr (.inr (fun i => if i < n.toNatClampNeg then some (H.size + 1 + i) else none))))))] = W1 at hD1 hP1 ⊢
    have hle : ∀ (k9 : Nat) (x : Nat × va_E), W1[k9]? = some x → x.1 ≤ H.size := fun k9 x hx => by
      rw [← hW1] at hx
      by_cases hl : k9 < (X ++ va_pl L f).length
      · rw [List.getElem?_append_left hl] at hx
        exact Nat.le_of_lt ((hP k9 x hx).lt)
      · rw [List.getElem?_append_right (by omega)] at hx
        have h0 : k9 - (X ++ va_pl L f).length < 1 := (List.getElem?_eq_some_iff.mp hx).1
        rw [show k9 - (X ++ va_pl L f).length = 0 by omega] at hx
        cases hx
        exact Nat.le_refl _
    have hr : ∀ (k9 : Nat) (x : Nat × va_E), (((List.range n.toNatClampNeg).map (fun i => H.size + 1 + i)).map (fun a => ((a, .inl (cy, z)) : Nat × va_E)))[k9]? = some x → x.1 = H.size + 1 + k9 := fun k9 x hx => by
      rw [List.getElem?_map, List.getElem?_map] at hx
      by_cases h9 : k9 < n.toNatClampNeg
      · rw [List.getElem?_range h9] at hx
        cases hx
        rfl
      · have hn0 : (List.range n.toNatClampNeg)[k9]? = none := List.getElem?_eq_none (by rw [List.length_range]; omega)
        rw [hn0] at hx
        cases hx
    refine ⟨fun i j x y hi hj hxy => ?_, fun k9 x hx => ?_⟩
    · by_cases h1 : i < W1.length <;> by_cases h2 : j < W1.length
      · rw [List.getElem?_append_left h1] at hi
        rw [List.getElem?_append_left h2] at hj
        exact hD1.1 i j x y hi hj hxy
      · rw [List.getElem?_append_left h1] at hi
        rw [List.getElem?_append_right (by omega)] at hj
        have := hle _ _ hi
        have := hr _ _ hj
        omega
      · rw [List.getElem?_append_right (by omega)] at hi
        rw [List.getElem?_append_left h2] at hj
        have := hle _ _ hj
        have := hr _ _ hi
        omega
      · rw [List.getElem?_append_right (by omega)] at hi hj
        have := hr _ _ hi
        have := hr _ _ hj
        omega
    · by_cases h1 : k9 < W1.length
      · rw [List.getElem?_append_left h1] at hx
        exact hD1.2 k9 x hx
      · rw [List.getElem?_append_right (by omega)] at hx
        have := hr _ _ hx
        exact hA _ (by have := hS.1; omega)
  have hAr : ArrOfT s cA (.array ty) := fun N9 z9 => by
    obtain ⟨-, k9, hk9, cm9, hkk9⟩ := (hO 0 0 0).1
    exact ⟨(fun q hq => by cases hq), k9, hk9, cm9, hkk9⟩
  have hK2 : va_K D cl (tys ++ [(cA, .array ty)]) s := ⟨hK.1, fun k9 x hx => by
    by_cases hl : k9 < tys.length
    · rw [List.getElem?_append_left hl] at hx
      exact hK.2 k9 x hx
    · rw [List.getElem?_append_right (by omega)] at hx
      have h0 : k9 - tys.length < 1 := (List.getElem?_eq_some_iff.mp hx).1
      rw [show k9 - tys.length = 0 by omega] at hx
      cases hx
      exact ⟨hAr, fA⟩⟩
  obtain ⟨t, a1, b1⟩ := kk H.size (fun i => H.size + 1 + i) cA F.heap (fun i j _ _ h => by have h9 : H.size + 1 + i = H.size + 1 + j := h; omega) hnl hK2 (by rw [← vr_rows hnm]; exact vr_lay hP2) (by rw [← vr_rows hnm]; exact vr_layD hD2) ⟨by rw [f1]; have := hS.1; omega, fun x h1 h2 => (hold x (Nat.lt_of_lt_of_le h1 hS.1)).trans (hS.2.1 x h1 h2), hS.2.2⟩ F rfl X'
  refine ⟨t, step t ?_, b1⟩
  have e : T.heap.size = H.size := by rw [hT]
  rw [e]
  exact a1
end VGM
/-! ===== END ===== -/
end
section
-- ===== PART A: goes FIRST, ahead of the names: the tables' words, and 'selects' of the private methods out of them =====
/-- a private method of a class that the tables say can be made, by its rows of tables_1 -/
def lw_okq (q : MethodName × Nat) : Prop := (q.1.cls ≠ "java/lang/invoke/MethodHandle" ∧ q.1.cls ≠ "java/lang/invoke/VarHandle") ∧ Cond.instantiable q.1.cls q.2 ∈ tables_1 ∧ Cond.privateMethod q.1 ∈ tables_1 ∧ Cond.instanceMethod q.1 ∈ tables_1
theorem lw_p0 : lw_okq (⟨"AssignmentDesk", "solved", "()LAssignmentDesk$Solver;"⟩, 5) := ⟨⟨by decide +kernel, by decide +kernel⟩, List.mem_of_getElem? (i := 26) (by decide +kernel), List.mem_of_getElem? (i := 201) (by decide +kernel), List.mem_of_getElem? (i := 202) (by decide +kernel)⟩
theorem lw_p1 : lw_okq (⟨"AssignmentDesk$Solver", "read", "(LAssignmentDesk$Table;)V"⟩, 8) := ⟨⟨by decide +kernel, by decide +kernel⟩, List.mem_of_getElem? (i := 89) (by decide +kernel), List.mem_of_getElem? (i := 209) (by decide +kernel), List.mem_of_getElem? (i := 210) (by decide +kernel)⟩
theorem lw_p2 : lw_okq (⟨"AssignmentDesk$Solver", "fillRow", "(II[I[I)V"⟩, 8) := ⟨⟨by decide +kernel, by decide +kernel⟩, List.mem_of_getElem? (i := 89) (by decide +kernel), List.mem_of_getElem? (i := 233) (by decide +kernel), List.mem_of_getElem? (i := 234) (by decide +kernel)⟩
theorem lw_p3 : lw_okq (⟨"AssignmentDesk$Solver", "canBeLeft", "(II)Z"⟩, 8) := ⟨⟨by decide +kernel, by decide +kernel⟩, List.mem_of_getElem? (i := 89) (by decide +kernel), List.mem_of_getElem? (i := 237) (by decide +kernel), List.mem_of_getElem? (i := 238) (by decide +kernel)⟩
theorem lw_p4 : lw_okq (⟨"AssignmentDesk$Solver", "leastFrom", "(II[II)I"⟩, 8) := ⟨⟨by decide +kernel, by decide +kernel⟩, List.mem_of_getElem? (i := 89) (by decide +kernel), List.mem_of_getElem? (i := 247) (by decide +kernel), List.mem_of_getElem? (i := 248) (by decide +kernel)⟩
theorem lw_p5 : lw_okq (⟨"AssignmentDesk$Solver", "keepFirst", "()V"⟩, 8) := ⟨⟨by decide +kernel, by decide +kernel⟩, List.mem_of_getElem? (i := 89) (by decide +kernel), List.mem_of_getElem? (i := 256) (by decide +kernel), List.mem_of_getElem? (i := 257) (by decide +kernel)⟩
theorem lw_p6 : lw_okq (⟨"AssignmentDesk$Solver", "firstOptimal", "(II)I"⟩, 8) := ⟨⟨by decide +kernel, by decide +kernel⟩, List.mem_of_getElem? (i := 89) (by decide +kernel), List.mem_of_getElem? (i := 260) (by decide +kernel), List.mem_of_getElem? (i := 261) (by decide +kernel)⟩
theorem lw_p7 : lw_okq (⟨"AssignmentDesk$Solver", "isOptimal", "(III)Z"⟩, 8) := ⟨⟨by decide +kernel, by decide +kernel⟩, List.mem_of_getElem? (i := 89) (by decide +kernel), List.mem_of_getElem? (i := 264) (by decide +kernel), List.mem_of_getElem? (i := 265) (by decide +kernel)⟩
theorem lw_p8 : lw_okq (⟨"AssignmentDesk$Solver", "spreadWays", "(I)V"⟩, 8) := ⟨⟨by decide +kernel, by decide +kernel⟩, List.mem_of_getElem? (i := 89) (by decide +kernel), List.mem_of_getElem? (i := 293) (by decide +kernel), List.mem_of_getElem? (i := 294) (by decide +kernel)⟩
theorem lw_p9 : lw_okq (⟨"java/lang/Throwable", "fillInStackTrace", "(I)Ljava/lang/Throwable;"⟩, 6) := ⟨⟨by decide +kernel, by decide +kernel⟩, List.mem_of_getElem? (i := 363) (by decide +kernel), List.mem_of_getElem? (i := 361) (by decide +kernel), List.mem_of_getElem? (i := 362) (by decide +kernel)⟩
theorem lw_p10 : lw_okq (⟨"AssignmentDesk", "requireRow", "(I)V"⟩, 5) := ⟨⟨by decide +kernel, by decide +kernel⟩, List.mem_of_getElem? (i := 26) (by decide +kernel), List.mem_of_getElem? (i := 440) (by decide +kernel), List.mem_of_getElem? (i := 441) (by decide +kernel)⟩
theorem lw_p11 : lw_okq (⟨"AssignmentDesk", "requireColumn", "(I)V"⟩, 5) := ⟨⟨by decide +kernel, by decide +kernel⟩, List.mem_of_getElem? (i := 26) (by decide +kernel), List.mem_of_getElem? (i := 466) (by decide +kernel), List.mem_of_getElem? (i := 467) (by decide +kernel)⟩
theorem lw_p12 : lw_okq (⟨"AssignmentDesk", "requirePair", "(II)V"⟩, 5) := ⟨⟨by decide +kernel, by decide +kernel⟩, List.mem_of_getElem? (i := 26) (by decide +kernel), List.mem_of_getElem? (i := 479) (by decide +kernel), List.mem_of_getElem? (i := 480) (by decide +kernel)⟩
theorem lw_p13 : lw_okq (⟨"AssignmentDesk", "replaceCell", "(III)Z"⟩, 5) := ⟨⟨by decide +kernel, by decide +kernel⟩, List.mem_of_getElem? (i := 26) (by decide +kernel), List.mem_of_getElem? (i := 504) (by decide +kernel), List.mem_of_getElem? (i := 505) (by decide +kernel)⟩
theorem lw_p14 : lw_okq (⟨"AssignmentDesk$Solver", "extraCostOfSupposed", "(I)I"⟩, 8) := ⟨⟨by decide +kernel, by decide +kernel⟩, List.mem_of_getElem? (i := 89) (by decide +kernel), List.mem_of_getElem? (i := 629) (by decide +kernel), List.mem_of_getElem? (i := 630) (by decide +kernel)⟩
theorem lw_p15 : lw_okq (⟨"AssignmentDesk", "requireUsable", "(II)V"⟩, 5) := ⟨⟨by decide +kernel, by decide +kernel⟩, List.mem_of_getElem? (i := 26) (by decide +kernel), List.mem_of_getElem? (i := 651) (by decide +kernel), List.mem_of_getElem? (i := 652) (by decide +kernel)⟩
def lw_privs_1 : List (MethodName × Nat) := [(⟨"AssignmentDesk", "solved", "()LAssignmentDesk$Solver;"⟩, 5), (⟨"AssignmentDesk$Solver", "read", "(LAssignmentDesk$Table;)V"⟩, 8), (⟨"AssignmentDesk$Solver", "fillRow", "(II[I[I)V"⟩, 8), (⟨"AssignmentDesk$Solver", "canBeLeft", "(II)Z"⟩, 8), (⟨"AssignmentDesk$Solver", "leastFrom", "(II[II)I"⟩, 8), (⟨"AssignmentDesk$Solver", "keepFirst", "()V"⟩, 8), (⟨"AssignmentDesk$Solver", "firstOptimal", "(II)I"⟩, 8), (⟨"AssignmentDesk$Solver", "isOptimal", "(III)Z"⟩, 8), (⟨"AssignmentDesk$Solver", "spreadWays", "(I)V"⟩, 8), (⟨"java/lang/Throwable", "fillInStackTrace", "(I)Ljava/lang/Throwable;"⟩, 6), (⟨"AssignmentDesk", "requireRow", "(I)V"⟩, 5), (⟨"AssignmentDesk", "requireColumn", "(I)V"⟩, 5), (⟨"AssignmentDesk", "requirePair", "(II)V"⟩, 5), (⟨"AssignmentDesk", "replaceCell", "(III)Z"⟩, 5), (⟨"AssignmentDesk$Solver", "extraCostOfSupposed", "(I)I"⟩, 8), (⟨"AssignmentDesk", "requireUsable", "(II)V"⟩, 5)]
theorem lw_r1 : ∀ q ∈ lw_privs_1, lw_okq q := List.forall_mem_cons.mpr ⟨lw_p0, List.forall_mem_cons.mpr ⟨lw_p1, List.forall_mem_cons.mpr ⟨lw_p2, List.forall_mem_cons.mpr ⟨lw_p3, List.forall_mem_cons.mpr ⟨lw_p4, List.forall_mem_cons.mpr ⟨lw_p5, List.forall_mem_cons.mpr ⟨lw_p6, List.forall_mem_cons.mpr ⟨lw_p7, List.forall_mem_cons.mpr ⟨lw_p8, List.forall_mem_cons.mpr ⟨lw_p9, List.forall_mem_cons.mpr ⟨lw_p10, List.forall_mem_cons.mpr ⟨lw_p11, List.forall_mem_cons.mpr ⟨lw_p12, List.forall_mem_cons.mpr ⟨lw_p13, List.forall_mem_cons.mpr ⟨lw_p14, List.forall_mem_cons.mpr ⟨lw_p15, fun _ h => absurd h List.not_mem_nil⟩⟩⟩⟩⟩⟩⟩⟩⟩⟩⟩⟩⟩⟩⟩⟩
theorem lw_p16 : lw_okq (⟨"AssignmentDesk$Beginnings", "isBefore", "(IJI)Z"⟩, 5) := ⟨⟨by decide +kernel, by decide +kernel⟩, List.mem_of_getElem? (i := 135) (by decide +kernel), List.mem_of_getElem? (i := 687) (by decide +kernel), List.mem_of_getElem? (i := 688) (by decide +kernel)⟩
theorem lw_p17 : lw_okq (⟨"AssignmentDesk$Beginnings", "moveBack", "(I)V"⟩, 5) := ⟨⟨by decide +kernel, by decide +kernel⟩, List.mem_of_getElem? (i := 135) (by decide +kernel), List.mem_of_getElem? (i := 691) (by decide +kernel), List.mem_of_getElem? (i := 692) (by decide +kernel)⟩
theorem lw_p18 : lw_okq (⟨"AssignmentDesk$Ranking", "extend", "(LAssignmentDesk$Solver;III)V"⟩, 2) := ⟨⟨by decide +kernel, by decide +kernel⟩, List.mem_of_getElem? (i := 129) (by decide +kernel), List.mem_of_getElem? (i := 695) (by decide +kernel), List.mem_of_getElem? (i := 696) (by decide +kernel)⟩
theorem lw_p19 : lw_okq (⟨"AssignmentDesk$Ranking", "offerFull", "(LAssignmentDesk$Solver;IJIII)V"⟩, 2) := ⟨⟨by decide +kernel, by decide +kernel⟩, List.mem_of_getElem? (i := 129) (by decide +kernel), List.mem_of_getElem? (i := 700) (by decide +kernel), List.mem_of_getElem? (i := 701) (by decide +kernel)⟩
theorem lw_p20 : lw_okq (⟨"AssignmentDesk", "requireRanked", "(I)V"⟩, 5) := ⟨⟨by decide +kernel, by decide +kernel⟩, List.mem_of_getElem? (i := 26) (by decide +kernel), List.mem_of_getElem? (i := 714) (by decide +kernel), List.mem_of_getElem? (i := 715) (by decide +kernel)⟩
theorem lw_p21 : lw_okq (⟨"AssignmentDeskModel", "fail", "(I)I"⟩, 30) := ⟨⟨by decide +kernel, by decide +kernel⟩, List.mem_of_getElem? (i := 756) (by decide +kernel), List.mem_of_getElem? (i := 862) (by decide +kernel), List.mem_of_getElem? (i := 863) (by decide +kernel)⟩
theorem lw_p22 : lw_okq (⟨"AssignmentDeskModel", "isRow", "(I)Z"⟩, 30) := ⟨⟨by decide +kernel, by decide +kernel⟩, List.mem_of_getElem? (i := 756) (by decide +kernel), List.mem_of_getElem? (i := 874) (by decide +kernel), List.mem_of_getElem? (i := 875) (by decide +kernel)⟩
theorem lw_p23 : lw_okq (⟨"AssignmentDeskModel", "failed", "(I)Z"⟩, 30) := ⟨⟨by decide +kernel, by decide +kernel⟩, List.mem_of_getElem? (i := 756) (by decide +kernel), List.mem_of_getElem? (i := 878) (by decide +kernel), List.mem_of_getElem? (i := 879) (by decide +kernel)⟩
theorem lw_p24 : lw_okq (⟨"AssignmentDeskModel", "isColumn", "(I)Z"⟩, 30) := ⟨⟨by decide +kernel, by decide +kernel⟩, List.mem_of_getElem? (i := 756) (by decide +kernel), List.mem_of_getElem? (i := 886) (by decide +kernel), List.mem_of_getElem? (i := 887) (by decide +kernel)⟩
theorem lw_p25 : lw_okq (⟨"AssignmentDeskModel", "isPair", "(II)Z"⟩, 30) := ⟨⟨by decide +kernel, by decide +kernel⟩, List.mem_of_getElem? (i := 756) (by decide +kernel), List.mem_of_getElem? (i := 894) (by decide +kernel), List.mem_of_getElem? (i := 895) (by decide +kernel)⟩
theorem lw_p26 : lw_okq (⟨"AssignmentDeskModel", "solve", "()V"⟩, 30) := ⟨⟨by decide +kernel, by decide +kernel⟩, List.mem_of_getElem? (i := 756) (by decide +kernel), List.mem_of_getElem? (i := 958) (by decide +kernel), List.mem_of_getElem? (i := 959) (by decide +kernel)⟩
theorem lw_p27 : lw_okq (⟨"AssignmentDeskModel", "setChoices", "()V"⟩, 30) := ⟨⟨by decide +kernel, by decide +kernel⟩, List.mem_of_getElem? (i := 756) (by decide +kernel), List.mem_of_getElem? (i := 962) (by decide +kernel), List.mem_of_getElem? (i := 963) (by decide +kernel)⟩
theorem lw_p28 : lw_okq (⟨"AssignmentDeskModel", "isUsable", "(II)Z"⟩, 30) := ⟨⟨by decide +kernel, by decide +kernel⟩, List.mem_of_getElem? (i := 756) (by decide +kernel), List.mem_of_getElem? (i := 966) (by decide +kernel), List.mem_of_getElem? (i := 967) (by decide +kernel)⟩
theorem lw_p29 : lw_okq (⟨"AssignmentDeskModel", "fill", "()V"⟩, 30) := ⟨⟨by decide +kernel, by decide +kernel⟩, List.mem_of_getElem? (i := 756) (by decide +kernel), List.mem_of_getElem? (i := 970) (by decide +kernel), List.mem_of_getElem? (i := 971) (by decide +kernel)⟩
theorem lw_p30 : lw_okq (⟨"AssignmentDeskModel", "fill", "(II)V"⟩, 30) := ⟨⟨by decide +kernel, by decide +kernel⟩, List.mem_of_getElem? (i := 756) (by decide +kernel), List.mem_of_getElem? (i := 974) (by decide +kernel), List.mem_of_getElem? (i := 975) (by decide +kernel)⟩
theorem lw_p31 : lw_okq (⟨"AssignmentDeskModel", "costOf", "(II)I"⟩, 30) := ⟨⟨by decide +kernel, by decide +kernel⟩, List.mem_of_getElem? (i := 756) (by decide +kernel), List.mem_of_getElem? (i := 978) (by decide +kernel), List.mem_of_getElem? (i := 979) (by decide +kernel)⟩
def lw_privs_2 : List (MethodName × Nat) := [(⟨"AssignmentDesk$Beginnings", "isBefore", "(IJI)Z"⟩, 5), (⟨"AssignmentDesk$Beginnings", "moveBack", "(I)V"⟩, 5), (⟨"AssignmentDesk$Ranking", "extend", "(LAssignmentDesk$Solver;III)V"⟩, 2), (⟨"AssignmentDesk$Ranking", "offerFull", "(LAssignmentDesk$Solver;IJIII)V"⟩, 2), (⟨"AssignmentDesk", "requireRanked", "(I)V"⟩, 5), (⟨"AssignmentDeskModel", "fail", "(I)I"⟩, 30), (⟨"AssignmentDeskModel", "isRow", "(I)Z"⟩, 30), (⟨"AssignmentDeskModel", "failed", "(I)Z"⟩, 30), (⟨"AssignmentDeskModel", "isColumn", "(I)Z"⟩, 30), (⟨"AssignmentDeskModel", "isPair", "(II)Z"⟩, 30), (⟨"AssignmentDeskModel", "solve", "()V"⟩, 30), (⟨"AssignmentDeskModel", "setChoices", "()V"⟩, 30), (⟨"AssignmentDeskModel", "isUsable", "(II)Z"⟩, 30), (⟨"AssignmentDeskModel", "fill", "()V"⟩, 30), (⟨"AssignmentDeskModel", "fill", "(II)V"⟩, 30), (⟨"AssignmentDeskModel", "costOf", "(II)I"⟩, 30)]
theorem lw_r2 : ∀ q ∈ lw_privs_2, lw_okq q := List.forall_mem_cons.mpr ⟨lw_p16, List.forall_mem_cons.mpr ⟨lw_p17, List.forall_mem_cons.mpr ⟨lw_p18, List.forall_mem_cons.mpr ⟨lw_p19, List.forall_mem_cons.mpr ⟨lw_p20, List.forall_mem_cons.mpr ⟨lw_p21, List.forall_mem_cons.mpr ⟨lw_p22, List.forall_mem_cons.mpr ⟨lw_p23, List.forall_mem_cons.mpr ⟨lw_p24, List.forall_mem_cons.mpr ⟨lw_p25, List.forall_mem_cons.mpr ⟨lw_p26, List.forall_mem_cons.mpr ⟨lw_p27, List.forall_mem_cons.mpr ⟨lw_p28, List.forall_mem_cons.mpr ⟨lw_p29, List.forall_mem_cons.mpr ⟨lw_p30, List.forall_mem_cons.mpr ⟨lw_p31, fun _ h => absurd h List.not_mem_nil⟩⟩⟩⟩⟩⟩⟩⟩⟩⟩⟩⟩⟩⟩⟩⟩
theorem lw_p32 : lw_okq (⟨"AssignmentDeskModel", "choose", "()V"⟩, 30) := ⟨⟨by decide +kernel, by decide +kernel⟩, List.mem_of_getElem? (i := 756) (by decide +kernel), List.mem_of_getElem? (i := 997) (by decide +kernel), List.mem_of_getElem? (i := 998) (by decide +kernel)⟩
theorem lw_p33 : lw_okq (⟨"AssignmentDeskModel", "isBest", "(IIII)Z"⟩, 30) := ⟨⟨by decide +kernel, by decide +kernel⟩, List.mem_of_getElem? (i := 756) (by decide +kernel), List.mem_of_getElem? (i := 1001) (by decide +kernel), List.mem_of_getElem? (i := 1002) (by decide +kernel)⟩
theorem lw_p34 : lw_okq (⟨"AssignmentDeskModel", "solveWith", "(II)V"⟩, 30) := ⟨⟨by decide +kernel, by decide +kernel⟩, List.mem_of_getElem? (i := 756) (by decide +kernel), List.mem_of_getElem? (i := 1017) (by decide +kernel), List.mem_of_getElem? (i := 1018) (by decide +kernel)⟩
theorem lw_p35 : lw_okq (⟨"AssignmentDeskModel", "addPart", "([IIIII)V"⟩, 30) := ⟨⟨by decide +kernel, by decide +kernel⟩, List.mem_of_getElem? (i := 756) (by decide +kernel), List.mem_of_getElem? (i := 1042) (by decide +kernel), List.mem_of_getElem? (i := 1043) (by decide +kernel)⟩
theorem lw_p36 : lw_okq (⟨"AssignmentDeskModel", "isAhead", "(II)Z"⟩, 30) := ⟨⟨by decide +kernel, by decide +kernel⟩, List.mem_of_getElem? (i := 756) (by decide +kernel), List.mem_of_getElem? (i := 1046) (by decide +kernel), List.mem_of_getElem? (i := 1047) (by decide +kernel)⟩
theorem lw_p37 : lw_okq (⟨"AssignmentDeskModel", "remove", "(I)V"⟩, 30) := ⟨⟨by decide +kernel, by decide +kernel⟩, List.mem_of_getElem? (i := 756) (by decide +kernel), List.mem_of_getElem? (i := 1050) (by decide +kernel), List.mem_of_getElem? (i := 1051) (by decide +kernel)⟩
def lw_privs_3 : List (MethodName × Nat) := [(⟨"AssignmentDeskModel", "choose", "()V"⟩, 30), (⟨"AssignmentDeskModel", "isBest", "(IIII)Z"⟩, 30), (⟨"AssignmentDeskModel", "solveWith", "(II)V"⟩, 30), (⟨"AssignmentDeskModel", "addPart", "([IIIII)V"⟩, 30), (⟨"AssignmentDeskModel", "isAhead", "(II)Z"⟩, 30), (⟨"AssignmentDeskModel", "remove", "(I)V"⟩, 30)]
theorem lw_r3 : ∀ q ∈ lw_privs_3, lw_okq q := List.forall_mem_cons.mpr ⟨lw_p32, List.forall_mem_cons.mpr ⟨lw_p33, List.forall_mem_cons.mpr ⟨lw_p34, List.forall_mem_cons.mpr ⟨lw_p35, List.forall_mem_cons.mpr ⟨lw_p36, List.forall_mem_cons.mpr ⟨lw_p37, fun _ h => absurd h List.not_mem_nil⟩⟩⟩⟩⟩⟩
def lw_privs : List (MethodName × Nat) := lw_privs_1 ++ (lw_privs_2 ++ (lw_privs_3))
def lw_tbl : List Cond := k2_sels lw_privs ++ tables_1
theorem lw_privs_ok : ∀ q ∈ lw_privs, lw_okq q := by
  show ∀ q ∈ lw_privs_1 ++ (lw_privs_2 ++ (lw_privs_3)), lw_okq q
  exact List.forall_mem_append.mpr ⟨lw_r1, List.forall_mem_append.mpr ⟨lw_r2, lw_r3⟩⟩
/-- the streams that the claim lets the run draw from -/
abbrev lw_cs : List Choice := [Jvm.Choice.named "NaN.bits", Jvm.Choice.named "NaN.copy"]
theorem lw_bits : nanBits ∈ lw_cs := by first | decide | exact List.mem_cons_self | simp [lw_cs, nanBits]
-- ===== end of PART A; then your names; then what follows =====
end
section
/-! ===== BEGIN printed: names, fields, word lists, decode rows ===== -/
def RX0 : String := "AssignmentDesk$Beginnings"
def TX0 : u_T := fun k => match k with
  | 0 => ("AssignmentDesk$Beginnings", "scores", "[I", true)
  | 1 => ("AssignmentDesk$Beginnings", "paths", "[J", true)
  | 2 => ("AssignmentDesk$Beginnings", "pasts", "[I", true)
  | 3 => ("AssignmentDesk$Beginnings", "frees", "[I", true)
  | _ => ("AssignmentDesk$Beginnings", "count", "I", false)
def tyX0 : Nat → FieldType := fun k => match k with
  | 0 => .array .int
  | 1 => .array .long
  | 2 => .array .int
  | 3 => .array .int
  | _ => .int
abbrev wsX00 : List Cond := u_ws RX0 TX0 5
theorem nmX0 : ∀ a, a < 5 → ∀ b, b < 5 → a ≠ b → (TX0 a).2.1 ≠ (TX0 b).2.1 := by decide +kernel
theorem tyX0_ok : ∀ k, k < 5 → parseFieldDescriptor (TX0 k).2.2.1 = some (tyX0 k) := by decide +kernel
abbrev cX0_init : ByteArray := prog_2_method_1_code
def yX0_init : MethodName := ⟨RX0, "<init>", "()V"⟩
abbrev cX0_offer : ByteArray := prog_2_method_2_code
def yX0_offer : MethodName := ⟨RX0, "offer", "(IJIII)V"⟩
abbrev cX0_isBefore : ByteArray := prog_2_method_3_code
def yX0_isBefore : MethodName := ⟨RX0, "isBefore", "(IJI)Z"⟩
abbrev cX0_moveBack : ByteArray := prog_2_method_4_code
def yX0_moveBack : MethodName := ⟨RX0, "moveBack", "(I)V"⟩
def RX1 : String := "AssignmentDesk$Levels"
def TX1 : u_T := fun k => match k with
  | 0 => ("AssignmentDesk$Levels", "cells", "[I", true)
  | 1 => ("AssignmentDesk$Levels", "activeRows", "[I", true)
  | 2 => ("AssignmentDesk$Levels", "activeColumns", "[I", true)
  | _ => ("AssignmentDesk$Levels", "count", "I", false)
def tyX1 : Nat → FieldType := fun k => match k with
  | 0 => .array .int
  | 1 => .array .int
  | 2 => .array .int
  | _ => .int
abbrev wsX10 : List Cond := u_ws RX1 TX1 4
theorem nmX1 : ∀ a, a < 4 → ∀ b, b < 4 → a ≠ b → (TX1 a).2.1 ≠ (TX1 b).2.1 := by decide +kernel
theorem tyX1_ok : ∀ k, k < 4 → parseFieldDescriptor (TX1 k).2.2.1 = some (tyX1 k) := by decide +kernel
abbrev cX1_init : ByteArray := prog_3_method_1_code
def yX1_init : MethodName := ⟨RX1, "<init>", "()V"⟩
abbrev cX1_store : ByteArray := prog_3_method_2_code
def yX1_store : MethodName := ⟨RX1, "store", "(LAssignmentDesk$Table;)V"⟩
abbrev cX1_restore : ByteArray := prog_3_method_3_code
def yX1_restore : MethodName := ⟨RX1, "restore", "(LAssignmentDesk$Table;)V"⟩
def RX2 : String := "AssignmentDesk$Ranking"
def TX2 : u_T := fun k => match k with
  | 0 => ("AssignmentDesk$Ranking", "found", "LAssignmentDesk$Beginnings;", false)
  | _ => ("AssignmentDesk$Ranking", "longer", "LAssignmentDesk$Beginnings;", false)
def tyX2 : Nat → FieldType := fun k => match k with
  | 0 => .object "AssignmentDesk$Beginnings"
  | _ => .object "AssignmentDesk$Beginnings"
abbrev wsX20 : List Cond := u_ws RX2 TX2 2
theorem nmX2 : ∀ a, a < 2 → ∀ b, b < 2 → a ≠ b → (TX2 a).2.1 ≠ (TX2 b).2.1 := by decide +kernel
theorem tyX2_ok : ∀ k, k < 2 → parseFieldDescriptor (TX2 k).2.2.1 = some (tyX2 k) := by decide +kernel
abbrev cX2_init : ByteArray := prog_4_method_1_code
def yX2_init : MethodName := ⟨RX2, "<init>", "()V"⟩
abbrev cX2_columnIn : ByteArray := prog_4_method_2_code
def yX2_columnIn : MethodName := ⟨RX2, "columnIn", "(JI)I"⟩
abbrev cX2_findFirst : ByteArray := prog_4_method_3_code
def yX2_findFirst : MethodName := ⟨RX2, "findFirst", "(LAssignmentDesk$Solver;I)V"⟩
abbrev cX2_extend : ByteArray := prog_4_method_4_code
def yX2_extend : MethodName := ⟨RX2, "extend", "(LAssignmentDesk$Solver;III)V"⟩
abbrev cX2_offerFull : ByteArray := prog_4_method_5_code
def yX2_offerFull : MethodName := ⟨RX2, "offerFull", "(LAssignmentDesk$Solver;IJIII)V"⟩
def RX3 : String := "AssignmentDesk$Solver"
def TX3 : u_T := fun k => match k with
  | 0 => ("AssignmentDesk$Solver", "scores", "[I", true)
  | 1 => ("AssignmentDesk$Solver", "usable", "[I", true)
  | 2 => ("AssignmentDesk$Solver", "active", "I", false)
  | 3 => ("AssignmentDesk$Solver", "least", "[[I", true)
  | 4 => ("AssignmentDesk$Solver", "supposed", "[I", true)
  | 5 => ("AssignmentDesk$Solver", "ways", "[I", true)
  | 6 => ("AssignmentDesk$Solver", "kept", "[I", true)
  | _ => ("AssignmentDesk$Solver", "fullScore", "I", false)
def tyX3 : Nat → FieldType := fun k => match k with
  | 0 => .array .int
  | 1 => .array .int
  | 2 => .int
  | 3 => .array (.array .int)
  | 4 => .array .int
  | 5 => .array .int
  | 6 => .array .int
  | _ => .int
abbrev wsX30 : List Cond := u_ws RX3 TX3 8
theorem nmX3 : ∀ a, a < 8 → ∀ b, b < 8 → a ≠ b → (TX3 a).2.1 ≠ (TX3 b).2.1 := by decide +kernel
theorem tyX3_ok : ∀ k, k < 8 → parseFieldDescriptor (TX3 k).2.2.1 = some (tyX3 k) := by decide +kernel
abbrev cX3_init : ByteArray := prog_5_method_1_code
def yX3_init : MethodName := ⟨RX3, "<init>", "()V"⟩
abbrev cX3_sizeOf : ByteArray := prog_5_method_2_code
def yX3_sizeOf : MethodName := ⟨RX3, "sizeOf", "(I)I"⟩
abbrev cX3_costOf : ByteArray := prog_5_method_3_code
def yX3_costOf : MethodName := ⟨RX3, "costOf", "(I)I"⟩
abbrev cX3_solve : ByteArray := prog_5_method_4_code
def yX3_solve : MethodName := ⟨RX3, "solve", "(LAssignmentDesk$Table;)V"⟩
abbrev cX3_read : ByteArray := prog_5_method_5_code
def yX3_read : MethodName := ⟨RX3, "read", "(LAssignmentDesk$Table;)V"⟩
abbrev cX3_fillRow : ByteArray := prog_5_method_6_code
def yX3_fillRow : MethodName := ⟨RX3, "fillRow", "(II[I[I)V"⟩
abbrev cX3_canBeLeft : ByteArray := prog_5_method_7_code
def yX3_canBeLeft : MethodName := ⟨RX3, "canBeLeft", "(II)Z"⟩
abbrev cX3_leastFrom : ByteArray := prog_5_method_8_code
def yX3_leastFrom : MethodName := ⟨RX3, "leastFrom", "(II[II)I"⟩
abbrev cX3_keepFirst : ByteArray := prog_5_method_9_code
def yX3_keepFirst : MethodName := ⟨RX3, "keepFirst", "()V"⟩
abbrev cX3_firstOptimal : ByteArray := prog_5_method_10_code
def yX3_firstOptimal : MethodName := ⟨RX3, "firstOptimal", "(II)I"⟩
abbrev cX3_isOptimal : ByteArray := prog_5_method_11_code
def yX3_isOptimal : MethodName := ⟨RX3, "isOptimal", "(III)Z"⟩
abbrev cX3_countOptimal : ByteArray := prog_5_method_12_code
def yX3_countOptimal : MethodName := ⟨RX3, "countOptimal", "()I"⟩
abbrev cX3_spreadWays : ByteArray := prog_5_method_13_code
def yX3_spreadWays : MethodName := ⟨RX3, "spreadWays", "(I)V"⟩
abbrev cX3_extraCostWith : ByteArray := prog_5_method_14_code
def yX3_extraCostWith : MethodName := ⟨RX3, "extraCostWith", "(II)I"⟩
abbrev cX3_extraCostWithout : ByteArray := prog_5_method_15_code
def yX3_extraCostWithout : MethodName := ⟨RX3, "extraCostWithout", "(II)I"⟩
abbrev cX3_extraCostOfSupposed : ByteArray := prog_5_method_16_code
def yX3_extraCostOfSupposed : MethodName := ⟨RX3, "extraCostOfSupposed", "(I)I"⟩
abbrev cX3_addTo : ByteArray := prog_5_method_17_code
def yX3_addTo : MethodName := ⟨RX3, "addTo", "(JI)J"⟩
def RX4 : String := "AssignmentDesk$Table"
def TX4 : u_T := fun k => match k with
  | 0 => ("AssignmentDesk$Table", "cells", "[I", true)
  | 1 => ("AssignmentDesk$Table", "rows", "I", false)
  | 2 => ("AssignmentDesk$Table", "columns", "I", false)
  | 3 => ("AssignmentDesk$Table", "activeRows", "I", false)
  | _ => ("AssignmentDesk$Table", "activeColumns", "I", false)
def tyX4 : Nat → FieldType := fun k => match k with
  | 0 => .array .int
  | 1 => .int
  | 2 => .int
  | 3 => .int
  | _ => .int
abbrev wsX40 : List Cond := u_ws RX4 TX4 5
theorem nmX4 : ∀ a, a < 5 → ∀ b, b < 5 → a ≠ b → (TX4 a).2.1 ≠ (TX4 b).2.1 := by decide +kernel
theorem tyX4_ok : ∀ k, k < 5 → parseFieldDescriptor (TX4 k).2.2.1 = some (tyX4 k) := by decide +kernel
abbrev cX4_init : ByteArray := prog_6_method_1_code
def yX4_init : MethodName := ⟨RX4, "<init>", "()V"⟩
abbrev cX4_appendRow : ByteArray := prog_6_method_2_code
def yX4_appendRow : MethodName := ⟨RX4, "appendRow", "()I"⟩
abbrev cX4_appendColumn : ByteArray := prog_6_method_3_code
def yX4_appendColumn : MethodName := ⟨RX4, "appendColumn", "()I"⟩
abbrev cX4_cell : ByteArray := prog_6_method_4_code
def yX4_cell : MethodName := ⟨RX4, "cell", "(II)I"⟩
abbrev cX4_isUsable : ByteArray := prog_6_method_5_code
def yX4_isUsable : MethodName := ⟨RX4, "isUsable", "(II)Z"⟩
abbrev cX4_usableColumns : ByteArray := prog_6_method_6_code
def yX4_usableColumns : MethodName := ⟨RX4, "usableColumns", "(I)I"⟩
abbrev cX4_canShiftRow : ByteArray := prog_6_method_7_code
def yX4_canShiftRow : MethodName := ⟨RX4, "canShiftRow", "(II)Z"⟩
abbrev cX4_shiftRow : ByteArray := prog_6_method_8_code
def yX4_shiftRow : MethodName := ⟨RX4, "shiftRow", "(II)I"⟩
abbrev cX4_canStretchColumn : ByteArray := prog_6_method_9_code
def yX4_canStretchColumn : MethodName := ⟨RX4, "canStretchColumn", "(ID)Z"⟩
abbrev cX4_stretchColumn : ByteArray := prog_6_method_10_code
def yX4_stretchColumn : MethodName := ⟨RX4, "stretchColumn", "(ID)I"⟩
abbrev cX4_nearest : ByteArray := prog_6_method_11_code
def yX4_nearest : MethodName := ⟨RX4, "nearest", "(D)I"⟩
abbrev cX4_addTo : ByteArray := prog_6_method_12_code
def yX4_addTo : MethodName := ⟨RX4, "addTo", "(J)J"⟩
def RX5 : String := "AssignmentDesk"
def TX5 : u_T := fun k => match k with
  | 0 => ("AssignmentDesk", "table", "LAssignmentDesk$Table;", true)
  | 1 => ("AssignmentDesk", "levels", "LAssignmentDesk$Levels;", true)
  | 2 => ("AssignmentDesk", "solver", "LAssignmentDesk$Solver;", true)
  | 3 => ("AssignmentDesk", "ranking", "LAssignmentDesk$Ranking;", true)
  | _ => ("AssignmentDesk", "isSolved", "Z", false)
def tyX5 : Nat → FieldType := fun k => match k with
  | 0 => .object "AssignmentDesk$Table"
  | 1 => .object "AssignmentDesk$Levels"
  | 2 => .object "AssignmentDesk$Solver"
  | 3 => .object "AssignmentDesk$Ranking"
  | _ => .boolean
abbrev wsX50 : List Cond := u_ws RX5 TX5 5
theorem nmX5 : ∀ a, a < 5 → ∀ b, b < 5 → a ≠ b → (TX5 a).2.1 ≠ (TX5 b).2.1 := by decide +kernel
theorem tyX5_ok : ∀ k, k < 5 → parseFieldDescriptor (TX5 k).2.2.1 = some (tyX5 k) := by decide +kernel
abbrev cX5_init : ByteArray := prog_1_method_1_code
def yX5_init : MethodName := ⟨RX5, "<init>", "()V"⟩
abbrev cX5_addRow : ByteArray := prog_1_method_2_code
def yX5_addRow : MethodName := ⟨RX5, "addRow", "()I"⟩
abbrev cX5_addColumn : ByteArray := prog_1_method_3_code
def yX5_addColumn : MethodName := ⟨RX5, "addColumn", "()I"⟩
abbrev cX5_setRow : ByteArray := prog_1_method_4_code
def yX5_setRow : MethodName := ⟨RX5, "setRow", "(IZ)Z"⟩
abbrev cX5_setColumn : ByteArray := prog_1_method_5_code
def yX5_setColumn : MethodName := ⟨RX5, "setColumn", "(IZ)Z"⟩
abbrev cX5_setCost : ByteArray := prog_1_method_6_code
def yX5_setCost : MethodName := ⟨RX5, "setCost", "(III)Z"⟩
abbrev cX5_forbid : ByteArray := prog_1_method_7_code
def yX5_forbid : MethodName := ⟨RX5, "forbid", "(II)Z"⟩
abbrev cX5_addToRow : ByteArray := prog_1_method_8_code
def yX5_addToRow : MethodName := ⟨RX5, "addToRow", "(II)I"⟩
abbrev cX5_scaleColumn : ByteArray := prog_1_method_9_code
def yX5_scaleColumn : MethodName := ⟨RX5, "scaleColumn", "(ID)I"⟩
abbrev cX5_rowCount : ByteArray := prog_1_method_10_code
def yX5_rowCount : MethodName := ⟨RX5, "rowCount", "()I"⟩
abbrev cX5_columnCount : ByteArray := prog_1_method_11_code
def yX5_columnCount : MethodName := ⟨RX5, "columnCount", "()I"⟩
abbrev cX5_isAllowed : ByteArray := prog_1_method_12_code
def yX5_isAllowed : MethodName := ⟨RX5, "isAllowed", "(II)Z"⟩
abbrev cX5_cost : ByteArray := prog_1_method_13_code
def yX5_cost : MethodName := ⟨RX5, "cost", "(II)I"⟩
abbrev cX5_size : ByteArray := prog_1_method_14_code
def yX5_size : MethodName := ⟨RX5, "size", "()I"⟩
abbrev cX5_total : ByteArray := prog_1_method_15_code
def yX5_total : MethodName := ⟨RX5, "total", "()I"⟩
abbrev cX5_meanCost : ByteArray := prog_1_method_16_code
def yX5_meanCost : MethodName := ⟨RX5, "meanCost", "()D"⟩
abbrev cX5_columnOf : ByteArray := prog_1_method_17_code
def yX5_columnOf : MethodName := ⟨RX5, "columnOf", "(I)I"⟩
abbrev cX5_rowOf : ByteArray := prog_1_method_18_code
def yX5_rowOf : MethodName := ⟨RX5, "rowOf", "(I)I"⟩
abbrev cX5_optimalCount : ByteArray := prog_1_method_19_code
def yX5_optimalCount : MethodName := ⟨RX5, "optimalCount", "()I"⟩
abbrev cX5_isPossible : ByteArray := prog_1_method_20_code
def yX5_isPossible : MethodName := ⟨RX5, "isPossible", "(II)Z"⟩
abbrev cX5_isCertain : ByteArray := prog_1_method_21_code
def yX5_isCertain : MethodName := ⟨RX5, "isCertain", "(II)Z"⟩
abbrev cX5_regret : ByteArray := prog_1_method_22_code
def yX5_regret : MethodName := ⟨RX5, "regret", "(II)I"⟩
abbrev cX5_loss : ByteArray := prog_1_method_23_code
def yX5_loss : MethodName := ⟨RX5, "loss", "(II)I"⟩
abbrev cX5_greatestCost : ByteArray := prog_1_method_24_code
def yX5_greatestCost : MethodName := ⟨RX5, "greatestCost", "(II)I"⟩
abbrev cX5_rank : ByteArray := prog_1_method_25_code
def yX5_rank : MethodName := ⟨RX5, "rank", "(I)I"⟩
abbrev cX5_rankedCost : ByteArray := prog_1_method_26_code
def yX5_rankedCost : MethodName := ⟨RX5, "rankedCost", "(I)I"⟩
abbrev cX5_rankedColumn : ByteArray := prog_1_method_27_code
def yX5_rankedColumn : MethodName := ⟨RX5, "rankedColumn", "(II)I"⟩
abbrev cX5_push : ByteArray := prog_1_method_28_code
def yX5_push : MethodName := ⟨RX5, "push", "()I"⟩
abbrev cX5_pop : ByteArray := prog_1_method_29_code
def yX5_pop : MethodName := ⟨RX5, "pop", "()I"⟩
abbrev cX5_digest : ByteArray := prog_1_method_30_code
def yX5_digest : MethodName := ⟨RX5, "digest", "()J"⟩
abbrev cX5_requireRow : ByteArray := prog_1_method_31_code
def yX5_requireRow : MethodName := ⟨RX5, "requireRow", "(I)V"⟩
abbrev cX5_requireColumn : ByteArray := prog_1_method_32_code
def yX5_requireColumn : MethodName := ⟨RX5, "requireColumn", "(I)V"⟩
abbrev cX5_requirePair : ByteArray := prog_1_method_33_code
def yX5_requirePair : MethodName := ⟨RX5, "requirePair", "(II)V"⟩
abbrev cX5_requireUsable : ByteArray := prog_1_method_34_code
def yX5_requireUsable : MethodName := ⟨RX5, "requireUsable", "(II)V"⟩
abbrev cX5_requireRanked : ByteArray := prog_1_method_35_code
def yX5_requireRanked : MethodName := ⟨RX5, "requireRanked", "(I)V"⟩
abbrev cX5_replaceCell : ByteArray := prog_1_method_36_code
def yX5_replaceCell : MethodName := ⟨RX5, "replaceCell", "(III)Z"⟩
abbrev cX5_solved : ByteArray := prog_1_method_37_code
def yX5_solved : MethodName := ⟨RX5, "solved", "()LAssignmentDesk$Solver;"⟩
abbrev cX5_isCost : ByteArray := prog_1_method_38_code
def yX5_isCost : MethodName := ⟨RX5, "isCost", "(J)Z"⟩
abbrev cX5_hasBit : ByteArray := prog_1_method_39_code
def yX5_hasBit : MethodName := ⟨RX5, "hasBit", "(II)Z"⟩
abbrev cX5_withBit : ByteArray := prog_1_method_40_code
def yX5_withBit : MethodName := ⟨RX5, "withBit", "(IIZ)I"⟩
def RX6 : String := "AssignmentDeskModel"
def TX6 : u_T := fun k => match k with
  | 0 => ("AssignmentDeskModel", "thrown", "I", false)
  | 1 => ("AssignmentDeskModel", "rows", "I", false)
  | 2 => ("AssignmentDeskModel", "columns", "I", false)
  | 3 => ("AssignmentDeskModel", "isRowActive", "[Z", true)
  | 4 => ("AssignmentDeskModel", "isColumnActive", "[Z", true)
  | 5 => ("AssignmentDeskModel", "isAllowed", "[Z", true)
  | 6 => ("AssignmentDeskModel", "costs", "[I", true)
  | 7 => ("AssignmentDeskModel", "levels", "I", false)
  | 8 => ("AssignmentDeskModel", "levelRows", "[I", true)
  | 9 => ("AssignmentDeskModel", "levelColumns", "[I", true)
  | 10 => ("AssignmentDeskModel", "levelRowActive", "[Z", true)
  | 11 => ("AssignmentDeskModel", "levelColumnActive", "[Z", true)
  | 12 => ("AssignmentDeskModel", "levelAllowed", "[Z", true)
  | 13 => ("AssignmentDeskModel", "levelCosts", "[I", true)
  | 14 => ("AssignmentDeskModel", "sizes", "[I", true)
  | 15 => ("AssignmentDeskModel", "least", "[I", true)
  | 16 => ("AssignmentDeskModel", "ways", "[I", true)
  | 17 => ("AssignmentDeskModel", "choices", "[I", true)
  | 18 => ("AssignmentDeskModel", "chosen", "[I", true)
  | 19 => ("AssignmentDeskModel", "listedMany", "I", false)
  | 20 => ("AssignmentDeskModel", "listedCosts", "[I", true)
  | 21 => ("AssignmentDeskModel", "listedColumns", "[I", true)
  | 22 => ("AssignmentDeskModel", "isFull", "Z", false)
  | 23 => ("AssignmentDeskModel", "cost", "I", false)
  | 24 => ("AssignmentDeskModel", "parts", "I", false)
  | 25 => ("AssignmentDeskModel", "partCosts", "[I", true)
  | 26 => ("AssignmentDeskModel", "partChosen", "[I", true)
  | 27 => ("AssignmentDeskModel", "partFixed", "[I", true)
  | 28 => ("AssignmentDeskModel", "partAllowed", "[I", true)
  | _ => ("AssignmentDeskModel", "taken", "[I", true)
def tyX6 : Nat → FieldType := fun k => match k with
  | 0 => .int
  | 1 => .int
  | 2 => .int
  | 3 => .array .boolean
  | 4 => .array .boolean
  | 5 => .array .boolean
  | 6 => .array .int
  | 7 => .int
  | 8 => .array .int
  | 9 => .array .int
  | 10 => .array .boolean
  | 11 => .array .boolean
  | 12 => .array .boolean
  | 13 => .array .int
  | 14 => .array .int
  | 15 => .array .int
  | 16 => .array .int
  | 17 => .array .int
  | 18 => .array .int
  | 19 => .int
  | 20 => .array .int
  | 21 => .array .int
  | 22 => .boolean
  | 23 => .int
  | 24 => .int
  | 25 => .array .int
  | 26 => .array .int
  | 27 => .array .int
  | 28 => .array .int
  | _ => .array .int
abbrev wsX60 : List Cond := u_ws RX6 TX6 30
theorem nmX6 : ∀ a, a < 30 → ∀ b, b < 30 → a ≠ b → (TX6 a).2.1 ≠ (TX6 b).2.1 := by decide +kernel
theorem tyX6_ok : ∀ k, k < 30 → parseFieldDescriptor (TX6 k).2.2.1 = some (tyX6 k) := by decide +kernel
abbrev cX6_init : ByteArray := prog_8_method_1_code
def yX6_init : MethodName := ⟨RX6, "<init>", "()V"⟩
abbrev cX6_thrown : ByteArray := prog_8_method_2_code
def yX6_thrown : MethodName := ⟨RX6, "thrown", "()I"⟩
abbrev cX6_fail : ByteArray := prog_8_method_3_code
def yX6_fail : MethodName := ⟨RX6, "fail", "(I)I"⟩
abbrev cX6_failed : ByteArray := prog_8_method_4_code
def yX6_failed : MethodName := ⟨RX6, "failed", "(I)Z"⟩
abbrev cX6_isRow : ByteArray := prog_8_method_5_code
def yX6_isRow : MethodName := ⟨RX6, "isRow", "(I)Z"⟩
abbrev cX6_isColumn : ByteArray := prog_8_method_6_code
def yX6_isColumn : MethodName := ⟨RX6, "isColumn", "(I)Z"⟩
abbrev cX6_isPair : ByteArray := prog_8_method_7_code
def yX6_isPair : MethodName := ⟨RX6, "isPair", "(II)Z"⟩
abbrev cX6_isCost : ByteArray := prog_8_method_8_code
def yX6_isCost : MethodName := ⟨RX6, "isCost", "(J)Z"⟩
abbrev cX6_isUsable : ByteArray := prog_8_method_9_code
def yX6_isUsable : MethodName := ⟨RX6, "isUsable", "(II)Z"⟩
abbrev cX6_addRow : ByteArray := prog_8_method_10_code
def yX6_addRow : MethodName := ⟨RX6, "addRow", "()I"⟩
abbrev cX6_addColumn : ByteArray := prog_8_method_11_code
def yX6_addColumn : MethodName := ⟨RX6, "addColumn", "()I"⟩
abbrev cX6_setRow : ByteArray := prog_8_method_12_code
def yX6_setRow : MethodName := ⟨RX6, "setRow", "(IZ)Z"⟩
abbrev cX6_setColumn : ByteArray := prog_8_method_13_code
def yX6_setColumn : MethodName := ⟨RX6, "setColumn", "(IZ)Z"⟩
abbrev cX6_setCost : ByteArray := prog_8_method_14_code
def yX6_setCost : MethodName := ⟨RX6, "setCost", "(III)Z"⟩
abbrev cX6_forbid : ByteArray := prog_8_method_15_code
def yX6_forbid : MethodName := ⟨RX6, "forbid", "(II)Z"⟩
abbrev cX6_addToRow : ByteArray := prog_8_method_16_code
def yX6_addToRow : MethodName := ⟨RX6, "addToRow", "(II)I"⟩
abbrev cX6_scaleColumn : ByteArray := prog_8_method_17_code
def yX6_scaleColumn : MethodName := ⟨RX6, "scaleColumn", "(ID)I"⟩
abbrev cX6_rowCount : ByteArray := prog_8_method_18_code
def yX6_rowCount : MethodName := ⟨RX6, "rowCount", "()I"⟩
abbrev cX6_columnCount : ByteArray := prog_8_method_19_code
def yX6_columnCount : MethodName := ⟨RX6, "columnCount", "()I"⟩
abbrev cX6_isAllowed : ByteArray := prog_8_method_20_code
def yX6_isAllowed : MethodName := ⟨RX6, "isAllowed", "(II)Z"⟩
abbrev cX6_cost : ByteArray := prog_8_method_21_code
def yX6_cost : MethodName := ⟨RX6, "cost", "(II)I"⟩
abbrev cX6_setChoices : ByteArray := prog_8_method_22_code
def yX6_setChoices : MethodName := ⟨RX6, "setChoices", "()V"⟩
abbrev cX6_fill : ByteArray := prog_8_method_23_code
def yX6_fill : MethodName := ⟨RX6, "fill", "()V"⟩
abbrev cX6_fill_ : ByteArray := prog_8_method_24_code
def yX6_fill_ : MethodName := ⟨RX6, "fill", "(II)V"⟩
abbrev cX6_costOf : ByteArray := prog_8_method_25_code
def yX6_costOf : MethodName := ⟨RX6, "costOf", "(II)I"⟩
abbrev cX6_columnOfBit : ByteArray := prog_8_method_26_code
def yX6_columnOfBit : MethodName := ⟨RX6, "columnOfBit", "(I)I"⟩
abbrev cX6_choose : ByteArray := prog_8_method_27_code
def yX6_choose : MethodName := ⟨RX6, "choose", "()V"⟩
abbrev cX6_isBest : ByteArray := prog_8_method_28_code
def yX6_isBest : MethodName := ⟨RX6, "isBest", "(IIII)Z"⟩
abbrev cX6_solve : ByteArray := prog_8_method_29_code
def yX6_solve : MethodName := ⟨RX6, "solve", "()V"⟩
abbrev cX6_size : ByteArray := prog_8_method_30_code
def yX6_size : MethodName := ⟨RX6, "size", "()I"⟩
abbrev cX6_total : ByteArray := prog_8_method_31_code
def yX6_total : MethodName := ⟨RX6, "total", "()I"⟩
abbrev cX6_meanCost : ByteArray := prog_8_method_32_code
def yX6_meanCost : MethodName := ⟨RX6, "meanCost", "()D"⟩
abbrev cX6_columnOf : ByteArray := prog_8_method_33_code
def yX6_columnOf : MethodName := ⟨RX6, "columnOf", "(I)I"⟩
abbrev cX6_rowOf : ByteArray := prog_8_method_34_code
def yX6_rowOf : MethodName := ⟨RX6, "rowOf", "(I)I"⟩
abbrev cX6_optimalCount : ByteArray := prog_8_method_35_code
def yX6_optimalCount : MethodName := ⟨RX6, "optimalCount", "()I"⟩
abbrev cX6_solveWith : ByteArray := prog_8_method_36_code
def yX6_solveWith : MethodName := ⟨RX6, "solveWith", "(II)V"⟩
abbrev cX6_isPossible : ByteArray := prog_8_method_37_code
def yX6_isPossible : MethodName := ⟨RX6, "isPossible", "(II)Z"⟩
abbrev cX6_isCertain : ByteArray := prog_8_method_38_code
def yX6_isCertain : MethodName := ⟨RX6, "isCertain", "(II)Z"⟩
abbrev cX6_regret : ByteArray := prog_8_method_39_code
def yX6_regret : MethodName := ⟨RX6, "regret", "(II)I"⟩
abbrev cX6_loss : ByteArray := prog_8_method_40_code
def yX6_loss : MethodName := ⟨RX6, "loss", "(II)I"⟩
abbrev cX6_greatestCost : ByteArray := prog_8_method_41_code
def yX6_greatestCost : MethodName := ⟨RX6, "greatestCost", "(II)I"⟩
abbrev cX6_addPart : ByteArray := prog_8_method_42_code
def yX6_addPart : MethodName := ⟨RX6, "addPart", "([IIIII)V"⟩
abbrev cX6_isAhead : ByteArray := prog_8_method_43_code
def yX6_isAhead : MethodName := ⟨RX6, "isAhead", "(II)Z"⟩
abbrev cX6_remove : ByteArray := prog_8_method_44_code
def yX6_remove : MethodName := ⟨RX6, "remove", "(I)V"⟩
abbrev cX6_rank : ByteArray := prog_8_method_45_code
def yX6_rank : MethodName := ⟨RX6, "rank", "(I)I"⟩
abbrev cX6_rankedCost : ByteArray := prog_8_method_46_code
def yX6_rankedCost : MethodName := ⟨RX6, "rankedCost", "(I)I"⟩
abbrev cX6_rankedColumn : ByteArray := prog_8_method_47_code
def yX6_rankedColumn : MethodName := ⟨RX6, "rankedColumn", "(II)I"⟩
abbrev cX6_push : ByteArray := prog_8_method_48_code
def yX6_push : MethodName := ⟨RX6, "push", "()I"⟩
abbrev cX6_pop : ByteArray := prog_8_method_49_code
def yX6_pop : MethodName := ⟨RX6, "pop", "()I"⟩
abbrev cX6_digest : ByteArray := prog_8_method_50_code
def yX6_digest : MethodName := ⟨RX6, "digest", "()J"⟩
def RJx145de : String := "java/io/Serializable"
def TJx145de : u_T := fun k => match k with
  | _ => ("", "", "", false)
def tyJx145de : Nat → FieldType := fun k => match k with
  | _ => .int
abbrev wsJx145de0 : List Cond := u_ws RJx145de TJx145de 0
theorem nmJx145de : ∀ a, a < 0 → ∀ b, b < 0 → a ≠ b → (TJx145de a).2.1 ≠ (TJx145de b).2.1 := by decide +kernel
theorem tyJx145de_ok : ∀ k, k < 0 → parseFieldDescriptor (TJx145de k).2.2.1 = some (tyJx145de k) := by decide +kernel
def RJx00060 : String := "java/lang/ArrayIndexOutOfBoundsException"
def TJx00060 : u_T := fun k => match k with
  | 0 => ("java/lang/Throwable", "backtrace", "Ljava/lang/Object;", false)
  | 1 => ("java/lang/Throwable", "detailMessage", "Ljava/lang/String;", false)
  | 2 => ("java/lang/Throwable", "cause", "Ljava/lang/Throwable;", false)
  | 3 => ("java/lang/Throwable", "stackTrace", "[Ljava/lang/StackTraceElement;", false)
  | 4 => ("java/lang/Throwable", "depth", "I", false)
  | _ => ("java/lang/Throwable", "suppressedExceptions", "Ljava/util/List;", false)
def tyJx00060 : Nat → FieldType := fun k => match k with
  | 0 => .object "java/lang/Object"
  | 1 => .object "java/lang/String"
  | 2 => .object "java/lang/Throwable"
  | 3 => .array (.object "java/lang/StackTraceElement")
  | 4 => .int
  | _ => .object "java/util/List"
abbrev wsJx000600 : List Cond := u_ws RJx00060 TJx00060 6
theorem nmJx00060 : ∀ a, a < 6 → ∀ b, b < 6 → a ≠ b → (TJx00060 a).2.1 ≠ (TJx00060 b).2.1 := by decide +kernel
theorem tyJx00060_ok : ∀ k, k < 6 → parseFieldDescriptor (TJx00060 k).2.2.1 = some (tyJx00060 k) := by decide +kernel
abbrev cJx00060_init_a7421 : ByteArray := prog_11_method_2_code
def yJx00060_init_a7421 : MethodName := ⟨RJx00060, "<init>", "(Ljava/lang/String;)V"⟩
def RJxb160c : String := "java/lang/Comparable"
def TJxb160c : u_T := fun k => match k with
  | _ => ("", "", "", false)
def tyJxb160c : Nat → FieldType := fun k => match k with
  | _ => .int
abbrev wsJxb160c0 : List Cond := u_ws RJxb160c TJxb160c 0
theorem nmJxb160c : ∀ a, a < 0 → ∀ b, b < 0 → a ≠ b → (TJxb160c a).2.1 ≠ (TJxb160c b).2.1 := by decide +kernel
theorem tyJxb160c_ok : ∀ k, k < 0 → parseFieldDescriptor (TJxb160c k).2.2.1 = some (tyJxb160c k) := by decide +kernel
def RJxe99ae : String := "java/lang/Double"
def TJxe99ae : u_T := fun k => match k with
  | _ => ("", "", "", false)
def tyJxe99ae : Nat → FieldType := fun k => match k with
  | _ => .int
abbrev wsJxe99ae0 : List Cond := u_ws RJxe99ae TJxe99ae 0
theorem nmJxe99ae : ∀ a, a < 0 → ∀ b, b < 0 → a ≠ b → (TJxe99ae a).2.1 ≠ (TJxe99ae b).2.1 := by decide +kernel
theorem tyJxe99ae_ok : ∀ k, k < 0 → parseFieldDescriptor (TJxe99ae k).2.2.1 = some (tyJxe99ae k) := by decide +kernel
def RJ6 : String := "java/lang/Integer"
def TJ6 : u_T := fun k => match k with
  | _ => ("", "", "", false)
def tyJ6 : Nat → FieldType := fun k => match k with
  | _ => .int
abbrev wsJ60 : List Cond := u_ws RJ6 TJ6 0
theorem nmJ6 : ∀ a, a < 0 → ∀ b, b < 0 → a ≠ b → (TJ6 a).2.1 ≠ (TJ6 b).2.1 := by decide +kernel
theorem tyJ6_ok : ∀ k, k < 0 → parseFieldDescriptor (TJ6 k).2.2.1 = some (tyJ6 k) := by decide +kernel
abbrev cJ6_bitCount_0f7a4 : ByteArray := prog_18_method_49_code
def yJ6_bitCount_0f7a4 : MethodName := ⟨RJ6, "bitCount", "(I)I"⟩
def RJ9 : String := "java/lang/Math"
def TJ9 : u_T := fun k => match k with
  | _ => ("", "", "", false)
def tyJ9 : Nat → FieldType := fun k => match k with
  | _ => .int
abbrev wsJ90 : List Cond := u_ws RJ9 TJ9 0
theorem nmJ9 : ∀ a, a < 0 → ∀ b, b < 0 → a ≠ b → (TJ9 a).2.1 ≠ (TJ9 b).2.1 := by decide +kernel
theorem tyJ9_ok : ∀ k, k < 0 → parseFieldDescriptor (TJ9 k).2.2.1 = some (tyJ9 k) := by decide +kernel
abbrev cJ9_rint_294c1 : ByteArray := prog_19_method_18_code
def yJ9_rint_294c1 : MethodName := ⟨RJ9, "rint", "(D)D"⟩
abbrev cJ9_abs_294c1 : ByteArray := prog_19_method_64_code
def yJ9_abs_294c1 : MethodName := ⟨RJ9, "abs", "(D)D"⟩
abbrev cJ9_min_7cf53 : ByteArray := prog_19_method_69_code
def yJ9_min_7cf53 : MethodName := ⟨RJ9, "min", "(II)I"⟩
abbrev cJ9_copySign_eb370 : ByteArray := prog_19_method_89_code
def yJ9_copySign_eb370 : MethodName := ⟨RJ9, "copySign", "(DD)D"⟩
def RJxd2413 : String := "java/lang/Number"
def TJxd2413 : u_T := fun k => match k with
  | _ => ("", "", "", false)
def tyJxd2413 : Nat → FieldType := fun k => match k with
  | _ => .int
abbrev wsJxd24130 : List Cond := u_ws RJxd2413 TJxd2413 0
theorem nmJxd2413 : ∀ a, a < 0 → ∀ b, b < 0 → a ≠ b → (TJxd2413 a).2.1 ≠ (TJxd2413 b).2.1 := by decide +kernel
theorem tyJxd2413_ok : ∀ k, k < 0 → parseFieldDescriptor (TJxd2413 k).2.2.1 = some (tyJxd2413 k) := by decide +kernel
def RJxfc994 : String := "java/lang/StrictMath"
def TJxfc994 : u_T := fun k => match k with
  | _ => ("", "", "", false)
def tyJxfc994 : Nat → FieldType := fun k => match k with
  | _ => .int
abbrev wsJxfc9940 : List Cond := u_ws RJxfc994 TJxfc994 0
theorem nmJxfc994 : ∀ a, a < 0 → ∀ b, b < 0 → a ≠ b → (TJxfc994 a).2.1 ≠ (TJxfc994 b).2.1 := by decide +kernel
theorem tyJxfc994_ok : ∀ k, k < 0 → parseFieldDescriptor (TJxfc994 k).2.2.1 = some (tyJxfc994 k) := by decide +kernel
abbrev cJxfc994_rint_294c1 : ByteArray := prog_22_method_19_code
def yJxfc994_rint_294c1 : MethodName := ⟨RJxfc994, "rint", "(D)D"⟩
def RJ0 : String := "java/lang/String"
def TJ0 : u_T := fun k => match k with
  | 0 => ("java/lang/String", "value", "[B", true)
  | _ => ("java/lang/String", "coder", "B", true)
def tyJ0 : Nat → FieldType := fun k => match k with
  | 0 => .array .byte
  | _ => .byte
abbrev wsJ00 : List Cond := u_ws RJ0 TJ0 2
theorem nmJ0 : ∀ a, a < 2 → ∀ b, b < 2 → a ≠ b → (TJ0 a).2.1 ≠ (TJ0 b).2.1 := by decide +kernel
theorem tyJ0_ok : ∀ k, k < 2 → parseFieldDescriptor (TJ0 k).2.2.1 = some (tyJ0 k) := by decide +kernel
def RJ10 : String := "java/lang/System"
def TJ10 : u_T := fun k => match k with
  | _ => ("", "", "", false)
def tyJ10 : Nat → FieldType := fun k => match k with
  | _ => .int
abbrev wsJ100 : List Cond := u_ws RJ10 TJ10 0
theorem nmJ10 : ∀ a, a < 0 → ∀ b, b < 0 → a ≠ b → (TJ10 a).2.1 ≠ (TJ10 b).2.1 := by decide +kernel
theorem tyJ10_ok : ∀ k, k < 0 → parseFieldDescriptor (TJ10 k).2.2.1 = some (tyJ10 k) := by decide +kernel
def RJxfd54e : String := "java/lang/constant/Constable"
def TJxfd54e : u_T := fun k => match k with
  | _ => ("", "", "", false)
def tyJxfd54e : Nat → FieldType := fun k => match k with
  | _ => .int
abbrev wsJxfd54e0 : List Cond := u_ws RJxfd54e TJxfd54e 0
theorem nmJxfd54e : ∀ a, a < 0 → ∀ b, b < 0 → a ≠ b → (TJxfd54e a).2.1 ≠ (TJxfd54e b).2.1 := by decide +kernel
theorem tyJxfd54e_ok : ∀ k, k < 0 → parseFieldDescriptor (TJxfd54e k).2.2.1 = some (tyJxfd54e k) := by decide +kernel
def RJx3cf43 : String := "java/lang/constant/ConstantDesc"
def TJx3cf43 : u_T := fun k => match k with
  | _ => ("", "", "", false)
def tyJx3cf43 : Nat → FieldType := fun k => match k with
  | _ => .int
abbrev wsJx3cf430 : List Cond := u_ws RJx3cf43 TJx3cf43 0
theorem nmJx3cf43 : ∀ a, a < 0 → ∀ b, b < 0 → a ≠ b → (TJx3cf43 a).2.1 ≠ (TJx3cf43 b).2.1 := by decide +kernel
theorem tyJx3cf43_ok : ∀ k, k < 0 → parseFieldDescriptor (TJx3cf43 k).2.2.1 = some (tyJx3cf43 k) := by decide +kernel
def RJ7 : String := "java/util/Arrays"
def TJ7 : u_T := fun k => match k with
  | _ => ("", "", "", false)
def tyJ7 : Nat → FieldType := fun k => match k with
  | _ => .int
abbrev wsJ70 : List Cond := u_ws RJ7 TJ7 0
theorem nmJ7 : ∀ a, a < 0 → ∀ b, b < 0 → a ≠ b → (TJ7 a).2.1 ≠ (TJ7 b).2.1 := by decide +kernel
theorem tyJ7_ok : ∀ k, k < 0 → parseFieldDescriptor (TJ7 k).2.2.1 = some (tyJ7 k) := by decide +kernel
abbrev cJ7_fill_53178 : ByteArray := prog_28_method_103_code
def yJ7_fill_53178 : MethodName := ⟨RJ7, "fill", "([II)V"⟩
def RL : String := "AssignmentDeskLaw"
abbrev cL_addRow : ByteArray := method_3_code
def yL_addRow : MethodName := ⟨RL, "addRow", "(LAssignmentDesk;[J)I"⟩
abbrev cL_addColumn : ByteArray := method_4_code
def yL_addColumn : MethodName := ⟨RL, "addColumn", "(LAssignmentDesk;[J)I"⟩
abbrev cL_setRow : ByteArray := method_5_code
def yL_setRow : MethodName := ⟨RL, "setRow", "(LAssignmentDesk;IZ[J)I"⟩
abbrev cL_setColumn : ByteArray := method_6_code
def yL_setColumn : MethodName := ⟨RL, "setColumn", "(LAssignmentDesk;IZ[J)I"⟩
abbrev cL_setCost : ByteArray := method_7_code
def yL_setCost : MethodName := ⟨RL, "setCost", "(LAssignmentDesk;III[J)I"⟩
abbrev cL_forbid : ByteArray := method_8_code
def yL_forbid : MethodName := ⟨RL, "forbid", "(LAssignmentDesk;II[J)I"⟩
abbrev cL_addToRow : ByteArray := method_9_code
def yL_addToRow : MethodName := ⟨RL, "addToRow", "(LAssignmentDesk;II[J)I"⟩
abbrev cL_scaleColumn : ByteArray := method_10_code
def yL_scaleColumn : MethodName := ⟨RL, "scaleColumn", "(LAssignmentDesk;ID[J)I"⟩
abbrev cL_isAllowed : ByteArray := method_11_code
def yL_isAllowed : MethodName := ⟨RL, "isAllowed", "(LAssignmentDesk;II[J)I"⟩
abbrev cL_cost : ByteArray := method_12_code
def yL_cost : MethodName := ⟨RL, "cost", "(LAssignmentDesk;II[J)I"⟩
abbrev cL_columnOf : ByteArray := method_13_code
def yL_columnOf : MethodName := ⟨RL, "columnOf", "(LAssignmentDesk;I[J)I"⟩
abbrev cL_rowOf : ByteArray := method_14_code
def yL_rowOf : MethodName := ⟨RL, "rowOf", "(LAssignmentDesk;I[J)I"⟩
abbrev cL_isPossible : ByteArray := method_15_code
def yL_isPossible : MethodName := ⟨RL, "isPossible", "(LAssignmentDesk;II[J)I"⟩
abbrev cL_isCertain : ByteArray := method_16_code
def yL_isCertain : MethodName := ⟨RL, "isCertain", "(LAssignmentDesk;II[J)I"⟩
abbrev cL_regret : ByteArray := method_17_code
def yL_regret : MethodName := ⟨RL, "regret", "(LAssignmentDesk;II[J)I"⟩
abbrev cL_loss : ByteArray := method_18_code
def yL_loss : MethodName := ⟨RL, "loss", "(LAssignmentDesk;II[J)I"⟩
abbrev cL_greatestCost : ByteArray := method_19_code
def yL_greatestCost : MethodName := ⟨RL, "greatestCost", "(LAssignmentDesk;II[J)I"⟩
abbrev cL_rank : ByteArray := method_20_code
def yL_rank : MethodName := ⟨RL, "rank", "(LAssignmentDesk;I[J)I"⟩
abbrev cL_rankedCost : ByteArray := method_21_code
def yL_rankedCost : MethodName := ⟨RL, "rankedCost", "(LAssignmentDesk;I[J)I"⟩
abbrev cL_rankedColumn : ByteArray := method_22_code
def yL_rankedColumn : MethodName := ⟨RL, "rankedColumn", "(LAssignmentDesk;II[J)I"⟩
abbrev cL_push : ByteArray := method_23_code
def yL_push : MethodName := ⟨RL, "push", "(LAssignmentDesk;[J)I"⟩
abbrev cL_pop : ByteArray := method_24_code
def yL_pop : MethodName := ⟨RL, "pop", "(LAssignmentDesk;[J)I"⟩
abbrev cL_law : ByteArray := code
def yL_law : MethodName := ⟨RL, "law", "([I)Z"⟩
abbrev vwCl : List vw_C := [(RJ0, TJ0, 2), (RJx00060, TJx00060, 6), (RX0, TX0, 5), (RX1, TX1, 4), (RX2, TX2, 2), (RX3, TX3, 8), (RX4, TX4, 5), (RX5, TX5, 5), (RX6, TX6, 30)]
end
section
theorem dX0_init_0 : decode cX0_init 0 = .ok (.aload_n 0, 1) := by decide +kernel
theorem dX0_init_1 : decode cX0_init 1 = .ok (.invokespecial 3, 3) := by decide +kernel
theorem dX0_init_4 : decode cX0_init 4 = .ok (.aload_n 0, 1) := by decide +kernel
theorem dX0_init_5 : decode cX0_init 5 = .ok (.bipush 30, 2) := by decide +kernel
theorem dX0_init_7 : decode cX0_init 7 = .ok (.newarray .int, 2) := by decide +kernel
theorem dX0_init_9 : decode cX0_init 9 = .ok (.putfield 9, 3) := by decide +kernel
theorem dX0_init_12 : decode cX0_init 12 = .ok (.aload_n 0, 1) := by decide +kernel
theorem dX0_init_13 : decode cX0_init 13 = .ok (.bipush 30, 2) := by decide +kernel
theorem dX0_init_15 : decode cX0_init 15 = .ok (.newarray .long, 2) := by decide +kernel
theorem dX0_init_17 : decode cX0_init 17 = .ok (.putfield 15, 3) := by decide +kernel
theorem dX0_init_20 : decode cX0_init 20 = .ok (.aload_n 0, 1) := by decide +kernel
theorem dX0_init_21 : decode cX0_init 21 = .ok (.bipush 30, 2) := by decide +kernel
theorem dX0_init_23 : decode cX0_init 23 = .ok (.newarray .int, 2) := by decide +kernel
theorem dX0_init_25 : decode cX0_init 25 = .ok (.putfield 19, 3) := by decide +kernel
theorem dX0_init_28 : decode cX0_init 28 = .ok (.aload_n 0, 1) := by decide +kernel
theorem dX0_init_29 : decode cX0_init 29 = .ok (.bipush 30, 2) := by decide +kernel
theorem dX0_init_31 : decode cX0_init 31 = .ok (.newarray .int, 2) := by decide +kernel
theorem dX0_init_33 : decode cX0_init 33 = .ok (.putfield 22, 3) := by decide +kernel
theorem dX0_init_36 : decode cX0_init 36 = .ok (.return_, 1) := by decide +kernel
theorem dX0_offer_0 : decode cX0_offer 0 = .ok (.aload_n 0, 1) := by decide +kernel
theorem dX0_offer_1 : decode cX0_offer 1 = .ok (.getfield 25, 3) := by decide +kernel
theorem dX0_offer_4 : decode cX0_offer 4 = .ok (.iload 6, 2) := by decide +kernel
theorem dX0_offer_6 : decode cX0_offer 6 = .ok (.if_icmp .lt 25, 3) := by decide +kernel
theorem dX0_offer_9 : decode cX0_offer 9 = .ok (.aload_n 0, 1) := by decide +kernel
theorem dX0_offer_10 : decode cX0_offer 10 = .ok (.iload_n 1, 1) := by decide +kernel
theorem dX0_offer_11 : decode cX0_offer 11 = .ok (.lload_n 2, 1) := by decide +kernel
theorem dX0_offer_12 : decode cX0_offer 12 = .ok (.iload 6, 2) := by decide +kernel
theorem dX0_offer_14 : decode cX0_offer 14 = .ok (.iconst 1, 1) := by decide +kernel
theorem dX0_offer_15 : decode cX0_offer 15 = .ok (.isub, 1) := by decide +kernel
theorem dX0_offer_16 : decode cX0_offer 16 = .ok (.invokevirtual 29, 3) := by decide +kernel
theorem dX0_offer_19 : decode cX0_offer 19 = .ok (.ifCond .ne 4, 3) := by decide +kernel
theorem dX0_offer_22 : decode cX0_offer 22 = .ok (.return_, 1) := by decide +kernel
theorem dX0_offer_23 : decode cX0_offer 23 = .ok (.aload_n 0, 1) := by decide +kernel
theorem dX0_offer_24 : decode cX0_offer 24 = .ok (.iload 6, 2) := by decide +kernel
theorem dX0_offer_26 : decode cX0_offer 26 = .ok (.iconst 1, 1) := by decide +kernel
theorem dX0_offer_27 : decode cX0_offer 27 = .ok (.isub, 1) := by decide +kernel
theorem dX0_offer_28 : decode cX0_offer 28 = .ok (.putfield 25, 3) := by decide +kernel
theorem dX0_offer_31 : decode cX0_offer 31 = .ok (.aload_n 0, 1) := by decide +kernel
theorem dX0_offer_32 : decode cX0_offer 32 = .ok (.getfield 25, 3) := by decide +kernel
theorem dX0_offer_35 : decode cX0_offer 35 = .ok (.istore 7, 2) := by decide +kernel
theorem dX0_offer_37 : decode cX0_offer 37 = .ok (.iload 7, 2) := by decide +kernel
theorem dX0_offer_39 : decode cX0_offer 39 = .ok (.ifCond .le 30, 3) := by decide +kernel
theorem dX0_offer_42 : decode cX0_offer 42 = .ok (.aload_n 0, 1) := by decide +kernel
theorem dX0_offer_43 : decode cX0_offer 43 = .ok (.iload_n 1, 1) := by decide +kernel
theorem dX0_offer_44 : decode cX0_offer 44 = .ok (.lload_n 2, 1) := by decide +kernel
theorem dX0_offer_45 : decode cX0_offer 45 = .ok (.iload 7, 2) := by decide +kernel
theorem dX0_offer_47 : decode cX0_offer 47 = .ok (.iconst 1, 1) := by decide +kernel
theorem dX0_offer_48 : decode cX0_offer 48 = .ok (.isub, 1) := by decide +kernel
theorem dX0_offer_49 : decode cX0_offer 49 = .ok (.invokevirtual 29, 3) := by decide +kernel
theorem dX0_offer_52 : decode cX0_offer 52 = .ok (.ifCond .eq 17, 3) := by decide +kernel
theorem dX0_offer_55 : decode cX0_offer 55 = .ok (.aload_n 0, 1) := by decide +kernel
theorem dX0_offer_56 : decode cX0_offer 56 = .ok (.iload 7, 2) := by decide +kernel
theorem dX0_offer_58 : decode cX0_offer 58 = .ok (.iconst 1, 1) := by decide +kernel
theorem dX0_offer_59 : decode cX0_offer 59 = .ok (.isub, 1) := by decide +kernel
theorem dX0_offer_60 : decode cX0_offer 60 = .ok (.invokevirtual 33, 3) := by decide +kernel
theorem dX0_offer_63 : decode cX0_offer 63 = .ok (.iinc 7 (-1), 3) := by decide +kernel
theorem dX0_offer_66 : decode cX0_offer 66 = .ok (.goto (-29), 3) := by decide +kernel
theorem dX0_offer_69 : decode cX0_offer 69 = .ok (.aload_n 0, 1) := by decide +kernel
theorem dX0_offer_70 : decode cX0_offer 70 = .ok (.getfield 9, 3) := by decide +kernel
theorem dX0_offer_73 : decode cX0_offer 73 = .ok (.iload 7, 2) := by decide +kernel
theorem dX0_offer_75 : decode cX0_offer 75 = .ok (.iload_n 1, 1) := by decide +kernel
theorem dX0_offer_76 : decode cX0_offer 76 = .ok (.iastore, 1) := by decide +kernel
theorem dX0_offer_77 : decode cX0_offer 77 = .ok (.aload_n 0, 1) := by decide +kernel
theorem dX0_offer_78 : decode cX0_offer 78 = .ok (.getfield 15, 3) := by decide +kernel
theorem dX0_offer_81 : decode cX0_offer 81 = .ok (.iload 7, 2) := by decide +kernel
theorem dX0_offer_83 : decode cX0_offer 83 = .ok (.lload_n 2, 1) := by decide +kernel
theorem dX0_offer_84 : decode cX0_offer 84 = .ok (.lastore, 1) := by decide +kernel
theorem dX0_offer_85 : decode cX0_offer 85 = .ok (.aload_n 0, 1) := by decide +kernel
theorem dX0_offer_86 : decode cX0_offer 86 = .ok (.getfield 19, 3) := by decide +kernel
theorem dX0_offer_89 : decode cX0_offer 89 = .ok (.iload 7, 2) := by decide +kernel
theorem dX0_offer_91 : decode cX0_offer 91 = .ok (.iload 4, 2) := by decide +kernel
theorem dX0_offer_93 : decode cX0_offer 93 = .ok (.iastore, 1) := by decide +kernel
theorem dX0_offer_94 : decode cX0_offer 94 = .ok (.aload_n 0, 1) := by decide +kernel
theorem dX0_offer_95 : decode cX0_offer 95 = .ok (.getfield 22, 3) := by decide +kernel
theorem dX0_offer_98 : decode cX0_offer 98 = .ok (.iload 7, 2) := by decide +kernel
theorem dX0_offer_100 : decode cX0_offer 100 = .ok (.iload 5, 2) := by decide +kernel
theorem dX0_offer_102 : decode cX0_offer 102 = .ok (.iastore, 1) := by decide +kernel
theorem dX0_offer_103 : decode cX0_offer 103 = .ok (.aload_n 0, 1) := by decide +kernel
theorem dX0_offer_104 : decode cX0_offer 104 = .ok (.dup, 1) := by decide +kernel
theorem dX0_offer_105 : decode cX0_offer 105 = .ok (.getfield 25, 3) := by decide +kernel
theorem dX0_offer_108 : decode cX0_offer 108 = .ok (.iconst 1, 1) := by decide +kernel
theorem dX0_offer_109 : decode cX0_offer 109 = .ok (.iadd, 1) := by decide +kernel
theorem dX0_offer_110 : decode cX0_offer 110 = .ok (.putfield 25, 3) := by decide +kernel
theorem dX0_offer_113 : decode cX0_offer 113 = .ok (.return_, 1) := by decide +kernel
theorem dX0_isBefore_0 : decode cX0_isBefore 0 = .ok (.iload_n 1, 1) := by decide +kernel
theorem dX0_isBefore_1 : decode cX0_isBefore 1 = .ok (.aload_n 0, 1) := by decide +kernel
theorem dX0_isBefore_2 : decode cX0_isBefore 2 = .ok (.getfield 9, 3) := by decide +kernel
theorem dX0_isBefore_5 : decode cX0_isBefore 5 = .ok (.iload 4, 2) := by decide +kernel
theorem dX0_isBefore_7 : decode cX0_isBefore 7 = .ok (.iaload, 1) := by decide +kernel
theorem dX0_isBefore_8 : decode cX0_isBefore 8 = .ok (.if_icmp .lt 26, 3) := by decide +kernel
theorem dX0_isBefore_11 : decode cX0_isBefore 11 = .ok (.iload_n 1, 1) := by decide +kernel
theorem dX0_isBefore_12 : decode cX0_isBefore 12 = .ok (.aload_n 0, 1) := by decide +kernel
theorem dX0_isBefore_13 : decode cX0_isBefore 13 = .ok (.getfield 9, 3) := by decide +kernel
theorem dX0_isBefore_16 : decode cX0_isBefore 16 = .ok (.iload 4, 2) := by decide +kernel
theorem dX0_isBefore_18 : decode cX0_isBefore 18 = .ok (.iaload, 1) := by decide +kernel
theorem dX0_isBefore_19 : decode cX0_isBefore 19 = .ok (.if_icmp .ne 19, 3) := by decide +kernel
theorem dX0_isBefore_22 : decode cX0_isBefore 22 = .ok (.lload_n 2, 1) := by decide +kernel
theorem dX0_isBefore_23 : decode cX0_isBefore 23 = .ok (.aload_n 0, 1) := by decide +kernel
theorem dX0_isBefore_24 : decode cX0_isBefore 24 = .ok (.getfield 15, 3) := by decide +kernel
theorem dX0_isBefore_27 : decode cX0_isBefore 27 = .ok (.iload 4, 2) := by decide +kernel
theorem dX0_isBefore_29 : decode cX0_isBefore 29 = .ok (.laload, 1) := by decide +kernel
theorem dX0_isBefore_30 : decode cX0_isBefore 30 = .ok (.lcmp, 1) := by decide +kernel
theorem dX0_isBefore_31 : decode cX0_isBefore 31 = .ok (.ifCond .ge 7, 3) := by decide +kernel
theorem dX0_isBefore_34 : decode cX0_isBefore 34 = .ok (.iconst 1, 1) := by decide +kernel
theorem dX0_isBefore_35 : decode cX0_isBefore 35 = .ok (.goto 4, 3) := by decide +kernel
theorem dX0_isBefore_38 : decode cX0_isBefore 38 = .ok (.iconst 0, 1) := by decide +kernel
theorem dX0_isBefore_39 : decode cX0_isBefore 39 = .ok (.ireturn, 1) := by decide +kernel
theorem dX0_moveBack_0 : decode cX0_moveBack 0 = .ok (.aload_n 0, 1) := by decide +kernel
theorem dX0_moveBack_1 : decode cX0_moveBack 1 = .ok (.getfield 9, 3) := by decide +kernel
theorem dX0_moveBack_4 : decode cX0_moveBack 4 = .ok (.iload_n 1, 1) := by decide +kernel
theorem dX0_moveBack_5 : decode cX0_moveBack 5 = .ok (.iconst 1, 1) := by decide +kernel
theorem dX0_moveBack_6 : decode cX0_moveBack 6 = .ok (.iadd, 1) := by decide +kernel
theorem dX0_moveBack_7 : decode cX0_moveBack 7 = .ok (.aload_n 0, 1) := by decide +kernel
theorem dX0_moveBack_8 : decode cX0_moveBack 8 = .ok (.getfield 9, 3) := by decide +kernel
theorem dX0_moveBack_11 : decode cX0_moveBack 11 = .ok (.iload_n 1, 1) := by decide +kernel
theorem dX0_moveBack_12 : decode cX0_moveBack 12 = .ok (.iaload, 1) := by decide +kernel
theorem dX0_moveBack_13 : decode cX0_moveBack 13 = .ok (.iastore, 1) := by decide +kernel
theorem dX0_moveBack_14 : decode cX0_moveBack 14 = .ok (.aload_n 0, 1) := by decide +kernel
theorem dX0_moveBack_15 : decode cX0_moveBack 15 = .ok (.getfield 15, 3) := by decide +kernel
theorem dX0_moveBack_18 : decode cX0_moveBack 18 = .ok (.iload_n 1, 1) := by decide +kernel
theorem dX0_moveBack_19 : decode cX0_moveBack 19 = .ok (.iconst 1, 1) := by decide +kernel
theorem dX0_moveBack_20 : decode cX0_moveBack 20 = .ok (.iadd, 1) := by decide +kernel
theorem dX0_moveBack_21 : decode cX0_moveBack 21 = .ok (.aload_n 0, 1) := by decide +kernel
theorem dX0_moveBack_22 : decode cX0_moveBack 22 = .ok (.getfield 15, 3) := by decide +kernel
theorem dX0_moveBack_25 : decode cX0_moveBack 25 = .ok (.iload_n 1, 1) := by decide +kernel
theorem dX0_moveBack_26 : decode cX0_moveBack 26 = .ok (.laload, 1) := by decide +kernel
theorem dX0_moveBack_27 : decode cX0_moveBack 27 = .ok (.lastore, 1) := by decide +kernel
theorem dX0_moveBack_28 : decode cX0_moveBack 28 = .ok (.aload_n 0, 1) := by decide +kernel
theorem dX0_moveBack_29 : decode cX0_moveBack 29 = .ok (.getfield 19, 3) := by decide +kernel
theorem dX0_moveBack_32 : decode cX0_moveBack 32 = .ok (.iload_n 1, 1) := by decide +kernel
theorem dX0_moveBack_33 : decode cX0_moveBack 33 = .ok (.iconst 1, 1) := by decide +kernel
theorem dX0_moveBack_34 : decode cX0_moveBack 34 = .ok (.iadd, 1) := by decide +kernel
theorem dX0_moveBack_35 : decode cX0_moveBack 35 = .ok (.aload_n 0, 1) := by decide +kernel
theorem dX0_moveBack_36 : decode cX0_moveBack 36 = .ok (.getfield 19, 3) := by decide +kernel
theorem dX0_moveBack_39 : decode cX0_moveBack 39 = .ok (.iload_n 1, 1) := by decide +kernel
theorem dX0_moveBack_40 : decode cX0_moveBack 40 = .ok (.iaload, 1) := by decide +kernel
theorem dX0_moveBack_41 : decode cX0_moveBack 41 = .ok (.iastore, 1) := by decide +kernel
theorem dX0_moveBack_42 : decode cX0_moveBack 42 = .ok (.aload_n 0, 1) := by decide +kernel
theorem dX0_moveBack_43 : decode cX0_moveBack 43 = .ok (.getfield 22, 3) := by decide +kernel
theorem dX0_moveBack_46 : decode cX0_moveBack 46 = .ok (.iload_n 1, 1) := by decide +kernel
theorem dX0_moveBack_47 : decode cX0_moveBack 47 = .ok (.iconst 1, 1) := by decide +kernel
theorem dX0_moveBack_48 : decode cX0_moveBack 48 = .ok (.iadd, 1) := by decide +kernel
theorem dX0_moveBack_49 : decode cX0_moveBack 49 = .ok (.aload_n 0, 1) := by decide +kernel
theorem dX0_moveBack_50 : decode cX0_moveBack 50 = .ok (.getfield 22, 3) := by decide +kernel
theorem dX0_moveBack_53 : decode cX0_moveBack 53 = .ok (.iload_n 1, 1) := by decide +kernel
theorem dX0_moveBack_54 : decode cX0_moveBack 54 = .ok (.iaload, 1) := by decide +kernel
theorem dX0_moveBack_55 : decode cX0_moveBack 55 = .ok (.iastore, 1) := by decide +kernel
theorem dX0_moveBack_56 : decode cX0_moveBack 56 = .ok (.return_, 1) := by decide +kernel
theorem dX1_init_0 : decode cX1_init 0 = .ok (.aload_n 0, 1) := by decide +kernel
theorem dX1_init_1 : decode cX1_init 1 = .ok (.invokespecial 3, 3) := by decide +kernel
theorem dX1_init_4 : decode cX1_init 4 = .ok (.aload_n 0, 1) := by decide +kernel
theorem dX1_init_5 : decode cX1_init 5 = .ok (.sipush 800, 3) := by decide +kernel
theorem dX1_init_8 : decode cX1_init 8 = .ok (.newarray .int, 2) := by decide +kernel
theorem dX1_init_10 : decode cX1_init 10 = .ok (.putfield 9, 3) := by decide +kernel
theorem dX1_init_13 : decode cX1_init 13 = .ok (.aload_n 0, 1) := by decide +kernel
theorem dX1_init_14 : decode cX1_init 14 = .ok (.bipush 8, 2) := by decide +kernel
theorem dX1_init_16 : decode cX1_init 16 = .ok (.newarray .int, 2) := by decide +kernel
theorem dX1_init_18 : decode cX1_init 18 = .ok (.putfield 15, 3) := by decide +kernel
theorem dX1_init_21 : decode cX1_init 21 = .ok (.aload_n 0, 1) := by decide +kernel
theorem dX1_init_22 : decode cX1_init 22 = .ok (.bipush 8, 2) := by decide +kernel
theorem dX1_init_24 : decode cX1_init 24 = .ok (.newarray .int, 2) := by decide +kernel
theorem dX1_init_26 : decode cX1_init 26 = .ok (.putfield 18, 3) := by decide +kernel
theorem dX1_init_29 : decode cX1_init 29 = .ok (.return_, 1) := by decide +kernel
theorem dX1_store_0 : decode cX1_store 0 = .ok (.aload_n 1, 1) := by decide +kernel
theorem dX1_store_1 : decode cX1_store 1 = .ok (.getfield 21, 3) := by decide +kernel
theorem dX1_store_4 : decode cX1_store 4 = .ok (.iconst 0, 1) := by decide +kernel
theorem dX1_store_5 : decode cX1_store 5 = .ok (.aload_n 0, 1) := by decide +kernel
theorem dX1_store_6 : decode cX1_store 6 = .ok (.getfield 9, 3) := by decide +kernel
theorem dX1_store_9 : decode cX1_store 9 = .ok (.aload_n 0, 1) := by decide +kernel
theorem dX1_store_10 : decode cX1_store 10 = .ok (.getfield 24, 3) := by decide +kernel
theorem dX1_store_13 : decode cX1_store 13 = .ok (.bipush 100, 2) := by decide +kernel
theorem dX1_store_15 : decode cX1_store 15 = .ok (.imul, 1) := by decide +kernel
theorem dX1_store_16 : decode cX1_store 16 = .ok (.bipush 100, 2) := by decide +kernel
theorem dX1_store_18 : decode cX1_store 18 = .ok (.invokestatic 28, 3) := by decide +kernel
theorem dX1_store_21 : decode cX1_store 21 = .ok (.aload_n 0, 1) := by decide +kernel
theorem dX1_store_22 : decode cX1_store 22 = .ok (.getfield 15, 3) := by decide +kernel
theorem dX1_store_25 : decode cX1_store 25 = .ok (.aload_n 0, 1) := by decide +kernel
theorem dX1_store_26 : decode cX1_store 26 = .ok (.getfield 24, 3) := by decide +kernel
theorem dX1_store_29 : decode cX1_store 29 = .ok (.aload_n 1, 1) := by decide +kernel
theorem dX1_store_30 : decode cX1_store 30 = .ok (.getfield 34, 3) := by decide +kernel
theorem dX1_store_33 : decode cX1_store 33 = .ok (.iastore, 1) := by decide +kernel
theorem dX1_store_34 : decode cX1_store 34 = .ok (.aload_n 0, 1) := by decide +kernel
theorem dX1_store_35 : decode cX1_store 35 = .ok (.getfield 18, 3) := by decide +kernel
theorem dX1_store_38 : decode cX1_store 38 = .ok (.aload_n 0, 1) := by decide +kernel
theorem dX1_store_39 : decode cX1_store 39 = .ok (.getfield 24, 3) := by decide +kernel
theorem dX1_store_42 : decode cX1_store 42 = .ok (.aload_n 1, 1) := by decide +kernel
theorem dX1_store_43 : decode cX1_store 43 = .ok (.getfield 36, 3) := by decide +kernel
theorem dX1_store_46 : decode cX1_store 46 = .ok (.iastore, 1) := by decide +kernel
theorem dX1_store_47 : decode cX1_store 47 = .ok (.aload_n 0, 1) := by decide +kernel
theorem dX1_store_48 : decode cX1_store 48 = .ok (.dup, 1) := by decide +kernel
theorem dX1_store_49 : decode cX1_store 49 = .ok (.getfield 24, 3) := by decide +kernel
theorem dX1_store_52 : decode cX1_store 52 = .ok (.iconst 1, 1) := by decide +kernel
theorem dX1_store_53 : decode cX1_store 53 = .ok (.iadd, 1) := by decide +kernel
theorem dX1_store_54 : decode cX1_store 54 = .ok (.putfield 24, 3) := by decide +kernel
theorem dX1_store_57 : decode cX1_store 57 = .ok (.return_, 1) := by decide +kernel
theorem dX1_restore_0 : decode cX1_restore 0 = .ok (.aload_n 0, 1) := by decide +kernel
theorem dX1_restore_1 : decode cX1_restore 1 = .ok (.dup, 1) := by decide +kernel
theorem dX1_restore_2 : decode cX1_restore 2 = .ok (.getfield 24, 3) := by decide +kernel
theorem dX1_restore_5 : decode cX1_restore 5 = .ok (.iconst 1, 1) := by decide +kernel
theorem dX1_restore_6 : decode cX1_restore 6 = .ok (.isub, 1) := by decide +kernel
theorem dX1_restore_7 : decode cX1_restore 7 = .ok (.putfield 24, 3) := by decide +kernel
theorem dX1_restore_10 : decode cX1_restore 10 = .ok (.aload_n 0, 1) := by decide +kernel
theorem dX1_restore_11 : decode cX1_restore 11 = .ok (.getfield 9, 3) := by decide +kernel
theorem dX1_restore_14 : decode cX1_restore 14 = .ok (.aload_n 0, 1) := by decide +kernel
theorem dX1_restore_15 : decode cX1_restore 15 = .ok (.getfield 24, 3) := by decide +kernel
theorem dX1_restore_18 : decode cX1_restore 18 = .ok (.bipush 100, 2) := by decide +kernel
theorem dX1_restore_20 : decode cX1_restore 20 = .ok (.imul, 1) := by decide +kernel
theorem dX1_restore_21 : decode cX1_restore 21 = .ok (.aload_n 1, 1) := by decide +kernel
theorem dX1_restore_22 : decode cX1_restore 22 = .ok (.getfield 21, 3) := by decide +kernel
theorem dX1_restore_25 : decode cX1_restore 25 = .ok (.iconst 0, 1) := by decide +kernel
theorem dX1_restore_26 : decode cX1_restore 26 = .ok (.bipush 100, 2) := by decide +kernel
theorem dX1_restore_28 : decode cX1_restore 28 = .ok (.invokestatic 28, 3) := by decide +kernel
theorem dX1_restore_31 : decode cX1_restore 31 = .ok (.aload_n 1, 1) := by decide +kernel
theorem dX1_restore_32 : decode cX1_restore 32 = .ok (.aload_n 0, 1) := by decide +kernel
theorem dX1_restore_33 : decode cX1_restore 33 = .ok (.getfield 15, 3) := by decide +kernel
theorem dX1_restore_36 : decode cX1_restore 36 = .ok (.aload_n 0, 1) := by decide +kernel
theorem dX1_restore_37 : decode cX1_restore 37 = .ok (.getfield 24, 3) := by decide +kernel
theorem dX1_restore_40 : decode cX1_restore 40 = .ok (.iaload, 1) := by decide +kernel
theorem dX1_restore_41 : decode cX1_restore 41 = .ok (.putfield 34, 3) := by decide +kernel
theorem dX1_restore_44 : decode cX1_restore 44 = .ok (.aload_n 1, 1) := by decide +kernel
theorem dX1_restore_45 : decode cX1_restore 45 = .ok (.aload_n 0, 1) := by decide +kernel
theorem dX1_restore_46 : decode cX1_restore 46 = .ok (.getfield 18, 3) := by decide +kernel
theorem dX1_restore_49 : decode cX1_restore 49 = .ok (.aload_n 0, 1) := by decide +kernel
theorem dX1_restore_50 : decode cX1_restore 50 = .ok (.getfield 24, 3) := by decide +kernel
theorem dX1_restore_53 : decode cX1_restore 53 = .ok (.iaload, 1) := by decide +kernel
theorem dX1_restore_54 : decode cX1_restore 54 = .ok (.putfield 36, 3) := by decide +kernel
theorem dX1_restore_57 : decode cX1_restore 57 = .ok (.return_, 1) := by decide +kernel
theorem dX2_init_0 : decode cX2_init 0 = .ok (.aload_n 0, 1) := by decide +kernel
theorem dX2_init_1 : decode cX2_init 1 = .ok (.invokespecial 3, 3) := by decide +kernel
theorem dX2_init_4 : decode cX2_init 4 = .ok (.aload_n 0, 1) := by decide +kernel
theorem dX2_init_5 : decode cX2_init 5 = .ok (.new 9, 3) := by decide +kernel
theorem dX2_init_8 : decode cX2_init 8 = .ok (.dup, 1) := by decide +kernel
theorem dX2_init_9 : decode cX2_init 9 = .ok (.invokespecial 11, 3) := by decide +kernel
theorem dX2_init_12 : decode cX2_init 12 = .ok (.putfield 12, 3) := by decide +kernel
theorem dX2_init_15 : decode cX2_init 15 = .ok (.aload_n 0, 1) := by decide +kernel
theorem dX2_init_16 : decode cX2_init 16 = .ok (.new 9, 3) := by decide +kernel
theorem dX2_init_19 : decode cX2_init 19 = .ok (.dup, 1) := by decide +kernel
theorem dX2_init_20 : decode cX2_init 20 = .ok (.invokespecial 11, 3) := by decide +kernel
theorem dX2_init_23 : decode cX2_init 23 = .ok (.putfield 18, 3) := by decide +kernel
theorem dX2_init_26 : decode cX2_init 26 = .ok (.return_, 1) := by decide +kernel
theorem dX2_columnIn_0 : decode cX2_columnIn 0 = .ok (.lload_n 0, 1) := by decide +kernel
theorem dX2_columnIn_1 : decode cX2_columnIn 1 = .ok (.iconst 4, 1) := by decide +kernel
theorem dX2_columnIn_2 : decode cX2_columnIn 2 = .ok (.bipush 9, 2) := by decide +kernel
theorem dX2_columnIn_4 : decode cX2_columnIn 4 = .ok (.iload_n 2, 1) := by decide +kernel
theorem dX2_columnIn_5 : decode cX2_columnIn 5 = .ok (.isub, 1) := by decide +kernel
theorem dX2_columnIn_6 : decode cX2_columnIn 6 = .ok (.imul, 1) := by decide +kernel
theorem dX2_columnIn_7 : decode cX2_columnIn 7 = .ok (.lshr, 1) := by decide +kernel
theorem dX2_columnIn_8 : decode cX2_columnIn 8 = .ok (.l2i, 1) := by decide +kernel
theorem dX2_columnIn_9 : decode cX2_columnIn 9 = .ok (.bipush 15, 2) := by decide +kernel
theorem dX2_columnIn_11 : decode cX2_columnIn 11 = .ok (.iand, 1) := by decide +kernel
theorem dX2_columnIn_12 : decode cX2_columnIn 12 = .ok (.istore_n 3, 1) := by decide +kernel
theorem dX2_columnIn_13 : decode cX2_columnIn 13 = .ok (.iload_n 3, 1) := by decide +kernel
theorem dX2_columnIn_14 : decode cX2_columnIn 14 = .ok (.bipush 15, 2) := by decide +kernel
theorem dX2_columnIn_16 : decode cX2_columnIn 16 = .ok (.if_icmp .ne 7, 3) := by decide +kernel
theorem dX2_columnIn_19 : decode cX2_columnIn 19 = .ok (.iconst (-1), 1) := by decide +kernel
theorem dX2_columnIn_20 : decode cX2_columnIn 20 = .ok (.goto 4, 3) := by decide +kernel
theorem dX2_columnIn_23 : decode cX2_columnIn 23 = .ok (.iload_n 3, 1) := by decide +kernel
theorem dX2_columnIn_24 : decode cX2_columnIn 24 = .ok (.ireturn, 1) := by decide +kernel
theorem dX2_findFirst_0 : decode cX2_findFirst 0 = .ok (.aload_n 0, 1) := by decide +kernel
theorem dX2_findFirst_1 : decode cX2_findFirst 1 = .ok (.getfield 12, 3) := by decide +kernel
theorem dX2_findFirst_4 : decode cX2_findFirst 4 = .ok (.iconst 0, 1) := by decide +kernel
theorem dX2_findFirst_5 : decode cX2_findFirst 5 = .ok (.putfield 21, 3) := by decide +kernel
theorem dX2_findFirst_8 : decode cX2_findFirst 8 = .ok (.aload_n 0, 1) := by decide +kernel
theorem dX2_findFirst_9 : decode cX2_findFirst 9 = .ok (.getfield 12, 3) := by decide +kernel
theorem dX2_findFirst_12 : decode cX2_findFirst 12 = .ok (.aload_n 1, 1) := by decide +kernel
theorem dX2_findFirst_13 : decode cX2_findFirst 13 = .ok (.getfield 25, 3) := by decide +kernel
theorem dX2_findFirst_16 : decode cX2_findFirst 16 = .ok (.lconst 0, 1) := by decide +kernel
theorem dX2_findFirst_17 : decode cX2_findFirst 17 = .ok (.iconst 0, 1) := by decide +kernel
theorem dX2_findFirst_18 : decode cX2_findFirst 18 = .ok (.aload_n 1, 1) := by decide +kernel
theorem dX2_findFirst_19 : decode cX2_findFirst 19 = .ok (.getfield 30, 3) := by decide +kernel
theorem dX2_findFirst_22 : decode cX2_findFirst 22 = .ok (.iload_n 2, 1) := by decide +kernel
theorem dX2_findFirst_23 : decode cX2_findFirst 23 = .ok (.invokevirtual 33, 3) := by decide +kernel
theorem dX2_findFirst_26 : decode cX2_findFirst 26 = .ok (.iconst 0, 1) := by decide +kernel
theorem dX2_findFirst_27 : decode cX2_findFirst 27 = .ok (.istore_n 3, 1) := by decide +kernel
theorem dX2_findFirst_28 : decode cX2_findFirst 28 = .ok (.iload_n 3, 1) := by decide +kernel
theorem dX2_findFirst_29 : decode cX2_findFirst 29 = .ok (.bipush 10, 2) := by decide +kernel
theorem dX2_findFirst_31 : decode cX2_findFirst 31 = .ok (.if_icmp .ge 67, 3) := by decide +kernel
theorem dX2_findFirst_34 : decode cX2_findFirst 34 = .ok (.aload_n 0, 1) := by decide +kernel
theorem dX2_findFirst_35 : decode cX2_findFirst 35 = .ok (.getfield 18, 3) := by decide +kernel
theorem dX2_findFirst_38 : decode cX2_findFirst 38 = .ok (.iconst 0, 1) := by decide +kernel
theorem dX2_findFirst_39 : decode cX2_findFirst 39 = .ok (.putfield 21, 3) := by decide +kernel
theorem dX2_findFirst_42 : decode cX2_findFirst 42 = .ok (.iconst 0, 1) := by decide +kernel
theorem dX2_findFirst_43 : decode cX2_findFirst 43 = .ok (.istore 4, 2) := by decide +kernel
theorem dX2_findFirst_45 : decode cX2_findFirst 45 = .ok (.iload 4, 2) := by decide +kernel
theorem dX2_findFirst_47 : decode cX2_findFirst 47 = .ok (.aload_n 0, 1) := by decide +kernel
theorem dX2_findFirst_48 : decode cX2_findFirst 48 = .ok (.getfield 12, 3) := by decide +kernel
theorem dX2_findFirst_51 : decode cX2_findFirst 51 = .ok (.getfield 21, 3) := by decide +kernel
theorem dX2_findFirst_54 : decode cX2_findFirst 54 = .ok (.if_icmp .ge 18, 3) := by decide +kernel
theorem dX2_findFirst_57 : decode cX2_findFirst 57 = .ok (.aload_n 0, 1) := by decide +kernel
theorem dX2_findFirst_58 : decode cX2_findFirst 58 = .ok (.aload_n 1, 1) := by decide +kernel
theorem dX2_findFirst_59 : decode cX2_findFirst 59 = .ok (.iload_n 3, 1) := by decide +kernel
theorem dX2_findFirst_60 : decode cX2_findFirst 60 = .ok (.iload 4, 2) := by decide +kernel
theorem dX2_findFirst_62 : decode cX2_findFirst 62 = .ok (.iload_n 2, 1) := by decide +kernel
theorem dX2_findFirst_63 : decode cX2_findFirst 63 = .ok (.invokevirtual 37, 3) := by decide +kernel
theorem dX2_findFirst_66 : decode cX2_findFirst 66 = .ok (.iinc 4 1, 3) := by decide +kernel
theorem dX2_findFirst_69 : decode cX2_findFirst 69 = .ok (.goto (-24), 3) := by decide +kernel
theorem dX2_findFirst_72 : decode cX2_findFirst 72 = .ok (.aload_n 0, 1) := by decide +kernel
theorem dX2_findFirst_73 : decode cX2_findFirst 73 = .ok (.getfield 12, 3) := by decide +kernel
theorem dX2_findFirst_76 : decode cX2_findFirst 76 = .ok (.astore 4, 2) := by decide +kernel
theorem dX2_findFirst_78 : decode cX2_findFirst 78 = .ok (.aload_n 0, 1) := by decide +kernel
theorem dX2_findFirst_79 : decode cX2_findFirst 79 = .ok (.aload_n 0, 1) := by decide +kernel
theorem dX2_findFirst_80 : decode cX2_findFirst 80 = .ok (.getfield 18, 3) := by decide +kernel
theorem dX2_findFirst_83 : decode cX2_findFirst 83 = .ok (.putfield 12, 3) := by decide +kernel
theorem dX2_findFirst_86 : decode cX2_findFirst 86 = .ok (.aload_n 0, 1) := by decide +kernel
theorem dX2_findFirst_87 : decode cX2_findFirst 87 = .ok (.aload 4, 2) := by decide +kernel
theorem dX2_findFirst_89 : decode cX2_findFirst 89 = .ok (.putfield 18, 3) := by decide +kernel
theorem dX2_findFirst_92 : decode cX2_findFirst 92 = .ok (.iinc 3 1, 3) := by decide +kernel
theorem dX2_findFirst_95 : decode cX2_findFirst 95 = .ok (.goto (-67), 3) := by decide +kernel
theorem dX2_findFirst_98 : decode cX2_findFirst 98 = .ok (.return_, 1) := by decide +kernel
theorem dX2_extend_0 : decode cX2_extend 0 = .ok (.aload_n 0, 1) := by decide +kernel
theorem dX2_extend_1 : decode cX2_extend 1 = .ok (.getfield 12, 3) := by decide +kernel
theorem dX2_extend_4 : decode cX2_extend 4 = .ok (.getfield 41, 3) := by decide +kernel
theorem dX2_extend_7 : decode cX2_extend 7 = .ok (.iload_n 3, 1) := by decide +kernel
theorem dX2_extend_8 : decode cX2_extend 8 = .ok (.laload, 1) := by decide +kernel
theorem dX2_extend_9 : decode cX2_extend 9 = .ok (.iconst 4, 1) := by decide +kernel
theorem dX2_extend_10 : decode cX2_extend 10 = .ok (.lshl, 1) := by decide +kernel
theorem dX2_extend_11 : decode cX2_extend 11 = .ok (.lstore 5, 2) := by decide +kernel
theorem dX2_extend_13 : decode cX2_extend 13 = .ok (.aload_n 0, 1) := by decide +kernel
theorem dX2_extend_14 : decode cX2_extend 14 = .ok (.getfield 12, 3) := by decide +kernel
theorem dX2_extend_17 : decode cX2_extend 17 = .ok (.getfield 45, 3) := by decide +kernel
theorem dX2_extend_20 : decode cX2_extend 20 = .ok (.iload_n 3, 1) := by decide +kernel
theorem dX2_extend_21 : decode cX2_extend 21 = .ok (.iaload, 1) := by decide +kernel
theorem dX2_extend_22 : decode cX2_extend 22 = .ok (.istore 7, 2) := by decide +kernel
theorem dX2_extend_24 : decode cX2_extend 24 = .ok (.aload_n 0, 1) := by decide +kernel
theorem dX2_extend_25 : decode cX2_extend 25 = .ok (.getfield 12, 3) := by decide +kernel
theorem dX2_extend_28 : decode cX2_extend 28 = .ok (.getfield 49, 3) := by decide +kernel
theorem dX2_extend_31 : decode cX2_extend 31 = .ok (.iload_n 3, 1) := by decide +kernel
theorem dX2_extend_32 : decode cX2_extend 32 = .ok (.iaload, 1) := by decide +kernel
theorem dX2_extend_33 : decode cX2_extend 33 = .ok (.istore 8, 2) := by decide +kernel
theorem dX2_extend_35 : decode cX2_extend 35 = .ok (.aload_n 0, 1) := by decide +kernel
theorem dX2_extend_36 : decode cX2_extend 36 = .ok (.aload_n 1, 1) := by decide +kernel
theorem dX2_extend_37 : decode cX2_extend 37 = .ok (.iload_n 2, 1) := by decide +kernel
theorem dX2_extend_38 : decode cX2_extend 38 = .ok (.lload 5, 2) := by decide +kernel
theorem dX2_extend_40 : decode cX2_extend 40 = .ok (.ldc2_w 52, 3) := by decide +kernel
theorem dX2_extend_43 : decode cX2_extend 43 = .ok (.ladd, 1) := by decide +kernel
theorem dX2_extend_44 : decode cX2_extend 44 = .ok (.iload 7, 2) := by decide +kernel
theorem dX2_extend_46 : decode cX2_extend 46 = .ok (.iload 8, 2) := by decide +kernel
theorem dX2_extend_48 : decode cX2_extend 48 = .ok (.iload 4, 2) := by decide +kernel
theorem dX2_extend_50 : decode cX2_extend 50 = .ok (.invokevirtual 54, 3) := by decide +kernel
theorem dX2_extend_53 : decode cX2_extend 53 = .ok (.iconst 0, 1) := by decide +kernel
theorem dX2_extend_54 : decode cX2_extend 54 = .ok (.istore 9, 2) := by decide +kernel
theorem dX2_extend_56 : decode cX2_extend 56 = .ok (.iload 9, 2) := by decide +kernel
theorem dX2_extend_58 : decode cX2_extend 58 = .ok (.bipush 10, 2) := by decide +kernel
theorem dX2_extend_60 : decode cX2_extend 60 = .ok (.if_icmp .ge 71, 3) := by decide +kernel
theorem dX2_extend_63 : decode cX2_extend 63 = .ok (.aload_n 1, 1) := by decide +kernel
theorem dX2_extend_64 : decode cX2_extend 64 = .ok (.getfield 58, 3) := by decide +kernel
theorem dX2_extend_67 : decode cX2_extend 67 = .ok (.iload_n 2, 1) := by decide +kernel
theorem dX2_extend_68 : decode cX2_extend 68 = .ok (.iaload, 1) := by decide +kernel
theorem dX2_extend_69 : decode cX2_extend 69 = .ok (.iload 8, 2) := by decide +kernel
theorem dX2_extend_71 : decode cX2_extend 71 = .ok (.iand, 1) := by decide +kernel
theorem dX2_extend_72 : decode cX2_extend 72 = .ok (.iload 9, 2) := by decide +kernel
theorem dX2_extend_74 : decode cX2_extend 74 = .ok (.invokestatic 61, 3) := by decide +kernel
theorem dX2_extend_77 : decode cX2_extend 77 = .ok (.ifCond .eq 48, 3) := by decide +kernel
theorem dX2_extend_80 : decode cX2_extend 80 = .ok (.iload 7, 2) := by decide +kernel
theorem dX2_extend_82 : decode cX2_extend 82 = .ok (.aload_n 1, 1) := by decide +kernel
theorem dX2_extend_83 : decode cX2_extend 83 = .ok (.getfield 65, 3) := by decide +kernel
theorem dX2_extend_86 : decode cX2_extend 86 = .ok (.iload_n 2, 1) := by decide +kernel
theorem dX2_extend_87 : decode cX2_extend 87 = .ok (.bipush 10, 2) := by decide +kernel
theorem dX2_extend_89 : decode cX2_extend 89 = .ok (.imul, 1) := by decide +kernel
theorem dX2_extend_90 : decode cX2_extend 90 = .ok (.iload 9, 2) := by decide +kernel
theorem dX2_extend_92 : decode cX2_extend 92 = .ok (.iadd, 1) := by decide +kernel
theorem dX2_extend_93 : decode cX2_extend 93 = .ok (.iaload, 1) := by decide +kernel
theorem dX2_extend_94 : decode cX2_extend 94 = .ok (.iadd, 1) := by decide +kernel
theorem dX2_extend_95 : decode cX2_extend 95 = .ok (.istore 10, 2) := by decide +kernel
theorem dX2_extend_97 : decode cX2_extend 97 = .ok (.iload 8, 2) := by decide +kernel
theorem dX2_extend_99 : decode cX2_extend 99 = .ok (.iload 9, 2) := by decide +kernel
theorem dX2_extend_101 : decode cX2_extend 101 = .ok (.iconst 0, 1) := by decide +kernel
theorem dX2_extend_102 : decode cX2_extend 102 = .ok (.invokestatic 68, 3) := by decide +kernel
theorem dX2_extend_105 : decode cX2_extend 105 = .ok (.istore 11, 2) := by decide +kernel
theorem dX2_extend_107 : decode cX2_extend 107 = .ok (.aload_n 0, 1) := by decide +kernel
theorem dX2_extend_108 : decode cX2_extend 108 = .ok (.aload_n 1, 1) := by decide +kernel
theorem dX2_extend_109 : decode cX2_extend 109 = .ok (.iload_n 2, 1) := by decide +kernel
theorem dX2_extend_110 : decode cX2_extend 110 = .ok (.lload 5, 2) := by decide +kernel
theorem dX2_extend_112 : decode cX2_extend 112 = .ok (.iload 9, 2) := by decide +kernel
theorem dX2_extend_114 : decode cX2_extend 114 = .ok (.i2l, 1) := by decide +kernel
theorem dX2_extend_115 : decode cX2_extend 115 = .ok (.ladd, 1) := by decide +kernel
theorem dX2_extend_116 : decode cX2_extend 116 = .ok (.iload 10, 2) := by decide +kernel
theorem dX2_extend_118 : decode cX2_extend 118 = .ok (.iload 11, 2) := by decide +kernel
theorem dX2_extend_120 : decode cX2_extend 120 = .ok (.iload 4, 2) := by decide +kernel
theorem dX2_extend_122 : decode cX2_extend 122 = .ok (.invokevirtual 54, 3) := by decide +kernel
theorem dX2_extend_125 : decode cX2_extend 125 = .ok (.iinc 9 1, 3) := by decide +kernel
theorem dX2_extend_128 : decode cX2_extend 128 = .ok (.goto (-72), 3) := by decide +kernel
theorem dX2_extend_131 : decode cX2_extend 131 = .ok (.return_, 1) := by decide +kernel
theorem dX2_offerFull_0 : decode cX2_offerFull 0 = .ok (.iload 5, 2) := by decide +kernel
theorem dX2_offerFull_2 : decode cX2_offerFull 2 = .ok (.aload_n 1, 1) := by decide +kernel
theorem dX2_offerFull_3 : decode cX2_offerFull 3 = .ok (.getfield 72, 3) := by decide +kernel
theorem dX2_offerFull_6 : decode cX2_offerFull 6 = .ok (.iload_n 2, 1) := by decide +kernel
theorem dX2_offerFull_7 : decode cX2_offerFull 7 = .ok (.iconst 1, 1) := by decide +kernel
theorem dX2_offerFull_8 : decode cX2_offerFull 8 = .ok (.iadd, 1) := by decide +kernel
theorem dX2_offerFull_9 : decode cX2_offerFull 9 = .ok (.aaload, 1) := by decide +kernel
theorem dX2_offerFull_10 : decode cX2_offerFull 10 = .ok (.iload 6, 2) := by decide +kernel
theorem dX2_offerFull_12 : decode cX2_offerFull 12 = .ok (.iaload, 1) := by decide +kernel
theorem dX2_offerFull_13 : decode cX2_offerFull 13 = .ok (.iadd, 1) := by decide +kernel
theorem dX2_offerFull_14 : decode cX2_offerFull 14 = .ok (.istore 8, 2) := by decide +kernel
theorem dX2_offerFull_16 : decode cX2_offerFull 16 = .ok (.iload 8, 2) := by decide +kernel
theorem dX2_offerFull_18 : decode cX2_offerFull 18 = .ok (.invokestatic 76, 3) := by decide +kernel
theorem dX2_offerFull_21 : decode cX2_offerFull 21 = .ok (.aload_n 1, 1) := by decide +kernel
theorem dX2_offerFull_22 : decode cX2_offerFull 22 = .ok (.getfield 25, 3) := by decide +kernel
theorem dX2_offerFull_25 : decode cX2_offerFull 25 = .ok (.invokestatic 76, 3) := by decide +kernel
theorem dX2_offerFull_28 : decode cX2_offerFull 28 = .ok (.if_icmp .ne 19, 3) := by decide +kernel
theorem dX2_offerFull_31 : decode cX2_offerFull 31 = .ok (.aload_n 0, 1) := by decide +kernel
theorem dX2_offerFull_32 : decode cX2_offerFull 32 = .ok (.getfield 18, 3) := by decide +kernel
theorem dX2_offerFull_35 : decode cX2_offerFull 35 = .ok (.iload 8, 2) := by decide +kernel
theorem dX2_offerFull_37 : decode cX2_offerFull 37 = .ok (.lload_n 3, 1) := by decide +kernel
theorem dX2_offerFull_38 : decode cX2_offerFull 38 = .ok (.iload 5, 2) := by decide +kernel
theorem dX2_offerFull_40 : decode cX2_offerFull 40 = .ok (.iload 6, 2) := by decide +kernel
theorem dX2_offerFull_42 : decode cX2_offerFull 42 = .ok (.iload 7, 2) := by decide +kernel
theorem dX2_offerFull_44 : decode cX2_offerFull 44 = .ok (.invokevirtual 33, 3) := by decide +kernel
theorem dX2_offerFull_47 : decode cX2_offerFull 47 = .ok (.return_, 1) := by decide +kernel
theorem dX3_init_0 : decode cX3_init 0 = .ok (.aload_n 0, 1) := by decide +kernel
theorem dX3_init_1 : decode cX3_init 1 = .ok (.invokespecial 5, 3) := by decide +kernel
theorem dX3_init_4 : decode cX3_init 4 = .ok (.aload_n 0, 1) := by decide +kernel
theorem dX3_init_5 : decode cX3_init 5 = .ok (.bipush 100, 2) := by decide +kernel
theorem dX3_init_7 : decode cX3_init 7 = .ok (.newarray .int, 2) := by decide +kernel
theorem dX3_init_9 : decode cX3_init 9 = .ok (.putfield 11, 3) := by decide +kernel
theorem dX3_init_12 : decode cX3_init 12 = .ok (.aload_n 0, 1) := by decide +kernel
theorem dX3_init_13 : decode cX3_init 13 = .ok (.bipush 10, 2) := by decide +kernel
theorem dX3_init_15 : decode cX3_init 15 = .ok (.newarray .int, 2) := by decide +kernel
theorem dX3_init_17 : decode cX3_init 17 = .ok (.putfield 15, 3) := by decide +kernel
theorem dX3_init_20 : decode cX3_init 20 = .ok (.aload_n 0, 1) := by decide +kernel
theorem dX3_init_21 : decode cX3_init 21 = .ok (.bipush 11, 2) := by decide +kernel
theorem dX3_init_23 : decode cX3_init 23 = .ok (.sipush 1024, 3) := by decide +kernel
theorem dX3_init_26 : decode cX3_init 26 = .ok (.multianewarray 18 2, 4) := by decide +kernel
theorem dX3_init_30 : decode cX3_init 30 = .ok (.putfield 20, 3) := by decide +kernel
theorem dX3_init_33 : decode cX3_init 33 = .ok (.aload_n 0, 1) := by decide +kernel
theorem dX3_init_34 : decode cX3_init 34 = .ok (.sipush 1024, 3) := by decide +kernel
theorem dX3_init_37 : decode cX3_init 37 = .ok (.newarray .int, 2) := by decide +kernel
theorem dX3_init_39 : decode cX3_init 39 = .ok (.putfield 23, 3) := by decide +kernel
theorem dX3_init_42 : decode cX3_init 42 = .ok (.aload_n 0, 1) := by decide +kernel
theorem dX3_init_43 : decode cX3_init 43 = .ok (.sipush 1024, 3) := by decide +kernel
theorem dX3_init_46 : decode cX3_init 46 = .ok (.newarray .int, 2) := by decide +kernel
theorem dX3_init_48 : decode cX3_init 48 = .ok (.putfield 26, 3) := by decide +kernel
theorem dX3_init_51 : decode cX3_init 51 = .ok (.aload_n 0, 1) := by decide +kernel
theorem dX3_init_52 : decode cX3_init 52 = .ok (.bipush 10, 2) := by decide +kernel
theorem dX3_init_54 : decode cX3_init 54 = .ok (.newarray .int, 2) := by decide +kernel
theorem dX3_init_56 : decode cX3_init 56 = .ok (.putfield 29, 3) := by decide +kernel
theorem dX3_init_59 : decode cX3_init 59 = .ok (.return_, 1) := by decide +kernel
theorem dX3_sizeOf_0 : decode cX3_sizeOf 0 = .ok (.ldc 32, 2) := by decide +kernel
theorem dX3_sizeOf_2 : decode cX3_sizeOf 2 = .ok (.iload_n 0, 1) := by decide +kernel
theorem dX3_sizeOf_3 : decode cX3_sizeOf 3 = .ok (.isub, 1) := by decide +kernel
theorem dX3_sizeOf_4 : decode cX3_sizeOf 4 = .ok (.ldc 33, 2) := by decide +kernel
theorem dX3_sizeOf_6 : decode cX3_sizeOf 6 = .ok (.idiv, 1) := by decide +kernel
theorem dX3_sizeOf_7 : decode cX3_sizeOf 7 = .ok (.ireturn, 1) := by decide +kernel
theorem dX3_costOf_0 : decode cX3_costOf 0 = .ok (.iload_n 0, 1) := by decide +kernel
theorem dX3_costOf_1 : decode cX3_costOf 1 = .ok (.iload_n 0, 1) := by decide +kernel
theorem dX3_costOf_2 : decode cX3_costOf 2 = .ok (.invokestatic 34, 3) := by decide +kernel
theorem dX3_costOf_5 : decode cX3_costOf 5 = .ok (.ldc 33, 2) := by decide +kernel
theorem dX3_costOf_7 : decode cX3_costOf 7 = .ok (.imul, 1) := by decide +kernel
theorem dX3_costOf_8 : decode cX3_costOf 8 = .ok (.iadd, 1) := by decide +kernel
theorem dX3_costOf_9 : decode cX3_costOf 9 = .ok (.ireturn, 1) := by decide +kernel
theorem dX3_solve_0 : decode cX3_solve 0 = .ok (.aload_n 0, 1) := by decide +kernel
theorem dX3_solve_1 : decode cX3_solve 1 = .ok (.aload_n 1, 1) := by decide +kernel
theorem dX3_solve_2 : decode cX3_solve 2 = .ok (.invokevirtual 38, 3) := by decide +kernel
theorem dX3_solve_5 : decode cX3_solve 5 = .ok (.bipush 9, 2) := by decide +kernel
theorem dX3_solve_7 : decode cX3_solve 7 = .ok (.istore_n 2, 1) := by decide +kernel
theorem dX3_solve_8 : decode cX3_solve 8 = .ok (.iload_n 2, 1) := by decide +kernel
theorem dX3_solve_9 : decode cX3_solve 9 = .ok (.ifCond .lt 34, 3) := by decide +kernel
theorem dX3_solve_12 : decode cX3_solve 12 = .ok (.aload_n 0, 1) := by decide +kernel
theorem dX3_solve_13 : decode cX3_solve 13 = .ok (.iload_n 2, 1) := by decide +kernel
theorem dX3_solve_14 : decode cX3_solve 14 = .ok (.aload_n 0, 1) := by decide +kernel
theorem dX3_solve_15 : decode cX3_solve 15 = .ok (.getfield 15, 3) := by decide +kernel
theorem dX3_solve_18 : decode cX3_solve 18 = .ok (.iload_n 2, 1) := by decide +kernel
theorem dX3_solve_19 : decode cX3_solve 19 = .ok (.iaload, 1) := by decide +kernel
theorem dX3_solve_20 : decode cX3_solve 20 = .ok (.aload_n 0, 1) := by decide +kernel
theorem dX3_solve_21 : decode cX3_solve 21 = .ok (.getfield 20, 3) := by decide +kernel
theorem dX3_solve_24 : decode cX3_solve 24 = .ok (.iload_n 2, 1) := by decide +kernel
theorem dX3_solve_25 : decode cX3_solve 25 = .ok (.iconst 1, 1) := by decide +kernel
theorem dX3_solve_26 : decode cX3_solve 26 = .ok (.iadd, 1) := by decide +kernel
theorem dX3_solve_27 : decode cX3_solve 27 = .ok (.aaload, 1) := by decide +kernel
theorem dX3_solve_28 : decode cX3_solve 28 = .ok (.aload_n 0, 1) := by decide +kernel
theorem dX3_solve_29 : decode cX3_solve 29 = .ok (.getfield 20, 3) := by decide +kernel
theorem dX3_solve_32 : decode cX3_solve 32 = .ok (.iload_n 2, 1) := by decide +kernel
theorem dX3_solve_33 : decode cX3_solve 33 = .ok (.aaload, 1) := by decide +kernel
theorem dX3_solve_34 : decode cX3_solve 34 = .ok (.invokevirtual 42, 3) := by decide +kernel
theorem dX3_solve_37 : decode cX3_solve 37 = .ok (.iinc 2 (-1), 3) := by decide +kernel
theorem dX3_solve_40 : decode cX3_solve 40 = .ok (.goto (-32), 3) := by decide +kernel
theorem dX3_solve_43 : decode cX3_solve 43 = .ok (.aload_n 0, 1) := by decide +kernel
theorem dX3_solve_44 : decode cX3_solve 44 = .ok (.aload_n 0, 1) := by decide +kernel
theorem dX3_solve_45 : decode cX3_solve 45 = .ok (.getfield 20, 3) := by decide +kernel
theorem dX3_solve_48 : decode cX3_solve 48 = .ok (.iconst 0, 1) := by decide +kernel
theorem dX3_solve_49 : decode cX3_solve 49 = .ok (.aaload, 1) := by decide +kernel
theorem dX3_solve_50 : decode cX3_solve 50 = .ok (.aload_n 0, 1) := by decide +kernel
theorem dX3_solve_51 : decode cX3_solve 51 = .ok (.getfield 46, 3) := by decide +kernel
theorem dX3_solve_54 : decode cX3_solve 54 = .ok (.iaload, 1) := by decide +kernel
theorem dX3_solve_55 : decode cX3_solve 55 = .ok (.putfield 50, 3) := by decide +kernel
theorem dX3_solve_58 : decode cX3_solve 58 = .ok (.aload_n 0, 1) := by decide +kernel
theorem dX3_solve_59 : decode cX3_solve 59 = .ok (.invokevirtual 53, 3) := by decide +kernel
theorem dX3_solve_62 : decode cX3_solve 62 = .ok (.return_, 1) := by decide +kernel
theorem dX3_read_0 : decode cX3_read 0 = .ok (.aload_n 0, 1) := by decide +kernel
theorem dX3_read_1 : decode cX3_read 1 = .ok (.aload_n 1, 1) := by decide +kernel
theorem dX3_read_2 : decode cX3_read 2 = .ok (.getfield 56, 3) := by decide +kernel
theorem dX3_read_5 : decode cX3_read 5 = .ok (.putfield 46, 3) := by decide +kernel
theorem dX3_read_8 : decode cX3_read 8 = .ok (.iconst 0, 1) := by decide +kernel
theorem dX3_read_9 : decode cX3_read 9 = .ok (.istore_n 2, 1) := by decide +kernel
theorem dX3_read_10 : decode cX3_read 10 = .ok (.iload_n 2, 1) := by decide +kernel
theorem dX3_read_11 : decode cX3_read 11 = .ok (.bipush 10, 2) := by decide +kernel
theorem dX3_read_13 : decode cX3_read 13 = .ok (.if_icmp .ge 54, 3) := by decide +kernel
theorem dX3_read_16 : decode cX3_read 16 = .ok (.aload_n 0, 1) := by decide +kernel
theorem dX3_read_17 : decode cX3_read 17 = .ok (.getfield 15, 3) := by decide +kernel
theorem dX3_read_20 : decode cX3_read 20 = .ok (.iload_n 2, 1) := by decide +kernel
theorem dX3_read_21 : decode cX3_read 21 = .ok (.aload_n 1, 1) := by decide +kernel
theorem dX3_read_22 : decode cX3_read 22 = .ok (.iload_n 2, 1) := by decide +kernel
theorem dX3_read_23 : decode cX3_read 23 = .ok (.invokevirtual 61, 3) := by decide +kernel
theorem dX3_read_26 : decode cX3_read 26 = .ok (.iastore, 1) := by decide +kernel
theorem dX3_read_27 : decode cX3_read 27 = .ok (.iconst 0, 1) := by decide +kernel
theorem dX3_read_28 : decode cX3_read 28 = .ok (.istore_n 3, 1) := by decide +kernel
theorem dX3_read_29 : decode cX3_read 29 = .ok (.iload_n 3, 1) := by decide +kernel
theorem dX3_read_30 : decode cX3_read 30 = .ok (.bipush 10, 2) := by decide +kernel
theorem dX3_read_32 : decode cX3_read 32 = .ok (.if_icmp .ge 29, 3) := by decide +kernel
theorem dX3_read_35 : decode cX3_read 35 = .ok (.aload_n 0, 1) := by decide +kernel
theorem dX3_read_36 : decode cX3_read 36 = .ok (.getfield 11, 3) := by decide +kernel
theorem dX3_read_39 : decode cX3_read 39 = .ok (.iload_n 2, 1) := by decide +kernel
theorem dX3_read_40 : decode cX3_read 40 = .ok (.bipush 10, 2) := by decide +kernel
theorem dX3_read_42 : decode cX3_read 42 = .ok (.imul, 1) := by decide +kernel
theorem dX3_read_43 : decode cX3_read 43 = .ok (.iload_n 3, 1) := by decide +kernel
theorem dX3_read_44 : decode cX3_read 44 = .ok (.iadd, 1) := by decide +kernel
theorem dX3_read_45 : decode cX3_read 45 = .ok (.aload_n 1, 1) := by decide +kernel
theorem dX3_read_46 : decode cX3_read 46 = .ok (.iload_n 2, 1) := by decide +kernel
theorem dX3_read_47 : decode cX3_read 47 = .ok (.iload_n 3, 1) := by decide +kernel
theorem dX3_read_48 : decode cX3_read 48 = .ok (.invokevirtual 64, 3) := by decide +kernel
theorem dX3_read_51 : decode cX3_read 51 = .ok (.ldc 33, 2) := by decide +kernel
theorem dX3_read_53 : decode cX3_read 53 = .ok (.isub, 1) := by decide +kernel
theorem dX3_read_54 : decode cX3_read 54 = .ok (.iastore, 1) := by decide +kernel
theorem dX3_read_55 : decode cX3_read 55 = .ok (.iinc 3 1, 3) := by decide +kernel
theorem dX3_read_58 : decode cX3_read 58 = .ok (.goto (-29), 3) := by decide +kernel
theorem dX3_read_61 : decode cX3_read 61 = .ok (.iinc 2 1, 3) := by decide +kernel
theorem dX3_read_64 : decode cX3_read 64 = .ok (.goto (-54), 3) := by decide +kernel
theorem dX3_read_67 : decode cX3_read 67 = .ok (.return_, 1) := by decide +kernel
theorem dX3_fillRow_0 : decode cX3_fillRow 0 = .ok (.aload_n 0, 1) := by decide +kernel
theorem dX3_fillRow_1 : decode cX3_fillRow 1 = .ok (.getfield 46, 3) := by decide +kernel
theorem dX3_fillRow_4 : decode cX3_fillRow 4 = .ok (.istore 5, 2) := by decide +kernel
theorem dX3_fillRow_6 : decode cX3_fillRow 6 = .ok (.iload 5, 2) := by decide +kernel
theorem dX3_fillRow_8 : decode cX3_fillRow 8 = .ok (.ifCond .lt 36, 3) := by decide +kernel
theorem dX3_fillRow_11 : decode cX3_fillRow 11 = .ok (.aload_n 0, 1) := by decide +kernel
theorem dX3_fillRow_12 : decode cX3_fillRow 12 = .ok (.iload 5, 2) := by decide +kernel
theorem dX3_fillRow_14 : decode cX3_fillRow 14 = .ok (.iload_n 1, 1) := by decide +kernel
theorem dX3_fillRow_15 : decode cX3_fillRow 15 = .ok (.invokevirtual 68, 3) := by decide +kernel
theorem dX3_fillRow_18 : decode cX3_fillRow 18 = .ok (.ifCond .eq 20, 3) := by decide +kernel
theorem dX3_fillRow_21 : decode cX3_fillRow 21 = .ok (.aload 4, 2) := by decide +kernel
theorem dX3_fillRow_23 : decode cX3_fillRow 23 = .ok (.iload 5, 2) := by decide +kernel
theorem dX3_fillRow_25 : decode cX3_fillRow 25 = .ok (.aload_n 0, 1) := by decide +kernel
theorem dX3_fillRow_26 : decode cX3_fillRow 26 = .ok (.iload_n 1, 1) := by decide +kernel
theorem dX3_fillRow_27 : decode cX3_fillRow 27 = .ok (.iload_n 2, 1) := by decide +kernel
theorem dX3_fillRow_28 : decode cX3_fillRow 28 = .ok (.iload 5, 2) := by decide +kernel
theorem dX3_fillRow_30 : decode cX3_fillRow 30 = .ok (.iand, 1) := by decide +kernel
theorem dX3_fillRow_31 : decode cX3_fillRow 31 = .ok (.aload_n 3, 1) := by decide +kernel
theorem dX3_fillRow_32 : decode cX3_fillRow 32 = .ok (.iload 5, 2) := by decide +kernel
theorem dX3_fillRow_34 : decode cX3_fillRow 34 = .ok (.invokevirtual 72, 3) := by decide +kernel
theorem dX3_fillRow_37 : decode cX3_fillRow 37 = .ok (.iastore, 1) := by decide +kernel
theorem dX3_fillRow_38 : decode cX3_fillRow 38 = .ok (.iinc 5 (-1), 3) := by decide +kernel
theorem dX3_fillRow_41 : decode cX3_fillRow 41 = .ok (.goto (-35), 3) := by decide +kernel
theorem dX3_fillRow_44 : decode cX3_fillRow 44 = .ok (.return_, 1) := by decide +kernel
theorem dX3_canBeLeft_0 : decode cX3_canBeLeft 0 = .ok (.iload_n 1, 1) := by decide +kernel
theorem dX3_canBeLeft_1 : decode cX3_canBeLeft 1 = .ok (.aload_n 0, 1) := by decide +kernel
theorem dX3_canBeLeft_2 : decode cX3_canBeLeft 2 = .ok (.getfield 46, 3) := by decide +kernel
theorem dX3_canBeLeft_5 : decode cX3_canBeLeft 5 = .ok (.iconst (-1), 1) := by decide +kernel
theorem dX3_canBeLeft_6 : decode cX3_canBeLeft 6 = .ok (.ixor, 1) := by decide +kernel
theorem dX3_canBeLeft_7 : decode cX3_canBeLeft 7 = .ok (.iand, 1) := by decide +kernel
theorem dX3_canBeLeft_8 : decode cX3_canBeLeft 8 = .ok (.ifCond .ne 22, 3) := by decide +kernel
theorem dX3_canBeLeft_11 : decode cX3_canBeLeft 11 = .ok (.aload_n 0, 1) := by decide +kernel
theorem dX3_canBeLeft_12 : decode cX3_canBeLeft 12 = .ok (.getfield 46, 3) := by decide +kernel
theorem dX3_canBeLeft_15 : decode cX3_canBeLeft 15 = .ok (.iload_n 1, 1) := by decide +kernel
theorem dX3_canBeLeft_16 : decode cX3_canBeLeft 16 = .ok (.iconst (-1), 1) := by decide +kernel
theorem dX3_canBeLeft_17 : decode cX3_canBeLeft 17 = .ok (.ixor, 1) := by decide +kernel
theorem dX3_canBeLeft_18 : decode cX3_canBeLeft 18 = .ok (.iand, 1) := by decide +kernel
theorem dX3_canBeLeft_19 : decode cX3_canBeLeft 19 = .ok (.invokestatic 76, 3) := by decide +kernel
theorem dX3_canBeLeft_22 : decode cX3_canBeLeft 22 = .ok (.iload_n 2, 1) := by decide +kernel
theorem dX3_canBeLeft_23 : decode cX3_canBeLeft 23 = .ok (.if_icmp .gt 7, 3) := by decide +kernel
theorem dX3_canBeLeft_26 : decode cX3_canBeLeft 26 = .ok (.iconst 1, 1) := by decide +kernel
theorem dX3_canBeLeft_27 : decode cX3_canBeLeft 27 = .ok (.goto 4, 3) := by decide +kernel
theorem dX3_canBeLeft_30 : decode cX3_canBeLeft 30 = .ok (.iconst 0, 1) := by decide +kernel
theorem dX3_canBeLeft_31 : decode cX3_canBeLeft 31 = .ok (.ireturn, 1) := by decide +kernel
theorem dX3_leastFrom_0 : decode cX3_leastFrom 0 = .ok (.aload_n 3, 1) := by decide +kernel
theorem dX3_leastFrom_1 : decode cX3_leastFrom 1 = .ok (.iload 4, 2) := by decide +kernel
theorem dX3_leastFrom_3 : decode cX3_leastFrom 3 = .ok (.iaload, 1) := by decide +kernel
theorem dX3_leastFrom_4 : decode cX3_leastFrom 4 = .ok (.istore 5, 2) := by decide +kernel
theorem dX3_leastFrom_6 : decode cX3_leastFrom 6 = .ok (.iconst 0, 1) := by decide +kernel
theorem dX3_leastFrom_7 : decode cX3_leastFrom 7 = .ok (.istore 6, 2) := by decide +kernel
theorem dX3_leastFrom_9 : decode cX3_leastFrom 9 = .ok (.iload 6, 2) := by decide +kernel
theorem dX3_leastFrom_11 : decode cX3_leastFrom 11 = .ok (.bipush 10, 2) := by decide +kernel
theorem dX3_leastFrom_13 : decode cX3_leastFrom 13 = .ok (.if_icmp .ge 52, 3) := by decide +kernel
theorem dX3_leastFrom_16 : decode cX3_leastFrom 16 = .ok (.iload_n 2, 1) := by decide +kernel
theorem dX3_leastFrom_17 : decode cX3_leastFrom 17 = .ok (.iload 6, 2) := by decide +kernel
theorem dX3_leastFrom_19 : decode cX3_leastFrom 19 = .ok (.invokestatic 81, 3) := by decide +kernel
theorem dX3_leastFrom_22 : decode cX3_leastFrom 22 = .ok (.ifCond .eq 37, 3) := by decide +kernel
theorem dX3_leastFrom_25 : decode cX3_leastFrom 25 = .ok (.aload_n 3, 1) := by decide +kernel
theorem dX3_leastFrom_26 : decode cX3_leastFrom 26 = .ok (.iload 4, 2) := by decide +kernel
theorem dX3_leastFrom_28 : decode cX3_leastFrom 28 = .ok (.iload 6, 2) := by decide +kernel
theorem dX3_leastFrom_30 : decode cX3_leastFrom 30 = .ok (.iconst 0, 1) := by decide +kernel
theorem dX3_leastFrom_31 : decode cX3_leastFrom 31 = .ok (.invokestatic 84, 3) := by decide +kernel
theorem dX3_leastFrom_34 : decode cX3_leastFrom 34 = .ok (.iaload, 1) := by decide +kernel
theorem dX3_leastFrom_35 : decode cX3_leastFrom 35 = .ok (.istore 7, 2) := by decide +kernel
theorem dX3_leastFrom_37 : decode cX3_leastFrom 37 = .ok (.iload 5, 2) := by decide +kernel
theorem dX3_leastFrom_39 : decode cX3_leastFrom 39 = .ok (.aload_n 0, 1) := by decide +kernel
theorem dX3_leastFrom_40 : decode cX3_leastFrom 40 = .ok (.getfield 11, 3) := by decide +kernel
theorem dX3_leastFrom_43 : decode cX3_leastFrom 43 = .ok (.iload_n 1, 1) := by decide +kernel
theorem dX3_leastFrom_44 : decode cX3_leastFrom 44 = .ok (.bipush 10, 2) := by decide +kernel
theorem dX3_leastFrom_46 : decode cX3_leastFrom 46 = .ok (.imul, 1) := by decide +kernel
theorem dX3_leastFrom_47 : decode cX3_leastFrom 47 = .ok (.iload 6, 2) := by decide +kernel
theorem dX3_leastFrom_49 : decode cX3_leastFrom 49 = .ok (.iadd, 1) := by decide +kernel
theorem dX3_leastFrom_50 : decode cX3_leastFrom 50 = .ok (.iaload, 1) := by decide +kernel
theorem dX3_leastFrom_51 : decode cX3_leastFrom 51 = .ok (.iload 7, 2) := by decide +kernel
theorem dX3_leastFrom_53 : decode cX3_leastFrom 53 = .ok (.iadd, 1) := by decide +kernel
theorem dX3_leastFrom_54 : decode cX3_leastFrom 54 = .ok (.invokestatic 88, 3) := by decide +kernel
theorem dX3_leastFrom_57 : decode cX3_leastFrom 57 = .ok (.istore 5, 2) := by decide +kernel
theorem dX3_leastFrom_59 : decode cX3_leastFrom 59 = .ok (.iinc 6 1, 3) := by decide +kernel
theorem dX3_leastFrom_62 : decode cX3_leastFrom 62 = .ok (.goto (-53), 3) := by decide +kernel
theorem dX3_leastFrom_65 : decode cX3_leastFrom 65 = .ok (.iload 5, 2) := by decide +kernel
theorem dX3_leastFrom_67 : decode cX3_leastFrom 67 = .ok (.ireturn, 1) := by decide +kernel
theorem dX3_keepFirst_0 : decode cX3_keepFirst 0 = .ok (.aload_n 0, 1) := by decide +kernel
theorem dX3_keepFirst_1 : decode cX3_keepFirst 1 = .ok (.getfield 46, 3) := by decide +kernel
theorem dX3_keepFirst_4 : decode cX3_keepFirst 4 = .ok (.istore_n 1, 1) := by decide +kernel
theorem dX3_keepFirst_5 : decode cX3_keepFirst 5 = .ok (.iconst 0, 1) := by decide +kernel
theorem dX3_keepFirst_6 : decode cX3_keepFirst 6 = .ok (.istore_n 2, 1) := by decide +kernel
theorem dX3_keepFirst_7 : decode cX3_keepFirst 7 = .ok (.iload_n 2, 1) := by decide +kernel
theorem dX3_keepFirst_8 : decode cX3_keepFirst 8 = .ok (.bipush 10, 2) := by decide +kernel
theorem dX3_keepFirst_10 : decode cX3_keepFirst 10 = .ok (.if_icmp .ge 35, 3) := by decide +kernel
theorem dX3_keepFirst_13 : decode cX3_keepFirst 13 = .ok (.aload_n 0, 1) := by decide +kernel
theorem dX3_keepFirst_14 : decode cX3_keepFirst 14 = .ok (.iload_n 2, 1) := by decide +kernel
theorem dX3_keepFirst_15 : decode cX3_keepFirst 15 = .ok (.iload_n 1, 1) := by decide +kernel
theorem dX3_keepFirst_16 : decode cX3_keepFirst 16 = .ok (.invokevirtual 93, 3) := by decide +kernel
theorem dX3_keepFirst_19 : decode cX3_keepFirst 19 = .ok (.istore_n 3, 1) := by decide +kernel
theorem dX3_keepFirst_20 : decode cX3_keepFirst 20 = .ok (.aload_n 0, 1) := by decide +kernel
theorem dX3_keepFirst_21 : decode cX3_keepFirst 21 = .ok (.getfield 29, 3) := by decide +kernel
theorem dX3_keepFirst_24 : decode cX3_keepFirst 24 = .ok (.iload_n 2, 1) := by decide +kernel
theorem dX3_keepFirst_25 : decode cX3_keepFirst 25 = .ok (.iload_n 3, 1) := by decide +kernel
theorem dX3_keepFirst_26 : decode cX3_keepFirst 26 = .ok (.iastore, 1) := by decide +kernel
theorem dX3_keepFirst_27 : decode cX3_keepFirst 27 = .ok (.iload_n 3, 1) := by decide +kernel
theorem dX3_keepFirst_28 : decode cX3_keepFirst 28 = .ok (.iconst (-1), 1) := by decide +kernel
theorem dX3_keepFirst_29 : decode cX3_keepFirst 29 = .ok (.if_icmp .eq 10, 3) := by decide +kernel
theorem dX3_keepFirst_32 : decode cX3_keepFirst 32 = .ok (.iload_n 1, 1) := by decide +kernel
theorem dX3_keepFirst_33 : decode cX3_keepFirst 33 = .ok (.iload_n 3, 1) := by decide +kernel
theorem dX3_keepFirst_34 : decode cX3_keepFirst 34 = .ok (.iconst 0, 1) := by decide +kernel
theorem dX3_keepFirst_35 : decode cX3_keepFirst 35 = .ok (.invokestatic 84, 3) := by decide +kernel
theorem dX3_keepFirst_38 : decode cX3_keepFirst 38 = .ok (.istore_n 1, 1) := by decide +kernel
theorem dX3_keepFirst_39 : decode cX3_keepFirst 39 = .ok (.iinc 2 1, 3) := by decide +kernel
theorem dX3_keepFirst_42 : decode cX3_keepFirst 42 = .ok (.goto (-35), 3) := by decide +kernel
theorem dX3_keepFirst_45 : decode cX3_keepFirst 45 = .ok (.return_, 1) := by decide +kernel
theorem dX3_firstOptimal_0 : decode cX3_firstOptimal 0 = .ok (.iconst 0, 1) := by decide +kernel
theorem dX3_firstOptimal_1 : decode cX3_firstOptimal 1 = .ok (.istore_n 3, 1) := by decide +kernel
theorem dX3_firstOptimal_2 : decode cX3_firstOptimal 2 = .ok (.iload_n 3, 1) := by decide +kernel
theorem dX3_firstOptimal_3 : decode cX3_firstOptimal 3 = .ok (.bipush 10, 2) := by decide +kernel
theorem dX3_firstOptimal_5 : decode cX3_firstOptimal 5 = .ok (.if_icmp .ge 21, 3) := by decide +kernel
theorem dX3_firstOptimal_8 : decode cX3_firstOptimal 8 = .ok (.aload_n 0, 1) := by decide +kernel
theorem dX3_firstOptimal_9 : decode cX3_firstOptimal 9 = .ok (.iload_n 1, 1) := by decide +kernel
theorem dX3_firstOptimal_10 : decode cX3_firstOptimal 10 = .ok (.iload_n 3, 1) := by decide +kernel
theorem dX3_firstOptimal_11 : decode cX3_firstOptimal 11 = .ok (.iload_n 2, 1) := by decide +kernel
theorem dX3_firstOptimal_12 : decode cX3_firstOptimal 12 = .ok (.invokevirtual 96, 3) := by decide +kernel
theorem dX3_firstOptimal_15 : decode cX3_firstOptimal 15 = .ok (.ifCond .eq 5, 3) := by decide +kernel
theorem dX3_firstOptimal_18 : decode cX3_firstOptimal 18 = .ok (.iload_n 3, 1) := by decide +kernel
theorem dX3_firstOptimal_19 : decode cX3_firstOptimal 19 = .ok (.ireturn, 1) := by decide +kernel
theorem dX3_firstOptimal_20 : decode cX3_firstOptimal 20 = .ok (.iinc 3 1, 3) := by decide +kernel
theorem dX3_firstOptimal_23 : decode cX3_firstOptimal 23 = .ok (.goto (-21), 3) := by decide +kernel
theorem dX3_firstOptimal_26 : decode cX3_firstOptimal 26 = .ok (.iconst (-1), 1) := by decide +kernel
theorem dX3_firstOptimal_27 : decode cX3_firstOptimal 27 = .ok (.ireturn, 1) := by decide +kernel
theorem dX3_isOptimal_0 : decode cX3_isOptimal 0 = .ok (.aload_n 0, 1) := by decide +kernel
theorem dX3_isOptimal_1 : decode cX3_isOptimal 1 = .ok (.getfield 15, 3) := by decide +kernel
theorem dX3_isOptimal_4 : decode cX3_isOptimal 4 = .ok (.iload_n 1, 1) := by decide +kernel
theorem dX3_isOptimal_5 : decode cX3_isOptimal 5 = .ok (.iaload, 1) := by decide +kernel
theorem dX3_isOptimal_6 : decode cX3_isOptimal 6 = .ok (.iload_n 3, 1) := by decide +kernel
theorem dX3_isOptimal_7 : decode cX3_isOptimal 7 = .ok (.iand, 1) := by decide +kernel
theorem dX3_isOptimal_8 : decode cX3_isOptimal 8 = .ok (.iload_n 2, 1) := by decide +kernel
theorem dX3_isOptimal_9 : decode cX3_isOptimal 9 = .ok (.invokestatic 81, 3) := by decide +kernel
theorem dX3_isOptimal_12 : decode cX3_isOptimal 12 = .ok (.ifCond .ne 5, 3) := by decide +kernel
theorem dX3_isOptimal_15 : decode cX3_isOptimal 15 = .ok (.iconst 0, 1) := by decide +kernel
theorem dX3_isOptimal_16 : decode cX3_isOptimal 16 = .ok (.ireturn, 1) := by decide +kernel
theorem dX3_isOptimal_17 : decode cX3_isOptimal 17 = .ok (.aload_n 0, 1) := by decide +kernel
theorem dX3_isOptimal_18 : decode cX3_isOptimal 18 = .ok (.getfield 20, 3) := by decide +kernel
theorem dX3_isOptimal_21 : decode cX3_isOptimal 21 = .ok (.iload_n 1, 1) := by decide +kernel
theorem dX3_isOptimal_22 : decode cX3_isOptimal 22 = .ok (.iconst 1, 1) := by decide +kernel
theorem dX3_isOptimal_23 : decode cX3_isOptimal 23 = .ok (.iadd, 1) := by decide +kernel
theorem dX3_isOptimal_24 : decode cX3_isOptimal 24 = .ok (.aaload, 1) := by decide +kernel
theorem dX3_isOptimal_25 : decode cX3_isOptimal 25 = .ok (.iload_n 3, 1) := by decide +kernel
theorem dX3_isOptimal_26 : decode cX3_isOptimal 26 = .ok (.iload_n 2, 1) := by decide +kernel
theorem dX3_isOptimal_27 : decode cX3_isOptimal 27 = .ok (.iconst 0, 1) := by decide +kernel
theorem dX3_isOptimal_28 : decode cX3_isOptimal 28 = .ok (.invokestatic 84, 3) := by decide +kernel
theorem dX3_isOptimal_31 : decode cX3_isOptimal 31 = .ok (.iaload, 1) := by decide +kernel
theorem dX3_isOptimal_32 : decode cX3_isOptimal 32 = .ok (.istore 4, 2) := by decide +kernel
theorem dX3_isOptimal_34 : decode cX3_isOptimal 34 = .ok (.aload_n 0, 1) := by decide +kernel
theorem dX3_isOptimal_35 : decode cX3_isOptimal 35 = .ok (.getfield 11, 3) := by decide +kernel
theorem dX3_isOptimal_38 : decode cX3_isOptimal 38 = .ok (.iload_n 1, 1) := by decide +kernel
theorem dX3_isOptimal_39 : decode cX3_isOptimal 39 = .ok (.bipush 10, 2) := by decide +kernel
theorem dX3_isOptimal_41 : decode cX3_isOptimal 41 = .ok (.imul, 1) := by decide +kernel
theorem dX3_isOptimal_42 : decode cX3_isOptimal 42 = .ok (.iload_n 2, 1) := by decide +kernel
theorem dX3_isOptimal_43 : decode cX3_isOptimal 43 = .ok (.iadd, 1) := by decide +kernel
theorem dX3_isOptimal_44 : decode cX3_isOptimal 44 = .ok (.iaload, 1) := by decide +kernel
theorem dX3_isOptimal_45 : decode cX3_isOptimal 45 = .ok (.iload 4, 2) := by decide +kernel
theorem dX3_isOptimal_47 : decode cX3_isOptimal 47 = .ok (.iadd, 1) := by decide +kernel
theorem dX3_isOptimal_48 : decode cX3_isOptimal 48 = .ok (.aload_n 0, 1) := by decide +kernel
theorem dX3_isOptimal_49 : decode cX3_isOptimal 49 = .ok (.getfield 20, 3) := by decide +kernel
theorem dX3_isOptimal_52 : decode cX3_isOptimal 52 = .ok (.iload_n 1, 1) := by decide +kernel
theorem dX3_isOptimal_53 : decode cX3_isOptimal 53 = .ok (.aaload, 1) := by decide +kernel
theorem dX3_isOptimal_54 : decode cX3_isOptimal 54 = .ok (.iload_n 3, 1) := by decide +kernel
theorem dX3_isOptimal_55 : decode cX3_isOptimal 55 = .ok (.iaload, 1) := by decide +kernel
theorem dX3_isOptimal_56 : decode cX3_isOptimal 56 = .ok (.if_icmp .ne 7, 3) := by decide +kernel
theorem dX3_isOptimal_59 : decode cX3_isOptimal 59 = .ok (.iconst 1, 1) := by decide +kernel
theorem dX3_isOptimal_60 : decode cX3_isOptimal 60 = .ok (.goto 4, 3) := by decide +kernel
theorem dX3_isOptimal_63 : decode cX3_isOptimal 63 = .ok (.iconst 0, 1) := by decide +kernel
theorem dX3_isOptimal_64 : decode cX3_isOptimal 64 = .ok (.ireturn, 1) := by decide +kernel
theorem dX3_countOptimal_0 : decode cX3_countOptimal 0 = .ok (.aload_n 0, 1) := by decide +kernel
theorem dX3_countOptimal_1 : decode cX3_countOptimal 1 = .ok (.getfield 26, 3) := by decide +kernel
theorem dX3_countOptimal_4 : decode cX3_countOptimal 4 = .ok (.iconst 0, 1) := by decide +kernel
theorem dX3_countOptimal_5 : decode cX3_countOptimal 5 = .ok (.invokestatic 100, 3) := by decide +kernel
theorem dX3_countOptimal_8 : decode cX3_countOptimal 8 = .ok (.aload_n 0, 1) := by decide +kernel
theorem dX3_countOptimal_9 : decode cX3_countOptimal 9 = .ok (.getfield 26, 3) := by decide +kernel
theorem dX3_countOptimal_12 : decode cX3_countOptimal 12 = .ok (.aload_n 0, 1) := by decide +kernel
theorem dX3_countOptimal_13 : decode cX3_countOptimal 13 = .ok (.getfield 46, 3) := by decide +kernel
theorem dX3_countOptimal_16 : decode cX3_countOptimal 16 = .ok (.iconst 1, 1) := by decide +kernel
theorem dX3_countOptimal_17 : decode cX3_countOptimal 17 = .ok (.iastore, 1) := by decide +kernel
theorem dX3_countOptimal_18 : decode cX3_countOptimal 18 = .ok (.iconst 0, 1) := by decide +kernel
theorem dX3_countOptimal_19 : decode cX3_countOptimal 19 = .ok (.istore_n 1, 1) := by decide +kernel
theorem dX3_countOptimal_20 : decode cX3_countOptimal 20 = .ok (.iload_n 1, 1) := by decide +kernel
theorem dX3_countOptimal_21 : decode cX3_countOptimal 21 = .ok (.bipush 10, 2) := by decide +kernel
theorem dX3_countOptimal_23 : decode cX3_countOptimal 23 = .ok (.if_icmp .ge 14, 3) := by decide +kernel
theorem dX3_countOptimal_26 : decode cX3_countOptimal 26 = .ok (.aload_n 0, 1) := by decide +kernel
theorem dX3_countOptimal_27 : decode cX3_countOptimal 27 = .ok (.iload_n 1, 1) := by decide +kernel
theorem dX3_countOptimal_28 : decode cX3_countOptimal 28 = .ok (.invokevirtual 106, 3) := by decide +kernel
theorem dX3_countOptimal_31 : decode cX3_countOptimal 31 = .ok (.iinc 1 1, 3) := by decide +kernel
theorem dX3_countOptimal_34 : decode cX3_countOptimal 34 = .ok (.goto (-14), 3) := by decide +kernel
theorem dX3_countOptimal_37 : decode cX3_countOptimal 37 = .ok (.iconst 0, 1) := by decide +kernel
theorem dX3_countOptimal_38 : decode cX3_countOptimal 38 = .ok (.istore_n 1, 1) := by decide +kernel
theorem dX3_countOptimal_39 : decode cX3_countOptimal 39 = .ok (.iconst 0, 1) := by decide +kernel
theorem dX3_countOptimal_40 : decode cX3_countOptimal 40 = .ok (.istore_n 2, 1) := by decide +kernel
theorem dX3_countOptimal_41 : decode cX3_countOptimal 41 = .ok (.iload_n 2, 1) := by decide +kernel
theorem dX3_countOptimal_42 : decode cX3_countOptimal 42 = .ok (.sipush 1024, 3) := by decide +kernel
theorem dX3_countOptimal_45 : decode cX3_countOptimal 45 = .ok (.if_icmp .ge 18, 3) := by decide +kernel
theorem dX3_countOptimal_48 : decode cX3_countOptimal 48 = .ok (.iload_n 1, 1) := by decide +kernel
theorem dX3_countOptimal_49 : decode cX3_countOptimal 49 = .ok (.aload_n 0, 1) := by decide +kernel
theorem dX3_countOptimal_50 : decode cX3_countOptimal 50 = .ok (.getfield 26, 3) := by decide +kernel
theorem dX3_countOptimal_53 : decode cX3_countOptimal 53 = .ok (.iload_n 2, 1) := by decide +kernel
theorem dX3_countOptimal_54 : decode cX3_countOptimal 54 = .ok (.iaload, 1) := by decide +kernel
theorem dX3_countOptimal_55 : decode cX3_countOptimal 55 = .ok (.iadd, 1) := by decide +kernel
theorem dX3_countOptimal_56 : decode cX3_countOptimal 56 = .ok (.istore_n 1, 1) := by decide +kernel
theorem dX3_countOptimal_57 : decode cX3_countOptimal 57 = .ok (.iinc 2 1, 3) := by decide +kernel
theorem dX3_countOptimal_60 : decode cX3_countOptimal 60 = .ok (.goto (-19), 3) := by decide +kernel
theorem dX3_countOptimal_63 : decode cX3_countOptimal 63 = .ok (.iload_n 1, 1) := by decide +kernel
theorem dX3_countOptimal_64 : decode cX3_countOptimal 64 = .ok (.ireturn, 1) := by decide +kernel
theorem dX3_spreadWays_0 : decode cX3_spreadWays 0 = .ok (.iconst 0, 1) := by decide +kernel
theorem dX3_spreadWays_1 : decode cX3_spreadWays 1 = .ok (.istore_n 2, 1) := by decide +kernel
theorem dX3_spreadWays_2 : decode cX3_spreadWays 2 = .ok (.iload_n 2, 1) := by decide +kernel
theorem dX3_spreadWays_3 : decode cX3_spreadWays 3 = .ok (.aload_n 0, 1) := by decide +kernel
theorem dX3_spreadWays_4 : decode cX3_spreadWays 4 = .ok (.getfield 46, 3) := by decide +kernel
theorem dX3_spreadWays_7 : decode cX3_spreadWays 7 = .ok (.if_icmp .gt 95, 3) := by decide +kernel
theorem dX3_spreadWays_10 : decode cX3_spreadWays 10 = .ok (.aload_n 0, 1) := by decide +kernel
theorem dX3_spreadWays_11 : decode cX3_spreadWays 11 = .ok (.getfield 26, 3) := by decide +kernel
theorem dX3_spreadWays_14 : decode cX3_spreadWays 14 = .ok (.iload_n 2, 1) := by decide +kernel
theorem dX3_spreadWays_15 : decode cX3_spreadWays 15 = .ok (.iaload, 1) := by decide +kernel
theorem dX3_spreadWays_16 : decode cX3_spreadWays 16 = .ok (.istore_n 3, 1) := by decide +kernel
theorem dX3_spreadWays_17 : decode cX3_spreadWays 17 = .ok (.iload_n 3, 1) := by decide +kernel
theorem dX3_spreadWays_18 : decode cX3_spreadWays 18 = .ok (.ifCond .eq 78, 3) := by decide +kernel
theorem dX3_spreadWays_21 : decode cX3_spreadWays 21 = .ok (.aload_n 0, 1) := by decide +kernel
theorem dX3_spreadWays_22 : decode cX3_spreadWays 22 = .ok (.getfield 26, 3) := by decide +kernel
theorem dX3_spreadWays_25 : decode cX3_spreadWays 25 = .ok (.iload_n 2, 1) := by decide +kernel
theorem dX3_spreadWays_26 : decode cX3_spreadWays 26 = .ok (.aload_n 0, 1) := by decide +kernel
theorem dX3_spreadWays_27 : decode cX3_spreadWays 27 = .ok (.getfield 20, 3) := by decide +kernel
theorem dX3_spreadWays_30 : decode cX3_spreadWays 30 = .ok (.iload_n 1, 1) := by decide +kernel
theorem dX3_spreadWays_31 : decode cX3_spreadWays 31 = .ok (.iconst 1, 1) := by decide +kernel
theorem dX3_spreadWays_32 : decode cX3_spreadWays 32 = .ok (.iadd, 1) := by decide +kernel
theorem dX3_spreadWays_33 : decode cX3_spreadWays 33 = .ok (.aaload, 1) := by decide +kernel
theorem dX3_spreadWays_34 : decode cX3_spreadWays 34 = .ok (.iload_n 2, 1) := by decide +kernel
theorem dX3_spreadWays_35 : decode cX3_spreadWays 35 = .ok (.iaload, 1) := by decide +kernel
theorem dX3_spreadWays_36 : decode cX3_spreadWays 36 = .ok (.aload_n 0, 1) := by decide +kernel
theorem dX3_spreadWays_37 : decode cX3_spreadWays 37 = .ok (.getfield 20, 3) := by decide +kernel
theorem dX3_spreadWays_40 : decode cX3_spreadWays 40 = .ok (.iload_n 1, 1) := by decide +kernel
theorem dX3_spreadWays_41 : decode cX3_spreadWays 41 = .ok (.aaload, 1) := by decide +kernel
theorem dX3_spreadWays_42 : decode cX3_spreadWays 42 = .ok (.iload_n 2, 1) := by decide +kernel
theorem dX3_spreadWays_43 : decode cX3_spreadWays 43 = .ok (.iaload, 1) := by decide +kernel
theorem dX3_spreadWays_44 : decode cX3_spreadWays 44 = .ok (.if_icmp .ne 7, 3) := by decide +kernel
theorem dX3_spreadWays_47 : decode cX3_spreadWays 47 = .ok (.iload_n 3, 1) := by decide +kernel
theorem dX3_spreadWays_48 : decode cX3_spreadWays 48 = .ok (.goto 4, 3) := by decide +kernel
theorem dX3_spreadWays_51 : decode cX3_spreadWays 51 = .ok (.iconst 0, 1) := by decide +kernel
theorem dX3_spreadWays_52 : decode cX3_spreadWays 52 = .ok (.iastore, 1) := by decide +kernel
theorem dX3_spreadWays_53 : decode cX3_spreadWays 53 = .ok (.iconst 0, 1) := by decide +kernel
theorem dX3_spreadWays_54 : decode cX3_spreadWays 54 = .ok (.istore 4, 2) := by decide +kernel
theorem dX3_spreadWays_56 : decode cX3_spreadWays 56 = .ok (.iload 4, 2) := by decide +kernel
theorem dX3_spreadWays_58 : decode cX3_spreadWays 58 = .ok (.bipush 10, 2) := by decide +kernel
theorem dX3_spreadWays_60 : decode cX3_spreadWays 60 = .ok (.if_icmp .ge 36, 3) := by decide +kernel
theorem dX3_spreadWays_63 : decode cX3_spreadWays 63 = .ok (.aload_n 0, 1) := by decide +kernel
theorem dX3_spreadWays_64 : decode cX3_spreadWays 64 = .ok (.iload_n 1, 1) := by decide +kernel
theorem dX3_spreadWays_65 : decode cX3_spreadWays 65 = .ok (.iload 4, 2) := by decide +kernel
theorem dX3_spreadWays_67 : decode cX3_spreadWays 67 = .ok (.iload_n 2, 1) := by decide +kernel
theorem dX3_spreadWays_68 : decode cX3_spreadWays 68 = .ok (.invokevirtual 96, 3) := by decide +kernel
theorem dX3_spreadWays_71 : decode cX3_spreadWays 71 = .ok (.ifCond .eq 19, 3) := by decide +kernel
theorem dX3_spreadWays_74 : decode cX3_spreadWays 74 = .ok (.aload_n 0, 1) := by decide +kernel
theorem dX3_spreadWays_75 : decode cX3_spreadWays 75 = .ok (.getfield 26, 3) := by decide +kernel
theorem dX3_spreadWays_78 : decode cX3_spreadWays 78 = .ok (.iload_n 2, 1) := by decide +kernel
theorem dX3_spreadWays_79 : decode cX3_spreadWays 79 = .ok (.iload 4, 2) := by decide +kernel
theorem dX3_spreadWays_81 : decode cX3_spreadWays 81 = .ok (.iconst 0, 1) := by decide +kernel
theorem dX3_spreadWays_82 : decode cX3_spreadWays 82 = .ok (.invokestatic 84, 3) := by decide +kernel
theorem dX3_spreadWays_85 : decode cX3_spreadWays 85 = .ok (.dup2, 1) := by decide +kernel
theorem dX3_spreadWays_86 : decode cX3_spreadWays 86 = .ok (.iaload, 1) := by decide +kernel
theorem dX3_spreadWays_87 : decode cX3_spreadWays 87 = .ok (.iload_n 3, 1) := by decide +kernel
theorem dX3_spreadWays_88 : decode cX3_spreadWays 88 = .ok (.iadd, 1) := by decide +kernel
theorem dX3_spreadWays_89 : decode cX3_spreadWays 89 = .ok (.iastore, 1) := by decide +kernel
theorem dX3_spreadWays_90 : decode cX3_spreadWays 90 = .ok (.iinc 4 1, 3) := by decide +kernel
theorem dX3_spreadWays_93 : decode cX3_spreadWays 93 = .ok (.goto (-37), 3) := by decide +kernel
theorem dX3_spreadWays_96 : decode cX3_spreadWays 96 = .ok (.iinc 2 1, 3) := by decide +kernel
theorem dX3_spreadWays_99 : decode cX3_spreadWays 99 = .ok (.goto (-97), 3) := by decide +kernel
theorem dX3_spreadWays_102 : decode cX3_spreadWays 102 = .ok (.return_, 1) := by decide +kernel
theorem dX3_extraCostWith_0 : decode cX3_extraCostWith 0 = .ok (.aload_n 0, 1) := by decide +kernel
theorem dX3_extraCostWith_1 : decode cX3_extraCostWith 1 = .ok (.getfield 46, 3) := by decide +kernel
theorem dX3_extraCostWith_4 : decode cX3_extraCostWith 4 = .ok (.istore_n 3, 1) := by decide +kernel
theorem dX3_extraCostWith_5 : decode cX3_extraCostWith 5 = .ok (.iload_n 3, 1) := by decide +kernel
theorem dX3_extraCostWith_6 : decode cX3_extraCostWith 6 = .ok (.ifCond .lt 71, 3) := by decide +kernel
theorem dX3_extraCostWith_9 : decode cX3_extraCostWith 9 = .ok (.aload_n 0, 1) := by decide +kernel
theorem dX3_extraCostWith_10 : decode cX3_extraCostWith 10 = .ok (.getfield 23, 3) := by decide +kernel
theorem dX3_extraCostWith_13 : decode cX3_extraCostWith 13 = .ok (.iload_n 3, 1) := by decide +kernel
theorem dX3_extraCostWith_14 : decode cX3_extraCostWith 14 = .ok (.ldc 110, 2) := by decide +kernel
theorem dX3_extraCostWith_16 : decode cX3_extraCostWith 16 = .ok (.iastore, 1) := by decide +kernel
theorem dX3_extraCostWith_17 : decode cX3_extraCostWith 17 = .ok (.aload_n 0, 1) := by decide +kernel
theorem dX3_extraCostWith_18 : decode cX3_extraCostWith 18 = .ok (.iload_n 3, 1) := by decide +kernel
theorem dX3_extraCostWith_19 : decode cX3_extraCostWith 19 = .ok (.iload_n 1, 1) := by decide +kernel
theorem dX3_extraCostWith_20 : decode cX3_extraCostWith 20 = .ok (.invokevirtual 68, 3) := by decide +kernel
theorem dX3_extraCostWith_23 : decode cX3_extraCostWith 23 = .ok (.ifCond .eq 48, 3) := by decide +kernel
theorem dX3_extraCostWith_26 : decode cX3_extraCostWith 26 = .ok (.iload_n 3, 1) := by decide +kernel
theorem dX3_extraCostWith_27 : decode cX3_extraCostWith 27 = .ok (.iload_n 2, 1) := by decide +kernel
theorem dX3_extraCostWith_28 : decode cX3_extraCostWith 28 = .ok (.invokestatic 81, 3) := by decide +kernel
theorem dX3_extraCostWith_31 : decode cX3_extraCostWith 31 = .ok (.ifCond .eq 40, 3) := by decide +kernel
theorem dX3_extraCostWith_34 : decode cX3_extraCostWith 34 = .ok (.aload_n 0, 1) := by decide +kernel
theorem dX3_extraCostWith_35 : decode cX3_extraCostWith 35 = .ok (.getfield 20, 3) := by decide +kernel
theorem dX3_extraCostWith_38 : decode cX3_extraCostWith 38 = .ok (.iload_n 1, 1) := by decide +kernel
theorem dX3_extraCostWith_39 : decode cX3_extraCostWith 39 = .ok (.iconst 1, 1) := by decide +kernel
theorem dX3_extraCostWith_40 : decode cX3_extraCostWith 40 = .ok (.iadd, 1) := by decide +kernel
theorem dX3_extraCostWith_41 : decode cX3_extraCostWith 41 = .ok (.aaload, 1) := by decide +kernel
theorem dX3_extraCostWith_42 : decode cX3_extraCostWith 42 = .ok (.iload_n 3, 1) := by decide +kernel
theorem dX3_extraCostWith_43 : decode cX3_extraCostWith 43 = .ok (.iload_n 2, 1) := by decide +kernel
theorem dX3_extraCostWith_44 : decode cX3_extraCostWith 44 = .ok (.iconst 0, 1) := by decide +kernel
theorem dX3_extraCostWith_45 : decode cX3_extraCostWith 45 = .ok (.invokestatic 84, 3) := by decide +kernel
theorem dX3_extraCostWith_48 : decode cX3_extraCostWith 48 = .ok (.iaload, 1) := by decide +kernel
theorem dX3_extraCostWith_49 : decode cX3_extraCostWith 49 = .ok (.istore 4, 2) := by decide +kernel
theorem dX3_extraCostWith_51 : decode cX3_extraCostWith 51 = .ok (.aload_n 0, 1) := by decide +kernel
theorem dX3_extraCostWith_52 : decode cX3_extraCostWith 52 = .ok (.getfield 23, 3) := by decide +kernel
theorem dX3_extraCostWith_55 : decode cX3_extraCostWith 55 = .ok (.iload_n 3, 1) := by decide +kernel
theorem dX3_extraCostWith_56 : decode cX3_extraCostWith 56 = .ok (.aload_n 0, 1) := by decide +kernel
theorem dX3_extraCostWith_57 : decode cX3_extraCostWith 57 = .ok (.getfield 11, 3) := by decide +kernel
theorem dX3_extraCostWith_60 : decode cX3_extraCostWith 60 = .ok (.iload_n 1, 1) := by decide +kernel
theorem dX3_extraCostWith_61 : decode cX3_extraCostWith 61 = .ok (.bipush 10, 2) := by decide +kernel
theorem dX3_extraCostWith_63 : decode cX3_extraCostWith 63 = .ok (.imul, 1) := by decide +kernel
theorem dX3_extraCostWith_64 : decode cX3_extraCostWith 64 = .ok (.iload_n 2, 1) := by decide +kernel
theorem dX3_extraCostWith_65 : decode cX3_extraCostWith 65 = .ok (.iadd, 1) := by decide +kernel
theorem dX3_extraCostWith_66 : decode cX3_extraCostWith 66 = .ok (.iaload, 1) := by decide +kernel
theorem dX3_extraCostWith_67 : decode cX3_extraCostWith 67 = .ok (.iload 4, 2) := by decide +kernel
theorem dX3_extraCostWith_69 : decode cX3_extraCostWith 69 = .ok (.iadd, 1) := by decide +kernel
theorem dX3_extraCostWith_70 : decode cX3_extraCostWith 70 = .ok (.iastore, 1) := by decide +kernel
theorem dX3_extraCostWith_71 : decode cX3_extraCostWith 71 = .ok (.iinc 3 (-1), 3) := by decide +kernel
theorem dX3_extraCostWith_74 : decode cX3_extraCostWith 74 = .ok (.goto (-69), 3) := by decide +kernel
theorem dX3_extraCostWith_77 : decode cX3_extraCostWith 77 = .ok (.aload_n 0, 1) := by decide +kernel
theorem dX3_extraCostWith_78 : decode cX3_extraCostWith 78 = .ok (.iload_n 1, 1) := by decide +kernel
theorem dX3_extraCostWith_79 : decode cX3_extraCostWith 79 = .ok (.invokevirtual 111, 3) := by decide +kernel
theorem dX3_extraCostWith_82 : decode cX3_extraCostWith 82 = .ok (.ireturn, 1) := by decide +kernel
theorem dX3_extraCostWithout_0 : decode cX3_extraCostWithout 0 = .ok (.aload_n 0, 1) := by decide +kernel
theorem dX3_extraCostWithout_1 : decode cX3_extraCostWithout 1 = .ok (.iload_n 1, 1) := by decide +kernel
theorem dX3_extraCostWithout_2 : decode cX3_extraCostWithout 2 = .ok (.aload_n 0, 1) := by decide +kernel
theorem dX3_extraCostWithout_3 : decode cX3_extraCostWithout 3 = .ok (.getfield 15, 3) := by decide +kernel
theorem dX3_extraCostWithout_6 : decode cX3_extraCostWithout 6 = .ok (.iload_n 1, 1) := by decide +kernel
theorem dX3_extraCostWithout_7 : decode cX3_extraCostWithout 7 = .ok (.iaload, 1) := by decide +kernel
theorem dX3_extraCostWithout_8 : decode cX3_extraCostWithout 8 = .ok (.iload_n 2, 1) := by decide +kernel
theorem dX3_extraCostWithout_9 : decode cX3_extraCostWithout 9 = .ok (.iconst 0, 1) := by decide +kernel
theorem dX3_extraCostWithout_10 : decode cX3_extraCostWithout 10 = .ok (.invokestatic 84, 3) := by decide +kernel
theorem dX3_extraCostWithout_13 : decode cX3_extraCostWithout 13 = .ok (.aload_n 0, 1) := by decide +kernel
theorem dX3_extraCostWithout_14 : decode cX3_extraCostWithout 14 = .ok (.getfield 20, 3) := by decide +kernel
theorem dX3_extraCostWithout_17 : decode cX3_extraCostWithout 17 = .ok (.iload_n 1, 1) := by decide +kernel
theorem dX3_extraCostWithout_18 : decode cX3_extraCostWithout 18 = .ok (.iconst 1, 1) := by decide +kernel
theorem dX3_extraCostWithout_19 : decode cX3_extraCostWithout 19 = .ok (.iadd, 1) := by decide +kernel
theorem dX3_extraCostWithout_20 : decode cX3_extraCostWithout 20 = .ok (.aaload, 1) := by decide +kernel
theorem dX3_extraCostWithout_21 : decode cX3_extraCostWithout 21 = .ok (.aload_n 0, 1) := by decide +kernel
theorem dX3_extraCostWithout_22 : decode cX3_extraCostWithout 22 = .ok (.getfield 23, 3) := by decide +kernel
theorem dX3_extraCostWithout_25 : decode cX3_extraCostWithout 25 = .ok (.invokevirtual 42, 3) := by decide +kernel
theorem dX3_extraCostWithout_28 : decode cX3_extraCostWithout 28 = .ok (.aload_n 0, 1) := by decide +kernel
theorem dX3_extraCostWithout_29 : decode cX3_extraCostWithout 29 = .ok (.iload_n 1, 1) := by decide +kernel
theorem dX3_extraCostWithout_30 : decode cX3_extraCostWithout 30 = .ok (.invokevirtual 111, 3) := by decide +kernel
theorem dX3_extraCostWithout_33 : decode cX3_extraCostWithout 33 = .ok (.ireturn, 1) := by decide +kernel
theorem dX3_extraCostOfSupposed_0 : decode cX3_extraCostOfSupposed 0 = .ok (.iload_n 1, 1) := by decide +kernel
theorem dX3_extraCostOfSupposed_1 : decode cX3_extraCostOfSupposed 1 = .ok (.iconst 1, 1) := by decide +kernel
theorem dX3_extraCostOfSupposed_2 : decode cX3_extraCostOfSupposed 2 = .ok (.isub, 1) := by decide +kernel
theorem dX3_extraCostOfSupposed_3 : decode cX3_extraCostOfSupposed 3 = .ok (.istore_n 2, 1) := by decide +kernel
theorem dX3_extraCostOfSupposed_4 : decode cX3_extraCostOfSupposed 4 = .ok (.iload_n 2, 1) := by decide +kernel
theorem dX3_extraCostOfSupposed_5 : decode cX3_extraCostOfSupposed 5 = .ok (.ifCond .lt 28, 3) := by decide +kernel
theorem dX3_extraCostOfSupposed_8 : decode cX3_extraCostOfSupposed 8 = .ok (.aload_n 0, 1) := by decide +kernel
theorem dX3_extraCostOfSupposed_9 : decode cX3_extraCostOfSupposed 9 = .ok (.iload_n 2, 1) := by decide +kernel
theorem dX3_extraCostOfSupposed_10 : decode cX3_extraCostOfSupposed 10 = .ok (.aload_n 0, 1) := by decide +kernel
theorem dX3_extraCostOfSupposed_11 : decode cX3_extraCostOfSupposed 11 = .ok (.getfield 15, 3) := by decide +kernel
theorem dX3_extraCostOfSupposed_14 : decode cX3_extraCostOfSupposed 14 = .ok (.iload_n 2, 1) := by decide +kernel
theorem dX3_extraCostOfSupposed_15 : decode cX3_extraCostOfSupposed 15 = .ok (.iaload, 1) := by decide +kernel
theorem dX3_extraCostOfSupposed_16 : decode cX3_extraCostOfSupposed 16 = .ok (.aload_n 0, 1) := by decide +kernel
theorem dX3_extraCostOfSupposed_17 : decode cX3_extraCostOfSupposed 17 = .ok (.getfield 23, 3) := by decide +kernel
theorem dX3_extraCostOfSupposed_20 : decode cX3_extraCostOfSupposed 20 = .ok (.aload_n 0, 1) := by decide +kernel
theorem dX3_extraCostOfSupposed_21 : decode cX3_extraCostOfSupposed 21 = .ok (.getfield 23, 3) := by decide +kernel
theorem dX3_extraCostOfSupposed_24 : decode cX3_extraCostOfSupposed 24 = .ok (.invokevirtual 42, 3) := by decide +kernel
theorem dX3_extraCostOfSupposed_27 : decode cX3_extraCostOfSupposed 27 = .ok (.iinc 2 (-1), 3) := by decide +kernel
theorem dX3_extraCostOfSupposed_30 : decode cX3_extraCostOfSupposed 30 = .ok (.goto (-26), 3) := by decide +kernel
theorem dX3_extraCostOfSupposed_33 : decode cX3_extraCostOfSupposed 33 = .ok (.aload_n 0, 1) := by decide +kernel
theorem dX3_extraCostOfSupposed_34 : decode cX3_extraCostOfSupposed 34 = .ok (.getfield 23, 3) := by decide +kernel
theorem dX3_extraCostOfSupposed_37 : decode cX3_extraCostOfSupposed 37 = .ok (.aload_n 0, 1) := by decide +kernel
theorem dX3_extraCostOfSupposed_38 : decode cX3_extraCostOfSupposed 38 = .ok (.getfield 46, 3) := by decide +kernel
theorem dX3_extraCostOfSupposed_41 : decode cX3_extraCostOfSupposed 41 = .ok (.iaload, 1) := by decide +kernel
theorem dX3_extraCostOfSupposed_42 : decode cX3_extraCostOfSupposed 42 = .ok (.istore_n 2, 1) := by decide +kernel
theorem dX3_extraCostOfSupposed_43 : decode cX3_extraCostOfSupposed 43 = .ok (.iload_n 2, 1) := by decide +kernel
theorem dX3_extraCostOfSupposed_44 : decode cX3_extraCostOfSupposed 44 = .ok (.invokestatic 34, 3) := by decide +kernel
theorem dX3_extraCostOfSupposed_47 : decode cX3_extraCostOfSupposed 47 = .ok (.aload_n 0, 1) := by decide +kernel
theorem dX3_extraCostOfSupposed_48 : decode cX3_extraCostOfSupposed 48 = .ok (.getfield 50, 3) := by decide +kernel
theorem dX3_extraCostOfSupposed_51 : decode cX3_extraCostOfSupposed 51 = .ok (.invokestatic 34, 3) := by decide +kernel
theorem dX3_extraCostOfSupposed_54 : decode cX3_extraCostOfSupposed 54 = .ok (.if_icmp .ne 12, 3) := by decide +kernel
theorem dX3_extraCostOfSupposed_57 : decode cX3_extraCostOfSupposed 57 = .ok (.iload_n 2, 1) := by decide +kernel
theorem dX3_extraCostOfSupposed_58 : decode cX3_extraCostOfSupposed 58 = .ok (.aload_n 0, 1) := by decide +kernel
theorem dX3_extraCostOfSupposed_59 : decode cX3_extraCostOfSupposed 59 = .ok (.getfield 50, 3) := by decide +kernel
theorem dX3_extraCostOfSupposed_62 : decode cX3_extraCostOfSupposed 62 = .ok (.isub, 1) := by decide +kernel
theorem dX3_extraCostOfSupposed_63 : decode cX3_extraCostOfSupposed 63 = .ok (.goto 4, 3) := by decide +kernel
theorem dX3_extraCostOfSupposed_66 : decode cX3_extraCostOfSupposed 66 = .ok (.iconst (-1), 1) := by decide +kernel
theorem dX3_extraCostOfSupposed_67 : decode cX3_extraCostOfSupposed 67 = .ok (.ireturn, 1) := by decide +kernel
theorem dX3_addTo_0 : decode cX3_addTo 0 = .ok (.lload_n 1, 1) := by decide +kernel
theorem dX3_addTo_1 : decode cX3_addTo 1 = .ok (.ldc2_w 114, 3) := by decide +kernel
theorem dX3_addTo_4 : decode cX3_addTo 4 = .ok (.lmul, 1) := by decide +kernel
theorem dX3_addTo_5 : decode cX3_addTo 5 = .ok (.aload_n 0, 1) := by decide +kernel
theorem dX3_addTo_6 : decode cX3_addTo 6 = .ok (.getfield 50, 3) := by decide +kernel
theorem dX3_addTo_9 : decode cX3_addTo 9 = .ok (.invokestatic 34, 3) := by decide +kernel
theorem dX3_addTo_12 : decode cX3_addTo 12 = .ok (.i2l, 1) := by decide +kernel
theorem dX3_addTo_13 : decode cX3_addTo 13 = .ok (.ladd, 1) := by decide +kernel
theorem dX3_addTo_14 : decode cX3_addTo 14 = .ok (.lstore 4, 2) := by decide +kernel
theorem dX3_addTo_16 : decode cX3_addTo 16 = .ok (.lload 4, 2) := by decide +kernel
theorem dX3_addTo_18 : decode cX3_addTo 18 = .ok (.ldc2_w 114, 3) := by decide +kernel
theorem dX3_addTo_21 : decode cX3_addTo 21 = .ok (.lmul, 1) := by decide +kernel
theorem dX3_addTo_22 : decode cX3_addTo 22 = .ok (.aload_n 0, 1) := by decide +kernel
theorem dX3_addTo_23 : decode cX3_addTo 23 = .ok (.getfield 50, 3) := by decide +kernel
theorem dX3_addTo_26 : decode cX3_addTo 26 = .ok (.invokestatic 116, 3) := by decide +kernel
theorem dX3_addTo_29 : decode cX3_addTo 29 = .ok (.i2l, 1) := by decide +kernel
theorem dX3_addTo_30 : decode cX3_addTo 30 = .ok (.ladd, 1) := by decide +kernel
theorem dX3_addTo_31 : decode cX3_addTo 31 = .ok (.lstore 4, 2) := by decide +kernel
theorem dX3_addTo_33 : decode cX3_addTo 33 = .ok (.iconst 0, 1) := by decide +kernel
theorem dX3_addTo_34 : decode cX3_addTo 34 = .ok (.istore 6, 2) := by decide +kernel
theorem dX3_addTo_36 : decode cX3_addTo 36 = .ok (.iload 6, 2) := by decide +kernel
theorem dX3_addTo_38 : decode cX3_addTo 38 = .ok (.iload_n 3, 1) := by decide +kernel
theorem dX3_addTo_39 : decode cX3_addTo 39 = .ok (.if_icmp .ge 33, 3) := by decide +kernel
theorem dX3_addTo_42 : decode cX3_addTo 42 = .ok (.iload 6, 2) := by decide +kernel
theorem dX3_addTo_44 : decode cX3_addTo 44 = .ok (.bipush 10, 2) := by decide +kernel
theorem dX3_addTo_46 : decode cX3_addTo 46 = .ok (.if_icmp .ge 26, 3) := by decide +kernel
theorem dX3_addTo_49 : decode cX3_addTo 49 = .ok (.lload 4, 2) := by decide +kernel
theorem dX3_addTo_51 : decode cX3_addTo 51 = .ok (.ldc2_w 114, 3) := by decide +kernel
theorem dX3_addTo_54 : decode cX3_addTo 54 = .ok (.lmul, 1) := by decide +kernel
theorem dX3_addTo_55 : decode cX3_addTo 55 = .ok (.aload_n 0, 1) := by decide +kernel
theorem dX3_addTo_56 : decode cX3_addTo 56 = .ok (.getfield 29, 3) := by decide +kernel
theorem dX3_addTo_59 : decode cX3_addTo 59 = .ok (.iload 6, 2) := by decide +kernel
theorem dX3_addTo_61 : decode cX3_addTo 61 = .ok (.iaload, 1) := by decide +kernel
theorem dX3_addTo_62 : decode cX3_addTo 62 = .ok (.i2l, 1) := by decide +kernel
theorem dX3_addTo_63 : decode cX3_addTo 63 = .ok (.ladd, 1) := by decide +kernel
theorem dX3_addTo_64 : decode cX3_addTo 64 = .ok (.lstore 4, 2) := by decide +kernel
theorem dX3_addTo_66 : decode cX3_addTo 66 = .ok (.iinc 6 1, 3) := by decide +kernel
theorem dX3_addTo_69 : decode cX3_addTo 69 = .ok (.goto (-33), 3) := by decide +kernel
theorem dX3_addTo_72 : decode cX3_addTo 72 = .ok (.lload 4, 2) := by decide +kernel
theorem dX3_addTo_74 : decode cX3_addTo 74 = .ok (.lreturn, 1) := by decide +kernel
theorem dX4_init_0 : decode cX4_init 0 = .ok (.aload_n 0, 1) := by decide +kernel
theorem dX4_init_1 : decode cX4_init 1 = .ok (.invokespecial 3, 3) := by decide +kernel
theorem dX4_init_4 : decode cX4_init 4 = .ok (.aload_n 0, 1) := by decide +kernel
theorem dX4_init_5 : decode cX4_init 5 = .ok (.bipush 100, 2) := by decide +kernel
theorem dX4_init_7 : decode cX4_init 7 = .ok (.newarray .int, 2) := by decide +kernel
theorem dX4_init_9 : decode cX4_init 9 = .ok (.putfield 9, 3) := by decide +kernel
theorem dX4_init_12 : decode cX4_init 12 = .ok (.aload_n 0, 1) := by decide +kernel
theorem dX4_init_13 : decode cX4_init 13 = .ok (.getfield 9, 3) := by decide +kernel
theorem dX4_init_16 : decode cX4_init 16 = .ok (.sipush 20000, 3) := by decide +kernel
theorem dX4_init_19 : decode cX4_init 19 = .ok (.invokestatic 15, 3) := by decide +kernel
theorem dX4_init_22 : decode cX4_init 22 = .ok (.return_, 1) := by decide +kernel
theorem dX4_appendRow_0 : decode cX4_appendRow 0 = .ok (.aload_n 0, 1) := by decide +kernel
theorem dX4_appendRow_1 : decode cX4_appendRow 1 = .ok (.aload_n 0, 1) := by decide +kernel
theorem dX4_appendRow_2 : decode cX4_appendRow 2 = .ok (.getfield 21, 3) := by decide +kernel
theorem dX4_appendRow_5 : decode cX4_appendRow 5 = .ok (.aload_n 0, 1) := by decide +kernel
theorem dX4_appendRow_6 : decode cX4_appendRow 6 = .ok (.getfield 25, 3) := by decide +kernel
theorem dX4_appendRow_9 : decode cX4_appendRow 9 = .ok (.iconst 1, 1) := by decide +kernel
theorem dX4_appendRow_10 : decode cX4_appendRow 10 = .ok (.invokestatic 28, 3) := by decide +kernel
theorem dX4_appendRow_13 : decode cX4_appendRow 13 = .ok (.putfield 21, 3) := by decide +kernel
theorem dX4_appendRow_16 : decode cX4_appendRow 16 = .ok (.aload_n 0, 1) := by decide +kernel
theorem dX4_appendRow_17 : decode cX4_appendRow 17 = .ok (.dup, 1) := by decide +kernel
theorem dX4_appendRow_18 : decode cX4_appendRow 18 = .ok (.getfield 25, 3) := by decide +kernel
theorem dX4_appendRow_21 : decode cX4_appendRow 21 = .ok (.iconst 1, 1) := by decide +kernel
theorem dX4_appendRow_22 : decode cX4_appendRow 22 = .ok (.iadd, 1) := by decide +kernel
theorem dX4_appendRow_23 : decode cX4_appendRow 23 = .ok (.putfield 25, 3) := by decide +kernel
theorem dX4_appendRow_26 : decode cX4_appendRow 26 = .ok (.aload_n 0, 1) := by decide +kernel
theorem dX4_appendRow_27 : decode cX4_appendRow 27 = .ok (.getfield 25, 3) := by decide +kernel
theorem dX4_appendRow_30 : decode cX4_appendRow 30 = .ok (.iconst 1, 1) := by decide +kernel
theorem dX4_appendRow_31 : decode cX4_appendRow 31 = .ok (.isub, 1) := by decide +kernel
theorem dX4_appendRow_32 : decode cX4_appendRow 32 = .ok (.ireturn, 1) := by decide +kernel
theorem dX4_appendColumn_0 : decode cX4_appendColumn 0 = .ok (.aload_n 0, 1) := by decide +kernel
theorem dX4_appendColumn_1 : decode cX4_appendColumn 1 = .ok (.aload_n 0, 1) := by decide +kernel
theorem dX4_appendColumn_2 : decode cX4_appendColumn 2 = .ok (.getfield 32, 3) := by decide +kernel
theorem dX4_appendColumn_5 : decode cX4_appendColumn 5 = .ok (.aload_n 0, 1) := by decide +kernel
theorem dX4_appendColumn_6 : decode cX4_appendColumn 6 = .ok (.getfield 35, 3) := by decide +kernel
theorem dX4_appendColumn_9 : decode cX4_appendColumn 9 = .ok (.iconst 1, 1) := by decide +kernel
theorem dX4_appendColumn_10 : decode cX4_appendColumn 10 = .ok (.invokestatic 28, 3) := by decide +kernel
theorem dX4_appendColumn_13 : decode cX4_appendColumn 13 = .ok (.putfield 32, 3) := by decide +kernel
theorem dX4_appendColumn_16 : decode cX4_appendColumn 16 = .ok (.aload_n 0, 1) := by decide +kernel
theorem dX4_appendColumn_17 : decode cX4_appendColumn 17 = .ok (.dup, 1) := by decide +kernel
theorem dX4_appendColumn_18 : decode cX4_appendColumn 18 = .ok (.getfield 35, 3) := by decide +kernel
theorem dX4_appendColumn_21 : decode cX4_appendColumn 21 = .ok (.iconst 1, 1) := by decide +kernel
theorem dX4_appendColumn_22 : decode cX4_appendColumn 22 = .ok (.iadd, 1) := by decide +kernel
theorem dX4_appendColumn_23 : decode cX4_appendColumn 23 = .ok (.putfield 35, 3) := by decide +kernel
theorem dX4_appendColumn_26 : decode cX4_appendColumn 26 = .ok (.aload_n 0, 1) := by decide +kernel
theorem dX4_appendColumn_27 : decode cX4_appendColumn 27 = .ok (.getfield 35, 3) := by decide +kernel
theorem dX4_appendColumn_30 : decode cX4_appendColumn 30 = .ok (.iconst 1, 1) := by decide +kernel
theorem dX4_appendColumn_31 : decode cX4_appendColumn 31 = .ok (.isub, 1) := by decide +kernel
theorem dX4_appendColumn_32 : decode cX4_appendColumn 32 = .ok (.ireturn, 1) := by decide +kernel
theorem dX4_cell_0 : decode cX4_cell 0 = .ok (.aload_n 0, 1) := by decide +kernel
theorem dX4_cell_1 : decode cX4_cell 1 = .ok (.getfield 9, 3) := by decide +kernel
theorem dX4_cell_4 : decode cX4_cell 4 = .ok (.iload_n 1, 1) := by decide +kernel
theorem dX4_cell_5 : decode cX4_cell 5 = .ok (.bipush 10, 2) := by decide +kernel
theorem dX4_cell_7 : decode cX4_cell 7 = .ok (.imul, 1) := by decide +kernel
theorem dX4_cell_8 : decode cX4_cell 8 = .ok (.iload_n 2, 1) := by decide +kernel
theorem dX4_cell_9 : decode cX4_cell 9 = .ok (.iadd, 1) := by decide +kernel
theorem dX4_cell_10 : decode cX4_cell 10 = .ok (.iaload, 1) := by decide +kernel
theorem dX4_cell_11 : decode cX4_cell 11 = .ok (.ireturn, 1) := by decide +kernel
theorem dX4_isUsable_0 : decode cX4_isUsable 0 = .ok (.aload_n 0, 1) := by decide +kernel
theorem dX4_isUsable_1 : decode cX4_isUsable 1 = .ok (.getfield 21, 3) := by decide +kernel
theorem dX4_isUsable_4 : decode cX4_isUsable 4 = .ok (.iload_n 1, 1) := by decide +kernel
theorem dX4_isUsable_5 : decode cX4_isUsable 5 = .ok (.invokestatic 38, 3) := by decide +kernel
theorem dX4_isUsable_8 : decode cX4_isUsable 8 = .ok (.ifCond .eq 30, 3) := by decide +kernel
theorem dX4_isUsable_11 : decode cX4_isUsable 11 = .ok (.aload_n 0, 1) := by decide +kernel
theorem dX4_isUsable_12 : decode cX4_isUsable 12 = .ok (.getfield 32, 3) := by decide +kernel
theorem dX4_isUsable_15 : decode cX4_isUsable 15 = .ok (.iload_n 2, 1) := by decide +kernel
theorem dX4_isUsable_16 : decode cX4_isUsable 16 = .ok (.invokestatic 38, 3) := by decide +kernel
theorem dX4_isUsable_19 : decode cX4_isUsable 19 = .ok (.ifCond .eq 19, 3) := by decide +kernel
theorem dX4_isUsable_22 : decode cX4_isUsable 22 = .ok (.aload_n 0, 1) := by decide +kernel
theorem dX4_isUsable_23 : decode cX4_isUsable 23 = .ok (.iload_n 1, 1) := by decide +kernel
theorem dX4_isUsable_24 : decode cX4_isUsable 24 = .ok (.iload_n 2, 1) := by decide +kernel
theorem dX4_isUsable_25 : decode cX4_isUsable 25 = .ok (.invokevirtual 42, 3) := by decide +kernel
theorem dX4_isUsable_28 : decode cX4_isUsable 28 = .ok (.sipush 20000, 3) := by decide +kernel
theorem dX4_isUsable_31 : decode cX4_isUsable 31 = .ok (.if_icmp .eq 7, 3) := by decide +kernel
theorem dX4_isUsable_34 : decode cX4_isUsable 34 = .ok (.iconst 1, 1) := by decide +kernel
theorem dX4_isUsable_35 : decode cX4_isUsable 35 = .ok (.goto 4, 3) := by decide +kernel
theorem dX4_isUsable_38 : decode cX4_isUsable 38 = .ok (.iconst 0, 1) := by decide +kernel
theorem dX4_isUsable_39 : decode cX4_isUsable 39 = .ok (.ireturn, 1) := by decide +kernel
theorem dX4_usableColumns_0 : decode cX4_usableColumns 0 = .ok (.iconst 0, 1) := by decide +kernel
theorem dX4_usableColumns_1 : decode cX4_usableColumns 1 = .ok (.istore_n 2, 1) := by decide +kernel
theorem dX4_usableColumns_2 : decode cX4_usableColumns 2 = .ok (.iconst 0, 1) := by decide +kernel
theorem dX4_usableColumns_3 : decode cX4_usableColumns 3 = .ok (.istore_n 3, 1) := by decide +kernel
theorem dX4_usableColumns_4 : decode cX4_usableColumns 4 = .ok (.iload_n 3, 1) := by decide +kernel
theorem dX4_usableColumns_5 : decode cX4_usableColumns 5 = .ok (.bipush 10, 2) := by decide +kernel
theorem dX4_usableColumns_7 : decode cX4_usableColumns 7 = .ok (.if_icmp .ge 25, 3) := by decide +kernel
theorem dX4_usableColumns_10 : decode cX4_usableColumns 10 = .ok (.aload_n 0, 1) := by decide +kernel
theorem dX4_usableColumns_11 : decode cX4_usableColumns 11 = .ok (.iload_n 1, 1) := by decide +kernel
theorem dX4_usableColumns_12 : decode cX4_usableColumns 12 = .ok (.iload_n 3, 1) := by decide +kernel
theorem dX4_usableColumns_13 : decode cX4_usableColumns 13 = .ok (.invokevirtual 46, 3) := by decide +kernel
theorem dX4_usableColumns_16 : decode cX4_usableColumns 16 = .ok (.ifCond .eq 10, 3) := by decide +kernel
theorem dX4_usableColumns_19 : decode cX4_usableColumns 19 = .ok (.iload_n 2, 1) := by decide +kernel
theorem dX4_usableColumns_20 : decode cX4_usableColumns 20 = .ok (.iload_n 3, 1) := by decide +kernel
theorem dX4_usableColumns_21 : decode cX4_usableColumns 21 = .ok (.iconst 1, 1) := by decide +kernel
theorem dX4_usableColumns_22 : decode cX4_usableColumns 22 = .ok (.invokestatic 28, 3) := by decide +kernel
theorem dX4_usableColumns_25 : decode cX4_usableColumns 25 = .ok (.istore_n 2, 1) := by decide +kernel
theorem dX4_usableColumns_26 : decode cX4_usableColumns 26 = .ok (.iinc 3 1, 3) := by decide +kernel
theorem dX4_usableColumns_29 : decode cX4_usableColumns 29 = .ok (.goto (-25), 3) := by decide +kernel
theorem dX4_usableColumns_32 : decode cX4_usableColumns 32 = .ok (.iload_n 2, 1) := by decide +kernel
theorem dX4_usableColumns_33 : decode cX4_usableColumns 33 = .ok (.ireturn, 1) := by decide +kernel
theorem dX4_canShiftRow_0 : decode cX4_canShiftRow 0 = .ok (.iconst 0, 1) := by decide +kernel
theorem dX4_canShiftRow_1 : decode cX4_canShiftRow 1 = .ok (.istore_n 3, 1) := by decide +kernel
theorem dX4_canShiftRow_2 : decode cX4_canShiftRow 2 = .ok (.iload_n 3, 1) := by decide +kernel
theorem dX4_canShiftRow_3 : decode cX4_canShiftRow 3 = .ok (.bipush 10, 2) := by decide +kernel
theorem dX4_canShiftRow_5 : decode cX4_canShiftRow 5 = .ok (.if_icmp .ge 39, 3) := by decide +kernel
theorem dX4_canShiftRow_8 : decode cX4_canShiftRow 8 = .ok (.aload_n 0, 1) := by decide +kernel
theorem dX4_canShiftRow_9 : decode cX4_canShiftRow 9 = .ok (.iload_n 1, 1) := by decide +kernel
theorem dX4_canShiftRow_10 : decode cX4_canShiftRow 10 = .ok (.iload_n 3, 1) := by decide +kernel
theorem dX4_canShiftRow_11 : decode cX4_canShiftRow 11 = .ok (.invokevirtual 42, 3) := by decide +kernel
theorem dX4_canShiftRow_14 : decode cX4_canShiftRow 14 = .ok (.istore 4, 2) := by decide +kernel
theorem dX4_canShiftRow_16 : decode cX4_canShiftRow 16 = .ok (.iload 4, 2) := by decide +kernel
theorem dX4_canShiftRow_18 : decode cX4_canShiftRow 18 = .ok (.sipush 20000, 3) := by decide +kernel
theorem dX4_canShiftRow_21 : decode cX4_canShiftRow 21 = .ok (.if_icmp .eq 17, 3) := by decide +kernel
theorem dX4_canShiftRow_24 : decode cX4_canShiftRow 24 = .ok (.iload 4, 2) := by decide +kernel
theorem dX4_canShiftRow_26 : decode cX4_canShiftRow 26 = .ok (.i2l, 1) := by decide +kernel
theorem dX4_canShiftRow_27 : decode cX4_canShiftRow 27 = .ok (.iload_n 2, 1) := by decide +kernel
theorem dX4_canShiftRow_28 : decode cX4_canShiftRow 28 = .ok (.i2l, 1) := by decide +kernel
theorem dX4_canShiftRow_29 : decode cX4_canShiftRow 29 = .ok (.ladd, 1) := by decide +kernel
theorem dX4_canShiftRow_30 : decode cX4_canShiftRow 30 = .ok (.invokestatic 49, 3) := by decide +kernel
theorem dX4_canShiftRow_33 : decode cX4_canShiftRow 33 = .ok (.ifCond .ne 5, 3) := by decide +kernel
theorem dX4_canShiftRow_36 : decode cX4_canShiftRow 36 = .ok (.iconst 0, 1) := by decide +kernel
theorem dX4_canShiftRow_37 : decode cX4_canShiftRow 37 = .ok (.ireturn, 1) := by decide +kernel
theorem dX4_canShiftRow_38 : decode cX4_canShiftRow 38 = .ok (.iinc 3 1, 3) := by decide +kernel
theorem dX4_canShiftRow_41 : decode cX4_canShiftRow 41 = .ok (.goto (-39), 3) := by decide +kernel
theorem dX4_canShiftRow_44 : decode cX4_canShiftRow 44 = .ok (.iconst 1, 1) := by decide +kernel
theorem dX4_canShiftRow_45 : decode cX4_canShiftRow 45 = .ok (.ireturn, 1) := by decide +kernel
theorem dX4_shiftRow_0 : decode cX4_shiftRow 0 = .ok (.iconst 0, 1) := by decide +kernel
theorem dX4_shiftRow_1 : decode cX4_shiftRow 1 = .ok (.istore_n 3, 1) := by decide +kernel
theorem dX4_shiftRow_2 : decode cX4_shiftRow 2 = .ok (.iconst 0, 1) := by decide +kernel
theorem dX4_shiftRow_3 : decode cX4_shiftRow 3 = .ok (.istore 4, 2) := by decide +kernel
theorem dX4_shiftRow_5 : decode cX4_shiftRow 5 = .ok (.iload 4, 2) := by decide +kernel
theorem dX4_shiftRow_7 : decode cX4_shiftRow 7 = .ok (.bipush 10, 2) := by decide +kernel
theorem dX4_shiftRow_9 : decode cX4_shiftRow 9 = .ok (.if_icmp .ge 41, 3) := by decide +kernel
theorem dX4_shiftRow_12 : decode cX4_shiftRow 12 = .ok (.aload_n 0, 1) := by decide +kernel
theorem dX4_shiftRow_13 : decode cX4_shiftRow 13 = .ok (.iload_n 1, 1) := by decide +kernel
theorem dX4_shiftRow_14 : decode cX4_shiftRow 14 = .ok (.iload 4, 2) := by decide +kernel
theorem dX4_shiftRow_16 : decode cX4_shiftRow 16 = .ok (.invokevirtual 42, 3) := by decide +kernel
theorem dX4_shiftRow_19 : decode cX4_shiftRow 19 = .ok (.sipush 20000, 3) := by decide +kernel
theorem dX4_shiftRow_22 : decode cX4_shiftRow 22 = .ok (.if_icmp .eq 22, 3) := by decide +kernel
theorem dX4_shiftRow_25 : decode cX4_shiftRow 25 = .ok (.aload_n 0, 1) := by decide +kernel
theorem dX4_shiftRow_26 : decode cX4_shiftRow 26 = .ok (.getfield 9, 3) := by decide +kernel
theorem dX4_shiftRow_29 : decode cX4_shiftRow 29 = .ok (.iload_n 1, 1) := by decide +kernel
theorem dX4_shiftRow_30 : decode cX4_shiftRow 30 = .ok (.bipush 10, 2) := by decide +kernel
theorem dX4_shiftRow_32 : decode cX4_shiftRow 32 = .ok (.imul, 1) := by decide +kernel
theorem dX4_shiftRow_33 : decode cX4_shiftRow 33 = .ok (.iload 4, 2) := by decide +kernel
theorem dX4_shiftRow_35 : decode cX4_shiftRow 35 = .ok (.iadd, 1) := by decide +kernel
theorem dX4_shiftRow_36 : decode cX4_shiftRow 36 = .ok (.dup2, 1) := by decide +kernel
theorem dX4_shiftRow_37 : decode cX4_shiftRow 37 = .ok (.iaload, 1) := by decide +kernel
theorem dX4_shiftRow_38 : decode cX4_shiftRow 38 = .ok (.iload_n 2, 1) := by decide +kernel
theorem dX4_shiftRow_39 : decode cX4_shiftRow 39 = .ok (.iadd, 1) := by decide +kernel
theorem dX4_shiftRow_40 : decode cX4_shiftRow 40 = .ok (.iastore, 1) := by decide +kernel
end
section
theorem dX4_shiftRow_41 : decode cX4_shiftRow 41 = .ok (.iinc 3 1, 3) := by decide +kernel
theorem dX4_shiftRow_44 : decode cX4_shiftRow 44 = .ok (.iinc 4 1, 3) := by decide +kernel
theorem dX4_shiftRow_47 : decode cX4_shiftRow 47 = .ok (.goto (-42), 3) := by decide +kernel
theorem dX4_shiftRow_50 : decode cX4_shiftRow 50 = .ok (.iload_n 3, 1) := by decide +kernel
theorem dX4_shiftRow_51 : decode cX4_shiftRow 51 = .ok (.ireturn, 1) := by decide +kernel
theorem dX4_canStretchColumn_0 : decode cX4_canStretchColumn 0 = .ok (.iconst 0, 1) := by decide +kernel
theorem dX4_canStretchColumn_1 : decode cX4_canStretchColumn 1 = .ok (.istore 4, 2) := by decide +kernel
theorem dX4_canStretchColumn_3 : decode cX4_canStretchColumn 3 = .ok (.iload 4, 2) := by decide +kernel
theorem dX4_canStretchColumn_5 : decode cX4_canStretchColumn 5 = .ok (.bipush 10, 2) := by decide +kernel
theorem dX4_canStretchColumn_7 : decode cX4_canStretchColumn 7 = .ok (.if_icmp .ge 43, 3) := by decide +kernel
theorem dX4_canStretchColumn_10 : decode cX4_canStretchColumn 10 = .ok (.aload_n 0, 1) := by decide +kernel
theorem dX4_canStretchColumn_11 : decode cX4_canStretchColumn 11 = .ok (.iload 4, 2) := by decide +kernel
theorem dX4_canStretchColumn_13 : decode cX4_canStretchColumn 13 = .ok (.iload_n 1, 1) := by decide +kernel
theorem dX4_canStretchColumn_14 : decode cX4_canStretchColumn 14 = .ok (.invokevirtual 42, 3) := by decide +kernel
theorem dX4_canStretchColumn_17 : decode cX4_canStretchColumn 17 = .ok (.istore 5, 2) := by decide +kernel
theorem dX4_canStretchColumn_19 : decode cX4_canStretchColumn 19 = .ok (.iload 5, 2) := by decide +kernel
theorem dX4_canStretchColumn_21 : decode cX4_canStretchColumn 21 = .ok (.sipush 20000, 3) := by decide +kernel
theorem dX4_canStretchColumn_24 : decode cX4_canStretchColumn 24 = .ok (.if_icmp .eq 20, 3) := by decide +kernel
theorem dX4_canStretchColumn_27 : decode cX4_canStretchColumn 27 = .ok (.iload 5, 2) := by decide +kernel
theorem dX4_canStretchColumn_29 : decode cX4_canStretchColumn 29 = .ok (.i2d, 1) := by decide +kernel
theorem dX4_canStretchColumn_30 : decode cX4_canStretchColumn 30 = .ok (.dload_n 2, 1) := by decide +kernel
theorem dX4_canStretchColumn_31 : decode cX4_canStretchColumn 31 = .ok (.dmul, 1) := by decide +kernel
theorem dX4_canStretchColumn_32 : decode cX4_canStretchColumn 32 = .ok (.invokestatic 53, 3) := by decide +kernel
theorem dX4_canStretchColumn_35 : decode cX4_canStretchColumn 35 = .ok (.i2l, 1) := by decide +kernel
theorem dX4_canStretchColumn_36 : decode cX4_canStretchColumn 36 = .ok (.invokestatic 49, 3) := by decide +kernel
theorem dX4_canStretchColumn_39 : decode cX4_canStretchColumn 39 = .ok (.ifCond .ne 5, 3) := by decide +kernel
theorem dX4_canStretchColumn_42 : decode cX4_canStretchColumn 42 = .ok (.iconst 0, 1) := by decide +kernel
theorem dX4_canStretchColumn_43 : decode cX4_canStretchColumn 43 = .ok (.ireturn, 1) := by decide +kernel
theorem dX4_canStretchColumn_44 : decode cX4_canStretchColumn 44 = .ok (.iinc 4 1, 3) := by decide +kernel
theorem dX4_canStretchColumn_47 : decode cX4_canStretchColumn 47 = .ok (.goto (-44), 3) := by decide +kernel
theorem dX4_canStretchColumn_50 : decode cX4_canStretchColumn 50 = .ok (.iconst 1, 1) := by decide +kernel
theorem dX4_canStretchColumn_51 : decode cX4_canStretchColumn 51 = .ok (.ireturn, 1) := by decide +kernel
theorem dX4_stretchColumn_0 : decode cX4_stretchColumn 0 = .ok (.iconst 0, 1) := by decide +kernel
theorem dX4_stretchColumn_1 : decode cX4_stretchColumn 1 = .ok (.istore 4, 2) := by decide +kernel
theorem dX4_stretchColumn_3 : decode cX4_stretchColumn 3 = .ok (.iconst 0, 1) := by decide +kernel
theorem dX4_stretchColumn_4 : decode cX4_stretchColumn 4 = .ok (.istore 5, 2) := by decide +kernel
theorem dX4_stretchColumn_6 : decode cX4_stretchColumn 6 = .ok (.iload 5, 2) := by decide +kernel
theorem dX4_stretchColumn_8 : decode cX4_stretchColumn 8 = .ok (.bipush 10, 2) := by decide +kernel
theorem dX4_stretchColumn_10 : decode cX4_stretchColumn 10 = .ok (.if_icmp .ge 62, 3) := by decide +kernel
theorem dX4_stretchColumn_13 : decode cX4_stretchColumn 13 = .ok (.aload_n 0, 1) := by decide +kernel
theorem dX4_stretchColumn_14 : decode cX4_stretchColumn 14 = .ok (.iload 5, 2) := by decide +kernel
theorem dX4_stretchColumn_16 : decode cX4_stretchColumn 16 = .ok (.iload_n 1, 1) := by decide +kernel
theorem dX4_stretchColumn_17 : decode cX4_stretchColumn 17 = .ok (.invokevirtual 42, 3) := by decide +kernel
theorem dX4_stretchColumn_20 : decode cX4_stretchColumn 20 = .ok (.istore 6, 2) := by decide +kernel
theorem dX4_stretchColumn_22 : decode cX4_stretchColumn 22 = .ok (.iload 6, 2) := by decide +kernel
theorem dX4_stretchColumn_24 : decode cX4_stretchColumn 24 = .ok (.sipush 20000, 3) := by decide +kernel
theorem dX4_stretchColumn_27 : decode cX4_stretchColumn 27 = .ok (.if_icmp .eq 39, 3) := by decide +kernel
theorem dX4_stretchColumn_30 : decode cX4_stretchColumn 30 = .ok (.iload 6, 2) := by decide +kernel
theorem dX4_stretchColumn_32 : decode cX4_stretchColumn 32 = .ok (.i2d, 1) := by decide +kernel
theorem dX4_stretchColumn_33 : decode cX4_stretchColumn 33 = .ok (.dload_n 2, 1) := by decide +kernel
theorem dX4_stretchColumn_34 : decode cX4_stretchColumn 34 = .ok (.dmul, 1) := by decide +kernel
theorem dX4_stretchColumn_35 : decode cX4_stretchColumn 35 = .ok (.invokestatic 53, 3) := by decide +kernel
theorem dX4_stretchColumn_38 : decode cX4_stretchColumn 38 = .ok (.iload 6, 2) := by decide +kernel
theorem dX4_stretchColumn_40 : decode cX4_stretchColumn 40 = .ok (.if_icmp .eq 26, 3) := by decide +kernel
theorem dX4_stretchColumn_43 : decode cX4_stretchColumn 43 = .ok (.aload_n 0, 1) := by decide +kernel
theorem dX4_stretchColumn_44 : decode cX4_stretchColumn 44 = .ok (.getfield 9, 3) := by decide +kernel
theorem dX4_stretchColumn_47 : decode cX4_stretchColumn 47 = .ok (.iload 5, 2) := by decide +kernel
theorem dX4_stretchColumn_49 : decode cX4_stretchColumn 49 = .ok (.bipush 10, 2) := by decide +kernel
theorem dX4_stretchColumn_51 : decode cX4_stretchColumn 51 = .ok (.imul, 1) := by decide +kernel
theorem dX4_stretchColumn_52 : decode cX4_stretchColumn 52 = .ok (.iload_n 1, 1) := by decide +kernel
theorem dX4_stretchColumn_53 : decode cX4_stretchColumn 53 = .ok (.iadd, 1) := by decide +kernel
theorem dX4_stretchColumn_54 : decode cX4_stretchColumn 54 = .ok (.iload 6, 2) := by decide +kernel
theorem dX4_stretchColumn_56 : decode cX4_stretchColumn 56 = .ok (.i2d, 1) := by decide +kernel
theorem dX4_stretchColumn_57 : decode cX4_stretchColumn 57 = .ok (.dload_n 2, 1) := by decide +kernel
theorem dX4_stretchColumn_58 : decode cX4_stretchColumn 58 = .ok (.dmul, 1) := by decide +kernel
theorem dX4_stretchColumn_59 : decode cX4_stretchColumn 59 = .ok (.invokestatic 53, 3) := by decide +kernel
theorem dX4_stretchColumn_62 : decode cX4_stretchColumn 62 = .ok (.iastore, 1) := by decide +kernel
theorem dX4_stretchColumn_63 : decode cX4_stretchColumn 63 = .ok (.iinc 4 1, 3) := by decide +kernel
theorem dX4_stretchColumn_66 : decode cX4_stretchColumn 66 = .ok (.iinc 5 1, 3) := by decide +kernel
theorem dX4_stretchColumn_69 : decode cX4_stretchColumn 69 = .ok (.goto (-63), 3) := by decide +kernel
theorem dX4_stretchColumn_72 : decode cX4_stretchColumn 72 = .ok (.iload 4, 2) := by decide +kernel
theorem dX4_stretchColumn_74 : decode cX4_stretchColumn 74 = .ok (.ireturn, 1) := by decide +kernel
theorem dX4_nearest_0 : decode cX4_nearest 0 = .ok (.dload_n 0, 1) := by decide +kernel
theorem dX4_nearest_1 : decode cX4_nearest 1 = .ok (.dconst 0, 1) := by decide +kernel
theorem dX4_nearest_2 : decode cX4_nearest 2 = .ok (.dcmp .g, 1) := by decide +kernel
theorem dX4_nearest_3 : decode cX4_nearest 3 = .ok (.ifCond .ge 8, 3) := by decide +kernel
theorem dX4_nearest_6 : decode cX4_nearest 6 = .ok (.dload_n 0, 1) := by decide +kernel
theorem dX4_nearest_7 : decode cX4_nearest 7 = .ok (.dneg, 1) := by decide +kernel
theorem dX4_nearest_8 : decode cX4_nearest 8 = .ok (.goto 4, 3) := by decide +kernel
theorem dX4_nearest_11 : decode cX4_nearest 11 = .ok (.dload_n 0, 1) := by decide +kernel
theorem dX4_nearest_12 : decode cX4_nearest 12 = .ok (.dstore_n 2, 1) := by decide +kernel
theorem dX4_nearest_13 : decode cX4_nearest 13 = .ok (.dload_n 2, 1) := by decide +kernel
theorem dX4_nearest_14 : decode cX4_nearest 14 = .ok (.d2i, 1) := by decide +kernel
theorem dX4_nearest_15 : decode cX4_nearest 15 = .ok (.istore 4, 2) := by decide +kernel
theorem dX4_nearest_17 : decode cX4_nearest 17 = .ok (.dload_n 2, 1) := by decide +kernel
theorem dX4_nearest_18 : decode cX4_nearest 18 = .ok (.iload 4, 2) := by decide +kernel
theorem dX4_nearest_20 : decode cX4_nearest 20 = .ok (.i2d, 1) := by decide +kernel
theorem dX4_nearest_21 : decode cX4_nearest 21 = .ok (.dsub, 1) := by decide +kernel
theorem dX4_nearest_22 : decode cX4_nearest 22 = .ok (.dstore 5, 2) := by decide +kernel
theorem dX4_nearest_24 : decode cX4_nearest 24 = .ok (.dload 5, 2) := by decide +kernel
theorem dX4_nearest_26 : decode cX4_nearest 26 = .ok (.ldc2_w 57, 3) := by decide +kernel
theorem dX4_nearest_29 : decode cX4_nearest 29 = .ok (.dcmp .l, 1) := by decide +kernel
theorem dX4_nearest_30 : decode cX4_nearest 30 = .ok (.ifCond .gt 19, 3) := by decide +kernel
theorem dX4_nearest_33 : decode cX4_nearest 33 = .ok (.dload 5, 2) := by decide +kernel
theorem dX4_nearest_35 : decode cX4_nearest 35 = .ok (.ldc2_w 57, 3) := by decide +kernel
theorem dX4_nearest_38 : decode cX4_nearest 38 = .ok (.dcmp .l, 1) := by decide +kernel
theorem dX4_nearest_39 : decode cX4_nearest 39 = .ok (.ifCond .ne 13, 3) := by decide +kernel
theorem dX4_nearest_42 : decode cX4_nearest 42 = .ok (.iload 4, 2) := by decide +kernel
theorem dX4_nearest_44 : decode cX4_nearest 44 = .ok (.iconst 1, 1) := by decide +kernel
theorem dX4_nearest_45 : decode cX4_nearest 45 = .ok (.iand, 1) := by decide +kernel
theorem dX4_nearest_46 : decode cX4_nearest 46 = .ok (.ifCond .eq 6, 3) := by decide +kernel
theorem dX4_nearest_49 : decode cX4_nearest 49 = .ok (.iinc 4 1, 3) := by decide +kernel
theorem dX4_nearest_52 : decode cX4_nearest 52 = .ok (.dload_n 0, 1) := by decide +kernel
theorem dX4_nearest_53 : decode cX4_nearest 53 = .ok (.dconst 0, 1) := by decide +kernel
theorem dX4_nearest_54 : decode cX4_nearest 54 = .ok (.dcmp .g, 1) := by decide +kernel
theorem dX4_nearest_55 : decode cX4_nearest 55 = .ok (.ifCond .ge 9, 3) := by decide +kernel
theorem dX4_nearest_58 : decode cX4_nearest 58 = .ok (.iload 4, 2) := by decide +kernel
theorem dX4_nearest_60 : decode cX4_nearest 60 = .ok (.ineg, 1) := by decide +kernel
theorem dX4_nearest_61 : decode cX4_nearest 61 = .ok (.goto 5, 3) := by decide +kernel
theorem dX4_nearest_64 : decode cX4_nearest 64 = .ok (.iload 4, 2) := by decide +kernel
theorem dX4_nearest_66 : decode cX4_nearest 66 = .ok (.ireturn, 1) := by decide +kernel
theorem dX4_addTo_0 : decode cX4_addTo 0 = .ok (.lload_n 1, 1) := by decide +kernel
theorem dX4_addTo_1 : decode cX4_addTo 1 = .ok (.lstore_n 3, 1) := by decide +kernel
theorem dX4_addTo_2 : decode cX4_addTo 2 = .ok (.iconst 0, 1) := by decide +kernel
theorem dX4_addTo_3 : decode cX4_addTo 3 = .ok (.istore 5, 2) := by decide +kernel
theorem dX4_addTo_5 : decode cX4_addTo 5 = .ok (.iload 5, 2) := by decide +kernel
theorem dX4_addTo_7 : decode cX4_addTo 7 = .ok (.aload_n 0, 1) := by decide +kernel
theorem dX4_addTo_8 : decode cX4_addTo 8 = .ok (.getfield 25, 3) := by decide +kernel
theorem dX4_addTo_11 : decode cX4_addTo 11 = .ok (.if_icmp .ge 26, 3) := by decide +kernel
theorem dX4_addTo_14 : decode cX4_addTo 14 = .ok (.lload_n 3, 1) := by decide +kernel
theorem dX4_addTo_15 : decode cX4_addTo 15 = .ok (.ldc2_w 59, 3) := by decide +kernel
theorem dX4_addTo_18 : decode cX4_addTo 18 = .ok (.lmul, 1) := by decide +kernel
theorem dX4_addTo_19 : decode cX4_addTo 19 = .ok (.aload_n 0, 1) := by decide +kernel
theorem dX4_addTo_20 : decode cX4_addTo 20 = .ok (.getfield 21, 3) := by decide +kernel
theorem dX4_addTo_23 : decode cX4_addTo 23 = .ok (.iload 5, 2) := by decide +kernel
theorem dX4_addTo_25 : decode cX4_addTo 25 = .ok (.ishr, 1) := by decide +kernel
theorem dX4_addTo_26 : decode cX4_addTo 26 = .ok (.iconst 1, 1) := by decide +kernel
theorem dX4_addTo_27 : decode cX4_addTo 27 = .ok (.iand, 1) := by decide +kernel
theorem dX4_addTo_28 : decode cX4_addTo 28 = .ok (.i2l, 1) := by decide +kernel
theorem dX4_addTo_29 : decode cX4_addTo 29 = .ok (.ladd, 1) := by decide +kernel
theorem dX4_addTo_30 : decode cX4_addTo 30 = .ok (.lstore_n 3, 1) := by decide +kernel
theorem dX4_addTo_31 : decode cX4_addTo 31 = .ok (.iinc 5 1, 3) := by decide +kernel
theorem dX4_addTo_34 : decode cX4_addTo 34 = .ok (.goto (-29), 3) := by decide +kernel
theorem dX4_addTo_37 : decode cX4_addTo 37 = .ok (.iconst 0, 1) := by decide +kernel
theorem dX4_addTo_38 : decode cX4_addTo 38 = .ok (.istore 5, 2) := by decide +kernel
theorem dX4_addTo_40 : decode cX4_addTo 40 = .ok (.iload 5, 2) := by decide +kernel
theorem dX4_addTo_42 : decode cX4_addTo 42 = .ok (.aload_n 0, 1) := by decide +kernel
theorem dX4_addTo_43 : decode cX4_addTo 43 = .ok (.getfield 35, 3) := by decide +kernel
theorem dX4_addTo_46 : decode cX4_addTo 46 = .ok (.if_icmp .ge 26, 3) := by decide +kernel
theorem dX4_addTo_49 : decode cX4_addTo 49 = .ok (.lload_n 3, 1) := by decide +kernel
theorem dX4_addTo_50 : decode cX4_addTo 50 = .ok (.ldc2_w 59, 3) := by decide +kernel
theorem dX4_addTo_53 : decode cX4_addTo 53 = .ok (.lmul, 1) := by decide +kernel
theorem dX4_addTo_54 : decode cX4_addTo 54 = .ok (.aload_n 0, 1) := by decide +kernel
theorem dX4_addTo_55 : decode cX4_addTo 55 = .ok (.getfield 32, 3) := by decide +kernel
theorem dX4_addTo_58 : decode cX4_addTo 58 = .ok (.iload 5, 2) := by decide +kernel
theorem dX4_addTo_60 : decode cX4_addTo 60 = .ok (.ishr, 1) := by decide +kernel
theorem dX4_addTo_61 : decode cX4_addTo 61 = .ok (.iconst 1, 1) := by decide +kernel
theorem dX4_addTo_62 : decode cX4_addTo 62 = .ok (.iand, 1) := by decide +kernel
theorem dX4_addTo_63 : decode cX4_addTo 63 = .ok (.i2l, 1) := by decide +kernel
theorem dX4_addTo_64 : decode cX4_addTo 64 = .ok (.ladd, 1) := by decide +kernel
theorem dX4_addTo_65 : decode cX4_addTo 65 = .ok (.lstore_n 3, 1) := by decide +kernel
theorem dX4_addTo_66 : decode cX4_addTo 66 = .ok (.iinc 5 1, 3) := by decide +kernel
theorem dX4_addTo_69 : decode cX4_addTo 69 = .ok (.goto (-29), 3) := by decide +kernel
theorem dX4_addTo_72 : decode cX4_addTo 72 = .ok (.iconst 0, 1) := by decide +kernel
theorem dX4_addTo_73 : decode cX4_addTo 73 = .ok (.istore 5, 2) := by decide +kernel
theorem dX4_addTo_75 : decode cX4_addTo 75 = .ok (.iload 5, 2) := by decide +kernel
theorem dX4_addTo_77 : decode cX4_addTo 77 = .ok (.aload_n 0, 1) := by decide +kernel
theorem dX4_addTo_78 : decode cX4_addTo 78 = .ok (.getfield 25, 3) := by decide +kernel
theorem dX4_addTo_81 : decode cX4_addTo 81 = .ok (.if_icmp .ge 43, 3) := by decide +kernel
theorem dX4_addTo_84 : decode cX4_addTo 84 = .ok (.iconst 0, 1) := by decide +kernel
theorem dX4_addTo_85 : decode cX4_addTo 85 = .ok (.istore 6, 2) := by decide +kernel
theorem dX4_addTo_87 : decode cX4_addTo 87 = .ok (.iload 6, 2) := by decide +kernel
theorem dX4_addTo_89 : decode cX4_addTo 89 = .ok (.aload_n 0, 1) := by decide +kernel
theorem dX4_addTo_90 : decode cX4_addTo 90 = .ok (.getfield 35, 3) := by decide +kernel
theorem dX4_addTo_93 : decode cX4_addTo 93 = .ok (.if_icmp .ge 25, 3) := by decide +kernel
theorem dX4_addTo_96 : decode cX4_addTo 96 = .ok (.lload_n 3, 1) := by decide +kernel
theorem dX4_addTo_97 : decode cX4_addTo 97 = .ok (.ldc2_w 59, 3) := by decide +kernel
theorem dX4_addTo_100 : decode cX4_addTo 100 = .ok (.lmul, 1) := by decide +kernel
theorem dX4_addTo_101 : decode cX4_addTo 101 = .ok (.aload_n 0, 1) := by decide +kernel
theorem dX4_addTo_102 : decode cX4_addTo 102 = .ok (.iload 5, 2) := by decide +kernel
theorem dX4_addTo_104 : decode cX4_addTo 104 = .ok (.iload 6, 2) := by decide +kernel
theorem dX4_addTo_106 : decode cX4_addTo 106 = .ok (.invokevirtual 42, 3) := by decide +kernel
theorem dX4_addTo_109 : decode cX4_addTo 109 = .ok (.i2l, 1) := by decide +kernel
theorem dX4_addTo_110 : decode cX4_addTo 110 = .ok (.ladd, 1) := by decide +kernel
theorem dX4_addTo_111 : decode cX4_addTo 111 = .ok (.lstore_n 3, 1) := by decide +kernel
theorem dX4_addTo_112 : decode cX4_addTo 112 = .ok (.iinc 6 1, 3) := by decide +kernel
theorem dX4_addTo_115 : decode cX4_addTo 115 = .ok (.goto (-28), 3) := by decide +kernel
theorem dX4_addTo_118 : decode cX4_addTo 118 = .ok (.iinc 5 1, 3) := by decide +kernel
theorem dX4_addTo_121 : decode cX4_addTo 121 = .ok (.goto (-46), 3) := by decide +kernel
theorem dX4_addTo_124 : decode cX4_addTo 124 = .ok (.lload_n 3, 1) := by decide +kernel
theorem dX4_addTo_125 : decode cX4_addTo 125 = .ok (.lreturn, 1) := by decide +kernel
theorem dX5_init_0 : decode cX5_init 0 = .ok (.aload_n 0, 1) := by decide +kernel
theorem dX5_init_1 : decode cX5_init 1 = .ok (.invokespecial 3, 3) := by decide +kernel
theorem dX5_init_4 : decode cX5_init 4 = .ok (.aload_n 0, 1) := by decide +kernel
theorem dX5_init_5 : decode cX5_init 5 = .ok (.new 9, 3) := by decide +kernel
theorem dX5_init_8 : decode cX5_init 8 = .ok (.dup, 1) := by decide +kernel
theorem dX5_init_9 : decode cX5_init 9 = .ok (.invokespecial 11, 3) := by decide +kernel
theorem dX5_init_12 : decode cX5_init 12 = .ok (.putfield 12, 3) := by decide +kernel
theorem dX5_init_15 : decode cX5_init 15 = .ok (.aload_n 0, 1) := by decide +kernel
theorem dX5_init_16 : decode cX5_init 16 = .ok (.new 16, 3) := by decide +kernel
theorem dX5_init_19 : decode cX5_init 19 = .ok (.dup, 1) := by decide +kernel
theorem dX5_init_20 : decode cX5_init 20 = .ok (.invokespecial 18, 3) := by decide +kernel
theorem dX5_init_23 : decode cX5_init 23 = .ok (.putfield 19, 3) := by decide +kernel
theorem dX5_init_26 : decode cX5_init 26 = .ok (.aload_n 0, 1) := by decide +kernel
theorem dX5_init_27 : decode cX5_init 27 = .ok (.new 23, 3) := by decide +kernel
theorem dX5_init_30 : decode cX5_init 30 = .ok (.dup, 1) := by decide +kernel
theorem dX5_init_31 : decode cX5_init 31 = .ok (.invokespecial 25, 3) := by decide +kernel
theorem dX5_init_34 : decode cX5_init 34 = .ok (.putfield 26, 3) := by decide +kernel
theorem dX5_init_37 : decode cX5_init 37 = .ok (.aload_n 0, 1) := by decide +kernel
theorem dX5_init_38 : decode cX5_init 38 = .ok (.new 30, 3) := by decide +kernel
theorem dX5_init_41 : decode cX5_init 41 = .ok (.dup, 1) := by decide +kernel
theorem dX5_init_42 : decode cX5_init 42 = .ok (.invokespecial 32, 3) := by decide +kernel
theorem dX5_init_45 : decode cX5_init 45 = .ok (.putfield 33, 3) := by decide +kernel
theorem dX5_init_48 : decode cX5_init 48 = .ok (.return_, 1) := by decide +kernel
theorem dX5_addRow_0 : decode cX5_addRow 0 = .ok (.aload_n 0, 1) := by decide +kernel
theorem dX5_addRow_1 : decode cX5_addRow 1 = .ok (.getfield 12, 3) := by decide +kernel
theorem dX5_addRow_4 : decode cX5_addRow 4 = .ok (.getfield 37, 3) := by decide +kernel
theorem dX5_addRow_7 : decode cX5_addRow 7 = .ok (.bipush 10, 2) := by decide +kernel
theorem dX5_addRow_9 : decode cX5_addRow 9 = .ok (.if_icmp .lt 13, 3) := by decide +kernel
theorem dX5_addRow_12 : decode cX5_addRow 12 = .ok (.new 41, 3) := by decide +kernel
theorem dX5_addRow_15 : decode cX5_addRow 15 = .ok (.dup, 1) := by decide +kernel
theorem dX5_addRow_16 : decode cX5_addRow 16 = .ok (.ldc 43, 2) := by decide +kernel
theorem dX5_addRow_18 : decode cX5_addRow 18 = .ok (.invokespecial 45, 3) := by decide +kernel
theorem dX5_addRow_21 : decode cX5_addRow 21 = .ok (.athrow, 1) := by decide +kernel
theorem dX5_addRow_22 : decode cX5_addRow 22 = .ok (.aload_n 0, 1) := by decide +kernel
theorem dX5_addRow_23 : decode cX5_addRow 23 = .ok (.iconst 0, 1) := by decide +kernel
theorem dX5_addRow_24 : decode cX5_addRow 24 = .ok (.putfield 48, 3) := by decide +kernel
theorem dX5_addRow_27 : decode cX5_addRow 27 = .ok (.aload_n 0, 1) := by decide +kernel
theorem dX5_addRow_28 : decode cX5_addRow 28 = .ok (.getfield 12, 3) := by decide +kernel
theorem dX5_addRow_31 : decode cX5_addRow 31 = .ok (.invokevirtual 52, 3) := by decide +kernel
theorem dX5_addRow_34 : decode cX5_addRow 34 = .ok (.ireturn, 1) := by decide +kernel
theorem dX5_addColumn_0 : decode cX5_addColumn 0 = .ok (.aload_n 0, 1) := by decide +kernel
theorem dX5_addColumn_1 : decode cX5_addColumn 1 = .ok (.getfield 12, 3) := by decide +kernel
theorem dX5_addColumn_4 : decode cX5_addColumn 4 = .ok (.getfield 56, 3) := by decide +kernel
theorem dX5_addColumn_7 : decode cX5_addColumn 7 = .ok (.bipush 10, 2) := by decide +kernel
theorem dX5_addColumn_9 : decode cX5_addColumn 9 = .ok (.if_icmp .lt 13, 3) := by decide +kernel
theorem dX5_addColumn_12 : decode cX5_addColumn 12 = .ok (.new 41, 3) := by decide +kernel
theorem dX5_addColumn_15 : decode cX5_addColumn 15 = .ok (.dup, 1) := by decide +kernel
theorem dX5_addColumn_16 : decode cX5_addColumn 16 = .ok (.ldc 59, 2) := by decide +kernel
theorem dX5_addColumn_18 : decode cX5_addColumn 18 = .ok (.invokespecial 45, 3) := by decide +kernel
theorem dX5_addColumn_21 : decode cX5_addColumn 21 = .ok (.athrow, 1) := by decide +kernel
theorem dX5_addColumn_22 : decode cX5_addColumn 22 = .ok (.aload_n 0, 1) := by decide +kernel
theorem dX5_addColumn_23 : decode cX5_addColumn 23 = .ok (.iconst 0, 1) := by decide +kernel
theorem dX5_addColumn_24 : decode cX5_addColumn 24 = .ok (.putfield 48, 3) := by decide +kernel
theorem dX5_addColumn_27 : decode cX5_addColumn 27 = .ok (.aload_n 0, 1) := by decide +kernel
theorem dX5_addColumn_28 : decode cX5_addColumn 28 = .ok (.getfield 12, 3) := by decide +kernel
theorem dX5_addColumn_31 : decode cX5_addColumn 31 = .ok (.invokevirtual 61, 3) := by decide +kernel
theorem dX5_addColumn_34 : decode cX5_addColumn 34 = .ok (.ireturn, 1) := by decide +kernel
theorem dX5_setRow_0 : decode cX5_setRow 0 = .ok (.aload_n 0, 1) := by decide +kernel
theorem dX5_setRow_1 : decode cX5_setRow 1 = .ok (.iload_n 1, 1) := by decide +kernel
theorem dX5_setRow_2 : decode cX5_setRow 2 = .ok (.invokevirtual 64, 3) := by decide +kernel
theorem dX5_setRow_5 : decode cX5_setRow 5 = .ok (.aload_n 0, 1) := by decide +kernel
theorem dX5_setRow_6 : decode cX5_setRow 6 = .ok (.getfield 12, 3) := by decide +kernel
theorem dX5_setRow_9 : decode cX5_setRow 9 = .ok (.getfield 68, 3) := by decide +kernel
theorem dX5_setRow_12 : decode cX5_setRow 12 = .ok (.iload_n 1, 1) := by decide +kernel
theorem dX5_setRow_13 : decode cX5_setRow 13 = .ok (.invokestatic 71, 3) := by decide +kernel
theorem dX5_setRow_16 : decode cX5_setRow 16 = .ok (.istore_n 3, 1) := by decide +kernel
theorem dX5_setRow_17 : decode cX5_setRow 17 = .ok (.aload_n 0, 1) := by decide +kernel
theorem dX5_setRow_18 : decode cX5_setRow 18 = .ok (.getfield 12, 3) := by decide +kernel
theorem dX5_setRow_21 : decode cX5_setRow 21 = .ok (.aload_n 0, 1) := by decide +kernel
theorem dX5_setRow_22 : decode cX5_setRow 22 = .ok (.getfield 12, 3) := by decide +kernel
theorem dX5_setRow_25 : decode cX5_setRow 25 = .ok (.getfield 68, 3) := by decide +kernel
theorem dX5_setRow_28 : decode cX5_setRow 28 = .ok (.iload_n 1, 1) := by decide +kernel
theorem dX5_setRow_29 : decode cX5_setRow 29 = .ok (.iload_n 2, 1) := by decide +kernel
theorem dX5_setRow_30 : decode cX5_setRow 30 = .ok (.invokestatic 75, 3) := by decide +kernel
theorem dX5_setRow_33 : decode cX5_setRow 33 = .ok (.putfield 68, 3) := by decide +kernel
theorem dX5_setRow_36 : decode cX5_setRow 36 = .ok (.aload_n 0, 1) := by decide +kernel
theorem dX5_setRow_37 : decode cX5_setRow 37 = .ok (.iconst 0, 1) := by decide +kernel
theorem dX5_setRow_38 : decode cX5_setRow 38 = .ok (.putfield 48, 3) := by decide +kernel
theorem dX5_setRow_41 : decode cX5_setRow 41 = .ok (.iload_n 3, 1) := by decide +kernel
theorem dX5_setRow_42 : decode cX5_setRow 42 = .ok (.ireturn, 1) := by decide +kernel
theorem dX5_setColumn_0 : decode cX5_setColumn 0 = .ok (.aload_n 0, 1) := by decide +kernel
theorem dX5_setColumn_1 : decode cX5_setColumn 1 = .ok (.iload_n 1, 1) := by decide +kernel
theorem dX5_setColumn_2 : decode cX5_setColumn 2 = .ok (.invokevirtual 79, 3) := by decide +kernel
theorem dX5_setColumn_5 : decode cX5_setColumn 5 = .ok (.aload_n 0, 1) := by decide +kernel
theorem dX5_setColumn_6 : decode cX5_setColumn 6 = .ok (.getfield 12, 3) := by decide +kernel
theorem dX5_setColumn_9 : decode cX5_setColumn 9 = .ok (.getfield 82, 3) := by decide +kernel
theorem dX5_setColumn_12 : decode cX5_setColumn 12 = .ok (.iload_n 1, 1) := by decide +kernel
theorem dX5_setColumn_13 : decode cX5_setColumn 13 = .ok (.invokestatic 71, 3) := by decide +kernel
theorem dX5_setColumn_16 : decode cX5_setColumn 16 = .ok (.istore_n 3, 1) := by decide +kernel
theorem dX5_setColumn_17 : decode cX5_setColumn 17 = .ok (.aload_n 0, 1) := by decide +kernel
theorem dX5_setColumn_18 : decode cX5_setColumn 18 = .ok (.getfield 12, 3) := by decide +kernel
theorem dX5_setColumn_21 : decode cX5_setColumn 21 = .ok (.aload_n 0, 1) := by decide +kernel
theorem dX5_setColumn_22 : decode cX5_setColumn 22 = .ok (.getfield 12, 3) := by decide +kernel
theorem dX5_setColumn_25 : decode cX5_setColumn 25 = .ok (.getfield 82, 3) := by decide +kernel
theorem dX5_setColumn_28 : decode cX5_setColumn 28 = .ok (.iload_n 1, 1) := by decide +kernel
theorem dX5_setColumn_29 : decode cX5_setColumn 29 = .ok (.iload_n 2, 1) := by decide +kernel
theorem dX5_setColumn_30 : decode cX5_setColumn 30 = .ok (.invokestatic 75, 3) := by decide +kernel
theorem dX5_setColumn_33 : decode cX5_setColumn 33 = .ok (.putfield 82, 3) := by decide +kernel
theorem dX5_setColumn_36 : decode cX5_setColumn 36 = .ok (.aload_n 0, 1) := by decide +kernel
theorem dX5_setColumn_37 : decode cX5_setColumn 37 = .ok (.iconst 0, 1) := by decide +kernel
theorem dX5_setColumn_38 : decode cX5_setColumn 38 = .ok (.putfield 48, 3) := by decide +kernel
theorem dX5_setColumn_41 : decode cX5_setColumn 41 = .ok (.iload_n 3, 1) := by decide +kernel
theorem dX5_setColumn_42 : decode cX5_setColumn 42 = .ok (.ireturn, 1) := by decide +kernel
theorem dX5_setCost_0 : decode cX5_setCost 0 = .ok (.aload_n 0, 1) := by decide +kernel
theorem dX5_setCost_1 : decode cX5_setCost 1 = .ok (.iload_n 1, 1) := by decide +kernel
theorem dX5_setCost_2 : decode cX5_setCost 2 = .ok (.iload_n 2, 1) := by decide +kernel
theorem dX5_setCost_3 : decode cX5_setCost 3 = .ok (.invokevirtual 85, 3) := by decide +kernel
theorem dX5_setCost_6 : decode cX5_setCost 6 = .ok (.iload_n 3, 1) := by decide +kernel
theorem dX5_setCost_7 : decode cX5_setCost 7 = .ok (.i2l, 1) := by decide +kernel
theorem dX5_setCost_8 : decode cX5_setCost 8 = .ok (.invokestatic 89, 3) := by decide +kernel
theorem dX5_setCost_11 : decode cX5_setCost 11 = .ok (.ifCond .ne 13, 3) := by decide +kernel
theorem dX5_setCost_14 : decode cX5_setCost 14 = .ok (.new 93, 3) := by decide +kernel
theorem dX5_setCost_17 : decode cX5_setCost 17 = .ok (.dup, 1) := by decide +kernel
theorem dX5_setCost_18 : decode cX5_setCost 18 = .ok (.ldc 95, 2) := by decide +kernel
theorem dX5_setCost_20 : decode cX5_setCost 20 = .ok (.invokespecial 97, 3) := by decide +kernel
theorem dX5_setCost_23 : decode cX5_setCost 23 = .ok (.athrow, 1) := by decide +kernel
theorem dX5_setCost_24 : decode cX5_setCost 24 = .ok (.aload_n 0, 1) := by decide +kernel
theorem dX5_setCost_25 : decode cX5_setCost 25 = .ok (.iload_n 1, 1) := by decide +kernel
theorem dX5_setCost_26 : decode cX5_setCost 26 = .ok (.iload_n 2, 1) := by decide +kernel
theorem dX5_setCost_27 : decode cX5_setCost 27 = .ok (.iload_n 3, 1) := by decide +kernel
theorem dX5_setCost_28 : decode cX5_setCost 28 = .ok (.invokevirtual 98, 3) := by decide +kernel
theorem dX5_setCost_31 : decode cX5_setCost 31 = .ok (.ireturn, 1) := by decide +kernel
theorem dX5_forbid_0 : decode cX5_forbid 0 = .ok (.aload_n 0, 1) := by decide +kernel
theorem dX5_forbid_1 : decode cX5_forbid 1 = .ok (.iload_n 1, 1) := by decide +kernel
theorem dX5_forbid_2 : decode cX5_forbid 2 = .ok (.iload_n 2, 1) := by decide +kernel
theorem dX5_forbid_3 : decode cX5_forbid 3 = .ok (.invokevirtual 85, 3) := by decide +kernel
theorem dX5_forbid_6 : decode cX5_forbid 6 = .ok (.aload_n 0, 1) := by decide +kernel
theorem dX5_forbid_7 : decode cX5_forbid 7 = .ok (.iload_n 1, 1) := by decide +kernel
theorem dX5_forbid_8 : decode cX5_forbid 8 = .ok (.iload_n 2, 1) := by decide +kernel
theorem dX5_forbid_9 : decode cX5_forbid 9 = .ok (.sipush 20000, 3) := by decide +kernel
theorem dX5_forbid_12 : decode cX5_forbid 12 = .ok (.invokevirtual 98, 3) := by decide +kernel
theorem dX5_forbid_15 : decode cX5_forbid 15 = .ok (.ireturn, 1) := by decide +kernel
theorem dX5_addToRow_0 : decode cX5_addToRow 0 = .ok (.aload_n 0, 1) := by decide +kernel
theorem dX5_addToRow_1 : decode cX5_addToRow 1 = .ok (.iload_n 1, 1) := by decide +kernel
theorem dX5_addToRow_2 : decode cX5_addToRow 2 = .ok (.invokevirtual 64, 3) := by decide +kernel
theorem dX5_addToRow_5 : decode cX5_addToRow 5 = .ok (.aload_n 0, 1) := by decide +kernel
theorem dX5_addToRow_6 : decode cX5_addToRow 6 = .ok (.getfield 12, 3) := by decide +kernel
theorem dX5_addToRow_9 : decode cX5_addToRow 9 = .ok (.iload_n 1, 1) := by decide +kernel
theorem dX5_addToRow_10 : decode cX5_addToRow 10 = .ok (.iload_n 2, 1) := by decide +kernel
theorem dX5_addToRow_11 : decode cX5_addToRow 11 = .ok (.invokevirtual 102, 3) := by decide +kernel
theorem dX5_addToRow_14 : decode cX5_addToRow 14 = .ok (.ifCond .ne 13, 3) := by decide +kernel
theorem dX5_addToRow_17 : decode cX5_addToRow 17 = .ok (.new 105, 3) := by decide +kernel
theorem dX5_addToRow_20 : decode cX5_addToRow 20 = .ok (.dup, 1) := by decide +kernel
theorem dX5_addToRow_21 : decode cX5_addToRow 21 = .ok (.ldc 107, 2) := by decide +kernel
theorem dX5_addToRow_23 : decode cX5_addToRow 23 = .ok (.invokespecial 109, 3) := by decide +kernel
theorem dX5_addToRow_26 : decode cX5_addToRow 26 = .ok (.athrow, 1) := by decide +kernel
theorem dX5_addToRow_27 : decode cX5_addToRow 27 = .ok (.aload_n 0, 1) := by decide +kernel
theorem dX5_addToRow_28 : decode cX5_addToRow 28 = .ok (.iconst 0, 1) := by decide +kernel
theorem dX5_addToRow_29 : decode cX5_addToRow 29 = .ok (.putfield 48, 3) := by decide +kernel
theorem dX5_addToRow_32 : decode cX5_addToRow 32 = .ok (.aload_n 0, 1) := by decide +kernel
theorem dX5_addToRow_33 : decode cX5_addToRow 33 = .ok (.getfield 12, 3) := by decide +kernel
theorem dX5_addToRow_36 : decode cX5_addToRow 36 = .ok (.iload_n 1, 1) := by decide +kernel
theorem dX5_addToRow_37 : decode cX5_addToRow 37 = .ok (.iload_n 2, 1) := by decide +kernel
theorem dX5_addToRow_38 : decode cX5_addToRow 38 = .ok (.invokevirtual 110, 3) := by decide +kernel
theorem dX5_addToRow_41 : decode cX5_addToRow 41 = .ok (.ireturn, 1) := by decide +kernel
theorem dX5_scaleColumn_0 : decode cX5_scaleColumn 0 = .ok (.aload_n 0, 1) := by decide +kernel
theorem dX5_scaleColumn_1 : decode cX5_scaleColumn 1 = .ok (.iload_n 1, 1) := by decide +kernel
theorem dX5_scaleColumn_2 : decode cX5_scaleColumn 2 = .ok (.invokevirtual 79, 3) := by decide +kernel
theorem dX5_scaleColumn_5 : decode cX5_scaleColumn 5 = .ok (.dload_n 2, 1) := by decide +kernel
theorem dX5_scaleColumn_6 : decode cX5_scaleColumn 6 = .ok (.ldc2_w 114, 3) := by decide +kernel
theorem dX5_scaleColumn_9 : decode cX5_scaleColumn 9 = .ok (.dcmp .l, 1) := by decide +kernel
theorem dX5_scaleColumn_10 : decode cX5_scaleColumn 10 = .ok (.ifCond .lt 11, 3) := by decide +kernel
theorem dX5_scaleColumn_13 : decode cX5_scaleColumn 13 = .ok (.dload_n 2, 1) := by decide +kernel
theorem dX5_scaleColumn_14 : decode cX5_scaleColumn 14 = .ok (.ldc2_w 116, 3) := by decide +kernel
theorem dX5_scaleColumn_17 : decode cX5_scaleColumn 17 = .ok (.dcmp .g, 1) := by decide +kernel
theorem dX5_scaleColumn_18 : decode cX5_scaleColumn 18 = .ok (.ifCond .le 13, 3) := by decide +kernel
theorem dX5_scaleColumn_21 : decode cX5_scaleColumn 21 = .ok (.new 93, 3) := by decide +kernel
theorem dX5_scaleColumn_24 : decode cX5_scaleColumn 24 = .ok (.dup, 1) := by decide +kernel
theorem dX5_scaleColumn_25 : decode cX5_scaleColumn 25 = .ok (.ldc 118, 2) := by decide +kernel
theorem dX5_scaleColumn_27 : decode cX5_scaleColumn 27 = .ok (.invokespecial 97, 3) := by decide +kernel
theorem dX5_scaleColumn_30 : decode cX5_scaleColumn 30 = .ok (.athrow, 1) := by decide +kernel
theorem dX5_scaleColumn_31 : decode cX5_scaleColumn 31 = .ok (.aload_n 0, 1) := by decide +kernel
theorem dX5_scaleColumn_32 : decode cX5_scaleColumn 32 = .ok (.getfield 12, 3) := by decide +kernel
theorem dX5_scaleColumn_35 : decode cX5_scaleColumn 35 = .ok (.iload_n 1, 1) := by decide +kernel
theorem dX5_scaleColumn_36 : decode cX5_scaleColumn 36 = .ok (.dload_n 2, 1) := by decide +kernel
theorem dX5_scaleColumn_37 : decode cX5_scaleColumn 37 = .ok (.invokevirtual 120, 3) := by decide +kernel
theorem dX5_scaleColumn_40 : decode cX5_scaleColumn 40 = .ok (.ifCond .ne 13, 3) := by decide +kernel
theorem dX5_scaleColumn_43 : decode cX5_scaleColumn 43 = .ok (.new 105, 3) := by decide +kernel
theorem dX5_scaleColumn_46 : decode cX5_scaleColumn 46 = .ok (.dup, 1) := by decide +kernel
theorem dX5_scaleColumn_47 : decode cX5_scaleColumn 47 = .ok (.ldc 107, 2) := by decide +kernel
theorem dX5_scaleColumn_49 : decode cX5_scaleColumn 49 = .ok (.invokespecial 109, 3) := by decide +kernel
theorem dX5_scaleColumn_52 : decode cX5_scaleColumn 52 = .ok (.athrow, 1) := by decide +kernel
theorem dX5_scaleColumn_53 : decode cX5_scaleColumn 53 = .ok (.aload_n 0, 1) := by decide +kernel
theorem dX5_scaleColumn_54 : decode cX5_scaleColumn 54 = .ok (.iconst 0, 1) := by decide +kernel
theorem dX5_scaleColumn_55 : decode cX5_scaleColumn 55 = .ok (.putfield 48, 3) := by decide +kernel
theorem dX5_scaleColumn_58 : decode cX5_scaleColumn 58 = .ok (.aload_n 0, 1) := by decide +kernel
theorem dX5_scaleColumn_59 : decode cX5_scaleColumn 59 = .ok (.getfield 12, 3) := by decide +kernel
theorem dX5_scaleColumn_62 : decode cX5_scaleColumn 62 = .ok (.iload_n 1, 1) := by decide +kernel
theorem dX5_scaleColumn_63 : decode cX5_scaleColumn 63 = .ok (.dload_n 2, 1) := by decide +kernel
theorem dX5_scaleColumn_64 : decode cX5_scaleColumn 64 = .ok (.invokevirtual 124, 3) := by decide +kernel
theorem dX5_scaleColumn_67 : decode cX5_scaleColumn 67 = .ok (.ireturn, 1) := by decide +kernel
theorem dX5_rowCount_0 : decode cX5_rowCount 0 = .ok (.aload_n 0, 1) := by decide +kernel
theorem dX5_rowCount_1 : decode cX5_rowCount 1 = .ok (.getfield 12, 3) := by decide +kernel
theorem dX5_rowCount_4 : decode cX5_rowCount 4 = .ok (.getfield 37, 3) := by decide +kernel
theorem dX5_rowCount_7 : decode cX5_rowCount 7 = .ok (.ireturn, 1) := by decide +kernel
theorem dX5_columnCount_0 : decode cX5_columnCount 0 = .ok (.aload_n 0, 1) := by decide +kernel
theorem dX5_columnCount_1 : decode cX5_columnCount 1 = .ok (.getfield 12, 3) := by decide +kernel
theorem dX5_columnCount_4 : decode cX5_columnCount 4 = .ok (.getfield 56, 3) := by decide +kernel
theorem dX5_columnCount_7 : decode cX5_columnCount 7 = .ok (.ireturn, 1) := by decide +kernel
theorem dX5_isAllowed_0 : decode cX5_isAllowed 0 = .ok (.aload_n 0, 1) := by decide +kernel
theorem dX5_isAllowed_1 : decode cX5_isAllowed 1 = .ok (.iload_n 1, 1) := by decide +kernel
theorem dX5_isAllowed_2 : decode cX5_isAllowed 2 = .ok (.iload_n 2, 1) := by decide +kernel
theorem dX5_isAllowed_3 : decode cX5_isAllowed 3 = .ok (.invokevirtual 85, 3) := by decide +kernel
theorem dX5_isAllowed_6 : decode cX5_isAllowed 6 = .ok (.aload_n 0, 1) := by decide +kernel
theorem dX5_isAllowed_7 : decode cX5_isAllowed 7 = .ok (.getfield 12, 3) := by decide +kernel
theorem dX5_isAllowed_10 : decode cX5_isAllowed 10 = .ok (.iload_n 1, 1) := by decide +kernel
theorem dX5_isAllowed_11 : decode cX5_isAllowed 11 = .ok (.iload_n 2, 1) := by decide +kernel
theorem dX5_isAllowed_12 : decode cX5_isAllowed 12 = .ok (.invokevirtual 128, 3) := by decide +kernel
theorem dX5_isAllowed_15 : decode cX5_isAllowed 15 = .ok (.sipush 20000, 3) := by decide +kernel
theorem dX5_isAllowed_18 : decode cX5_isAllowed 18 = .ok (.if_icmp .eq 7, 3) := by decide +kernel
theorem dX5_isAllowed_21 : decode cX5_isAllowed 21 = .ok (.iconst 1, 1) := by decide +kernel
theorem dX5_isAllowed_22 : decode cX5_isAllowed 22 = .ok (.goto 4, 3) := by decide +kernel
theorem dX5_isAllowed_25 : decode cX5_isAllowed 25 = .ok (.iconst 0, 1) := by decide +kernel
theorem dX5_isAllowed_26 : decode cX5_isAllowed 26 = .ok (.ireturn, 1) := by decide +kernel
theorem dX5_cost_0 : decode cX5_cost 0 = .ok (.aload_n 0, 1) := by decide +kernel
theorem dX5_cost_1 : decode cX5_cost 1 = .ok (.iload_n 1, 1) := by decide +kernel
theorem dX5_cost_2 : decode cX5_cost 2 = .ok (.iload_n 2, 1) := by decide +kernel
theorem dX5_cost_3 : decode cX5_cost 3 = .ok (.invokevirtual 85, 3) := by decide +kernel
theorem dX5_cost_6 : decode cX5_cost 6 = .ok (.aload_n 0, 1) := by decide +kernel
theorem dX5_cost_7 : decode cX5_cost 7 = .ok (.getfield 12, 3) := by decide +kernel
theorem dX5_cost_10 : decode cX5_cost 10 = .ok (.iload_n 1, 1) := by decide +kernel
theorem dX5_cost_11 : decode cX5_cost 11 = .ok (.iload_n 2, 1) := by decide +kernel
theorem dX5_cost_12 : decode cX5_cost 12 = .ok (.invokevirtual 128, 3) := by decide +kernel
theorem dX5_cost_15 : decode cX5_cost 15 = .ok (.istore_n 3, 1) := by decide +kernel
theorem dX5_cost_16 : decode cX5_cost 16 = .ok (.iload_n 3, 1) := by decide +kernel
theorem dX5_cost_17 : decode cX5_cost 17 = .ok (.sipush 20000, 3) := by decide +kernel
theorem dX5_cost_20 : decode cX5_cost 20 = .ok (.if_icmp .ne 13, 3) := by decide +kernel
theorem dX5_cost_23 : decode cX5_cost 23 = .ok (.new 131, 3) := by decide +kernel
theorem dX5_cost_26 : decode cX5_cost 26 = .ok (.dup, 1) := by decide +kernel
theorem dX5_cost_27 : decode cX5_cost 27 = .ok (.ldc 133, 2) := by decide +kernel
theorem dX5_cost_29 : decode cX5_cost 29 = .ok (.invokespecial 135, 3) := by decide +kernel
theorem dX5_cost_32 : decode cX5_cost 32 = .ok (.athrow, 1) := by decide +kernel
theorem dX5_cost_33 : decode cX5_cost 33 = .ok (.iload_n 3, 1) := by decide +kernel
theorem dX5_cost_34 : decode cX5_cost 34 = .ok (.ireturn, 1) := by decide +kernel
theorem dX5_size_0 : decode cX5_size 0 = .ok (.aload_n 0, 1) := by decide +kernel
theorem dX5_size_1 : decode cX5_size 1 = .ok (.invokevirtual 136, 3) := by decide +kernel
theorem dX5_size_4 : decode cX5_size 4 = .ok (.getfield 140, 3) := by decide +kernel
theorem dX5_size_7 : decode cX5_size 7 = .ok (.invokestatic 143, 3) := by decide +kernel
theorem dX5_size_10 : decode cX5_size 10 = .ok (.ireturn, 1) := by decide +kernel
theorem dX5_total_0 : decode cX5_total 0 = .ok (.aload_n 0, 1) := by decide +kernel
theorem dX5_total_1 : decode cX5_total 1 = .ok (.invokevirtual 136, 3) := by decide +kernel
theorem dX5_total_4 : decode cX5_total 4 = .ok (.getfield 140, 3) := by decide +kernel
theorem dX5_total_7 : decode cX5_total 7 = .ok (.invokestatic 147, 3) := by decide +kernel
theorem dX5_total_10 : decode cX5_total 10 = .ok (.ireturn, 1) := by decide +kernel
theorem dX5_meanCost_0 : decode cX5_meanCost 0 = .ok (.aload_n 0, 1) := by decide +kernel
theorem dX5_meanCost_1 : decode cX5_meanCost 1 = .ok (.invokevirtual 136, 3) := by decide +kernel
theorem dX5_meanCost_4 : decode cX5_meanCost 4 = .ok (.getfield 140, 3) := by decide +kernel
theorem dX5_meanCost_7 : decode cX5_meanCost 7 = .ok (.istore_n 1, 1) := by decide +kernel
theorem dX5_meanCost_8 : decode cX5_meanCost 8 = .ok (.iload_n 1, 1) := by decide +kernel
theorem dX5_meanCost_9 : decode cX5_meanCost 9 = .ok (.invokestatic 143, 3) := by decide +kernel
theorem dX5_meanCost_12 : decode cX5_meanCost 12 = .ok (.istore_n 2, 1) := by decide +kernel
theorem dX5_meanCost_13 : decode cX5_meanCost 13 = .ok (.iload_n 2, 1) := by decide +kernel
theorem dX5_meanCost_14 : decode cX5_meanCost 14 = .ok (.ifCond .ne 5, 3) := by decide +kernel
theorem dX5_meanCost_17 : decode cX5_meanCost 17 = .ok (.dconst 0, 1) := by decide +kernel
theorem dX5_meanCost_18 : decode cX5_meanCost 18 = .ok (.dreturn, 1) := by decide +kernel
theorem dX5_meanCost_19 : decode cX5_meanCost 19 = .ok (.iload_n 1, 1) := by decide +kernel
theorem dX5_meanCost_20 : decode cX5_meanCost 20 = .ok (.invokestatic 147, 3) := by decide +kernel
theorem dX5_meanCost_23 : decode cX5_meanCost 23 = .ok (.i2d, 1) := by decide +kernel
theorem dX5_meanCost_24 : decode cX5_meanCost 24 = .ok (.iload_n 2, 1) := by decide +kernel
theorem dX5_meanCost_25 : decode cX5_meanCost 25 = .ok (.i2d, 1) := by decide +kernel
theorem dX5_meanCost_26 : decode cX5_meanCost 26 = .ok (.ddiv, 1) := by decide +kernel
theorem dX5_meanCost_27 : decode cX5_meanCost 27 = .ok (.dreturn, 1) := by decide +kernel
theorem dX5_columnOf_0 : decode cX5_columnOf 0 = .ok (.aload_n 0, 1) := by decide +kernel
theorem dX5_columnOf_1 : decode cX5_columnOf 1 = .ok (.iload_n 1, 1) := by decide +kernel
theorem dX5_columnOf_2 : decode cX5_columnOf 2 = .ok (.invokevirtual 64, 3) := by decide +kernel
theorem dX5_columnOf_5 : decode cX5_columnOf 5 = .ok (.aload_n 0, 1) := by decide +kernel
theorem dX5_columnOf_6 : decode cX5_columnOf 6 = .ok (.invokevirtual 136, 3) := by decide +kernel
theorem dX5_columnOf_9 : decode cX5_columnOf 9 = .ok (.getfield 150, 3) := by decide +kernel
theorem dX5_columnOf_12 : decode cX5_columnOf 12 = .ok (.iload_n 1, 1) := by decide +kernel
theorem dX5_columnOf_13 : decode cX5_columnOf 13 = .ok (.iaload, 1) := by decide +kernel
theorem dX5_columnOf_14 : decode cX5_columnOf 14 = .ok (.ireturn, 1) := by decide +kernel
theorem dX5_rowOf_0 : decode cX5_rowOf 0 = .ok (.aload_n 0, 1) := by decide +kernel
theorem dX5_rowOf_1 : decode cX5_rowOf 1 = .ok (.iload_n 1, 1) := by decide +kernel
theorem dX5_rowOf_2 : decode cX5_rowOf 2 = .ok (.invokevirtual 79, 3) := by decide +kernel
theorem dX5_rowOf_5 : decode cX5_rowOf 5 = .ok (.aload_n 0, 1) := by decide +kernel
theorem dX5_rowOf_6 : decode cX5_rowOf 6 = .ok (.invokevirtual 136, 3) := by decide +kernel
theorem dX5_rowOf_9 : decode cX5_rowOf 9 = .ok (.getfield 150, 3) := by decide +kernel
theorem dX5_rowOf_12 : decode cX5_rowOf 12 = .ok (.astore_n 2, 1) := by decide +kernel
theorem dX5_rowOf_13 : decode cX5_rowOf 13 = .ok (.iconst 0, 1) := by decide +kernel
theorem dX5_rowOf_14 : decode cX5_rowOf 14 = .ok (.istore_n 3, 1) := by decide +kernel
theorem dX5_rowOf_15 : decode cX5_rowOf 15 = .ok (.iload_n 3, 1) := by decide +kernel
theorem dX5_rowOf_16 : decode cX5_rowOf 16 = .ok (.bipush 10, 2) := by decide +kernel
theorem dX5_rowOf_18 : decode cX5_rowOf 18 = .ok (.if_icmp .ge 18, 3) := by decide +kernel
theorem dX5_rowOf_21 : decode cX5_rowOf 21 = .ok (.aload_n 2, 1) := by decide +kernel
theorem dX5_rowOf_22 : decode cX5_rowOf 22 = .ok (.iload_n 3, 1) := by decide +kernel
theorem dX5_rowOf_23 : decode cX5_rowOf 23 = .ok (.iaload, 1) := by decide +kernel
theorem dX5_rowOf_24 : decode cX5_rowOf 24 = .ok (.iload_n 1, 1) := by decide +kernel
theorem dX5_rowOf_25 : decode cX5_rowOf 25 = .ok (.if_icmp .ne 5, 3) := by decide +kernel
theorem dX5_rowOf_28 : decode cX5_rowOf 28 = .ok (.iload_n 3, 1) := by decide +kernel
theorem dX5_rowOf_29 : decode cX5_rowOf 29 = .ok (.ireturn, 1) := by decide +kernel
theorem dX5_rowOf_30 : decode cX5_rowOf 30 = .ok (.iinc 3 1, 3) := by decide +kernel
theorem dX5_rowOf_33 : decode cX5_rowOf 33 = .ok (.goto (-18), 3) := by decide +kernel
theorem dX5_rowOf_36 : decode cX5_rowOf 36 = .ok (.iconst (-1), 1) := by decide +kernel
theorem dX5_rowOf_37 : decode cX5_rowOf 37 = .ok (.ireturn, 1) := by decide +kernel
theorem dX5_optimalCount_0 : decode cX5_optimalCount 0 = .ok (.aload_n 0, 1) := by decide +kernel
theorem dX5_optimalCount_1 : decode cX5_optimalCount 1 = .ok (.invokevirtual 136, 3) := by decide +kernel
theorem dX5_optimalCount_4 : decode cX5_optimalCount 4 = .ok (.invokevirtual 154, 3) := by decide +kernel
theorem dX5_optimalCount_7 : decode cX5_optimalCount 7 = .ok (.ireturn, 1) := by decide +kernel
theorem dX5_isPossible_0 : decode cX5_isPossible 0 = .ok (.aload_n 0, 1) := by decide +kernel
theorem dX5_isPossible_1 : decode cX5_isPossible 1 = .ok (.iload_n 1, 1) := by decide +kernel
theorem dX5_isPossible_2 : decode cX5_isPossible 2 = .ok (.iload_n 2, 1) := by decide +kernel
theorem dX5_isPossible_3 : decode cX5_isPossible 3 = .ok (.invokevirtual 85, 3) := by decide +kernel
theorem dX5_isPossible_6 : decode cX5_isPossible 6 = .ok (.aload_n 0, 1) := by decide +kernel
theorem dX5_isPossible_7 : decode cX5_isPossible 7 = .ok (.getfield 12, 3) := by decide +kernel
theorem dX5_isPossible_10 : decode cX5_isPossible 10 = .ok (.iload_n 1, 1) := by decide +kernel
theorem dX5_isPossible_11 : decode cX5_isPossible 11 = .ok (.iload_n 2, 1) := by decide +kernel
theorem dX5_isPossible_12 : decode cX5_isPossible 12 = .ok (.invokevirtual 157, 3) := by decide +kernel
theorem dX5_isPossible_15 : decode cX5_isPossible 15 = .ok (.ifCond .eq 19, 3) := by decide +kernel
theorem dX5_isPossible_18 : decode cX5_isPossible 18 = .ok (.aload_n 0, 1) := by decide +kernel
theorem dX5_isPossible_19 : decode cX5_isPossible 19 = .ok (.invokevirtual 136, 3) := by decide +kernel
theorem dX5_isPossible_22 : decode cX5_isPossible 22 = .ok (.iload_n 1, 1) := by decide +kernel
theorem dX5_isPossible_23 : decode cX5_isPossible 23 = .ok (.iload_n 2, 1) := by decide +kernel
theorem dX5_isPossible_24 : decode cX5_isPossible 24 = .ok (.invokevirtual 160, 3) := by decide +kernel
theorem dX5_isPossible_27 : decode cX5_isPossible 27 = .ok (.ifCond .ne 7, 3) := by decide +kernel
theorem dX5_isPossible_30 : decode cX5_isPossible 30 = .ok (.iconst 1, 1) := by decide +kernel
theorem dX5_isPossible_31 : decode cX5_isPossible 31 = .ok (.goto 4, 3) := by decide +kernel
theorem dX5_isPossible_34 : decode cX5_isPossible 34 = .ok (.iconst 0, 1) := by decide +kernel
theorem dX5_isPossible_35 : decode cX5_isPossible 35 = .ok (.ireturn, 1) := by decide +kernel
theorem dX5_isCertain_0 : decode cX5_isCertain 0 = .ok (.aload_n 0, 1) := by decide +kernel
theorem dX5_isCertain_1 : decode cX5_isCertain 1 = .ok (.iload_n 1, 1) := by decide +kernel
theorem dX5_isCertain_2 : decode cX5_isCertain 2 = .ok (.iload_n 2, 1) := by decide +kernel
theorem dX5_isCertain_3 : decode cX5_isCertain 3 = .ok (.invokevirtual 85, 3) := by decide +kernel
theorem dX5_isCertain_6 : decode cX5_isCertain 6 = .ok (.aload_n 0, 1) := by decide +kernel
theorem dX5_isCertain_7 : decode cX5_isCertain 7 = .ok (.invokevirtual 136, 3) := by decide +kernel
theorem dX5_isCertain_10 : decode cX5_isCertain 10 = .ok (.iload_n 1, 1) := by decide +kernel
theorem dX5_isCertain_11 : decode cX5_isCertain 11 = .ok (.iload_n 2, 1) := by decide +kernel
theorem dX5_isCertain_12 : decode cX5_isCertain 12 = .ok (.invokevirtual 163, 3) := by decide +kernel
theorem dX5_isCertain_15 : decode cX5_isCertain 15 = .ok (.ifCond .eq 7, 3) := by decide +kernel
theorem dX5_isCertain_18 : decode cX5_isCertain 18 = .ok (.iconst 1, 1) := by decide +kernel
theorem dX5_isCertain_19 : decode cX5_isCertain 19 = .ok (.goto 4, 3) := by decide +kernel
theorem dX5_isCertain_22 : decode cX5_isCertain 22 = .ok (.iconst 0, 1) := by decide +kernel
theorem dX5_isCertain_23 : decode cX5_isCertain 23 = .ok (.ireturn, 1) := by decide +kernel
theorem dX5_regret_0 : decode cX5_regret 0 = .ok (.aload_n 0, 1) := by decide +kernel
theorem dX5_regret_1 : decode cX5_regret 1 = .ok (.iload_n 1, 1) := by decide +kernel
theorem dX5_regret_2 : decode cX5_regret 2 = .ok (.iload_n 2, 1) := by decide +kernel
theorem dX5_regret_3 : decode cX5_regret 3 = .ok (.invokevirtual 166, 3) := by decide +kernel
theorem dX5_regret_6 : decode cX5_regret 6 = .ok (.aload_n 0, 1) := by decide +kernel
theorem dX5_regret_7 : decode cX5_regret 7 = .ok (.invokevirtual 136, 3) := by decide +kernel
theorem dX5_regret_10 : decode cX5_regret 10 = .ok (.iload_n 1, 1) := by decide +kernel
theorem dX5_regret_11 : decode cX5_regret 11 = .ok (.iload_n 2, 1) := by decide +kernel
theorem dX5_regret_12 : decode cX5_regret 12 = .ok (.invokevirtual 160, 3) := by decide +kernel
theorem dX5_regret_15 : decode cX5_regret 15 = .ok (.ireturn, 1) := by decide +kernel
theorem dX5_loss_0 : decode cX5_loss 0 = .ok (.aload_n 0, 1) := by decide +kernel
theorem dX5_loss_1 : decode cX5_loss 1 = .ok (.iload_n 1, 1) := by decide +kernel
theorem dX5_loss_2 : decode cX5_loss 2 = .ok (.iload_n 2, 1) := by decide +kernel
theorem dX5_loss_3 : decode cX5_loss 3 = .ok (.invokevirtual 85, 3) := by decide +kernel
theorem dX5_loss_6 : decode cX5_loss 6 = .ok (.aload_n 0, 1) := by decide +kernel
theorem dX5_loss_7 : decode cX5_loss 7 = .ok (.invokevirtual 136, 3) := by decide +kernel
theorem dX5_loss_10 : decode cX5_loss 10 = .ok (.iload_n 1, 1) := by decide +kernel
theorem dX5_loss_11 : decode cX5_loss 11 = .ok (.iload_n 2, 1) := by decide +kernel
theorem dX5_loss_12 : decode cX5_loss 12 = .ok (.invokevirtual 163, 3) := by decide +kernel
theorem dX5_loss_15 : decode cX5_loss 15 = .ok (.ireturn, 1) := by decide +kernel
theorem dX5_greatestCost_0 : decode cX5_greatestCost 0 = .ok (.aload_n 0, 1) := by decide +kernel
theorem dX5_greatestCost_1 : decode cX5_greatestCost 1 = .ok (.iload_n 1, 1) := by decide +kernel
theorem dX5_greatestCost_2 : decode cX5_greatestCost 2 = .ok (.iload_n 2, 1) := by decide +kernel
theorem dX5_greatestCost_3 : decode cX5_greatestCost 3 = .ok (.invokevirtual 166, 3) := by decide +kernel
theorem dX5_greatestCost_6 : decode cX5_greatestCost 6 = .ok (.aload_n 0, 1) := by decide +kernel
theorem dX5_greatestCost_7 : decode cX5_greatestCost 7 = .ok (.invokevirtual 136, 3) := by decide +kernel
theorem dX5_greatestCost_10 : decode cX5_greatestCost 10 = .ok (.iload_n 1, 1) := by decide +kernel
theorem dX5_greatestCost_11 : decode cX5_greatestCost 11 = .ok (.iload_n 2, 1) := by decide +kernel
theorem dX5_greatestCost_12 : decode cX5_greatestCost 12 = .ok (.invokevirtual 160, 3) := by decide +kernel
theorem dX5_greatestCost_15 : decode cX5_greatestCost 15 = .ok (.istore_n 3, 1) := by decide +kernel
theorem dX5_greatestCost_16 : decode cX5_greatestCost 16 = .ok (.iload_n 3, 1) := by decide +kernel
theorem dX5_greatestCost_17 : decode cX5_greatestCost 17 = .ok (.iconst (-1), 1) := by decide +kernel
theorem dX5_greatestCost_18 : decode cX5_greatestCost 18 = .ok (.if_icmp .ne 7, 3) := by decide +kernel
theorem dX5_greatestCost_21 : decode cX5_greatestCost 21 = .ok (.sipush (-20000), 3) := by decide +kernel
theorem dX5_greatestCost_24 : decode cX5_greatestCost 24 = .ok (.ireturn, 1) := by decide +kernel
theorem dX5_greatestCost_25 : decode cX5_greatestCost 25 = .ok (.aload_n 0, 1) := by decide +kernel
theorem dX5_greatestCost_26 : decode cX5_greatestCost 26 = .ok (.invokevirtual 136, 3) := by decide +kernel
theorem dX5_greatestCost_29 : decode cX5_greatestCost 29 = .ok (.iload_n 1, 1) := by decide +kernel
theorem dX5_greatestCost_30 : decode cX5_greatestCost 30 = .ok (.iload_n 2, 1) := by decide +kernel
theorem dX5_greatestCost_31 : decode cX5_greatestCost 31 = .ok (.invokevirtual 163, 3) := by decide +kernel
theorem dX5_greatestCost_34 : decode cX5_greatestCost 34 = .ok (.istore 4, 2) := by decide +kernel
theorem dX5_greatestCost_36 : decode cX5_greatestCost 36 = .ok (.iload 4, 2) := by decide +kernel
theorem dX5_greatestCost_38 : decode cX5_greatestCost 38 = .ok (.iconst (-1), 1) := by decide +kernel
theorem dX5_greatestCost_39 : decode cX5_greatestCost 39 = .ok (.if_icmp .ne 7, 3) := by decide +kernel
theorem dX5_greatestCost_42 : decode cX5_greatestCost 42 = .ok (.sipush 10000, 3) := by decide +kernel
theorem dX5_greatestCost_45 : decode cX5_greatestCost 45 = .ok (.ireturn, 1) := by decide +kernel
theorem dX5_greatestCost_46 : decode cX5_greatestCost 46 = .ok (.aload_n 0, 1) := by decide +kernel
theorem dX5_greatestCost_47 : decode cX5_greatestCost 47 = .ok (.getfield 12, 3) := by decide +kernel
theorem dX5_greatestCost_50 : decode cX5_greatestCost 50 = .ok (.iload_n 1, 1) := by decide +kernel
theorem dX5_greatestCost_51 : decode cX5_greatestCost 51 = .ok (.iload_n 2, 1) := by decide +kernel
theorem dX5_greatestCost_52 : decode cX5_greatestCost 52 = .ok (.invokevirtual 128, 3) := by decide +kernel
theorem dX5_greatestCost_55 : decode cX5_greatestCost 55 = .ok (.iload 4, 2) := by decide +kernel
theorem dX5_greatestCost_57 : decode cX5_greatestCost 57 = .ok (.iadd, 1) := by decide +kernel
theorem dX5_greatestCost_58 : decode cX5_greatestCost 58 = .ok (.iload_n 3, 1) := by decide +kernel
theorem dX5_greatestCost_59 : decode cX5_greatestCost 59 = .ok (.isub, 1) := by decide +kernel
theorem dX5_greatestCost_60 : decode cX5_greatestCost 60 = .ok (.istore 5, 2) := by decide +kernel
theorem dX5_greatestCost_62 : decode cX5_greatestCost 62 = .ok (.iload 5, 2) := by decide +kernel
theorem dX5_greatestCost_64 : decode cX5_greatestCost 64 = .ok (.sipush (-10000), 3) := by decide +kernel
theorem dX5_greatestCost_67 : decode cX5_greatestCost 67 = .ok (.if_icmp .ge 9, 3) := by decide +kernel
theorem dX5_greatestCost_70 : decode cX5_greatestCost 70 = .ok (.sipush (-20000), 3) := by decide +kernel
theorem dX5_greatestCost_73 : decode cX5_greatestCost 73 = .ok (.goto 11, 3) := by decide +kernel
theorem dX5_greatestCost_76 : decode cX5_greatestCost 76 = .ok (.iload 5, 2) := by decide +kernel
theorem dX5_greatestCost_78 : decode cX5_greatestCost 78 = .ok (.sipush 10000, 3) := by decide +kernel
theorem dX5_greatestCost_81 : decode cX5_greatestCost 81 = .ok (.invokestatic 169, 3) := by decide +kernel
theorem dX5_greatestCost_84 : decode cX5_greatestCost 84 = .ok (.ireturn, 1) := by decide +kernel
theorem dX5_rank_0 : decode cX5_rank 0 = .ok (.iload_n 1, 1) := by decide +kernel
theorem dX5_rank_1 : decode cX5_rank 1 = .ok (.iconst 1, 1) := by decide +kernel
theorem dX5_rank_2 : decode cX5_rank 2 = .ok (.if_icmp .lt 9, 3) := by decide +kernel
theorem dX5_rank_5 : decode cX5_rank 5 = .ok (.iload_n 1, 1) := by decide +kernel
theorem dX5_rank_6 : decode cX5_rank 6 = .ok (.bipush 30, 2) := by decide +kernel
theorem dX5_rank_8 : decode cX5_rank 8 = .ok (.if_icmp .le 13, 3) := by decide +kernel
theorem dX5_rank_11 : decode cX5_rank 11 = .ok (.new 93, 3) := by decide +kernel
theorem dX5_rank_14 : decode cX5_rank 14 = .ok (.dup, 1) := by decide +kernel
theorem dX5_rank_15 : decode cX5_rank 15 = .ok (.ldc 174, 2) := by decide +kernel
theorem dX5_rank_17 : decode cX5_rank 17 = .ok (.invokespecial 97, 3) := by decide +kernel
theorem dX5_rank_20 : decode cX5_rank 20 = .ok (.athrow, 1) := by decide +kernel
theorem dX5_rank_21 : decode cX5_rank 21 = .ok (.aload_n 0, 1) := by decide +kernel
theorem dX5_rank_22 : decode cX5_rank 22 = .ok (.getfield 33, 3) := by decide +kernel
theorem dX5_rank_25 : decode cX5_rank 25 = .ok (.aload_n 0, 1) := by decide +kernel
theorem dX5_rank_26 : decode cX5_rank 26 = .ok (.invokevirtual 136, 3) := by decide +kernel
theorem dX5_rank_29 : decode cX5_rank 29 = .ok (.iload_n 1, 1) := by decide +kernel
theorem dX5_rank_30 : decode cX5_rank 30 = .ok (.invokevirtual 176, 3) := by decide +kernel
theorem dX5_rank_33 : decode cX5_rank 33 = .ok (.aload_n 0, 1) := by decide +kernel
theorem dX5_rank_34 : decode cX5_rank 34 = .ok (.getfield 33, 3) := by decide +kernel
theorem dX5_rank_37 : decode cX5_rank 37 = .ok (.getfield 180, 3) := by decide +kernel
theorem dX5_rank_40 : decode cX5_rank 40 = .ok (.getfield 184, 3) := by decide +kernel
theorem dX5_rank_43 : decode cX5_rank 43 = .ok (.ireturn, 1) := by decide +kernel
theorem dX5_rankedCost_0 : decode cX5_rankedCost 0 = .ok (.aload_n 0, 1) := by decide +kernel
theorem dX5_rankedCost_1 : decode cX5_rankedCost 1 = .ok (.iload_n 1, 1) := by decide +kernel
theorem dX5_rankedCost_2 : decode cX5_rankedCost 2 = .ok (.invokevirtual 189, 3) := by decide +kernel
theorem dX5_rankedCost_5 : decode cX5_rankedCost 5 = .ok (.aload_n 0, 1) := by decide +kernel
theorem dX5_rankedCost_6 : decode cX5_rankedCost 6 = .ok (.getfield 33, 3) := by decide +kernel
theorem dX5_rankedCost_9 : decode cX5_rankedCost 9 = .ok (.getfield 180, 3) := by decide +kernel
theorem dX5_rankedCost_12 : decode cX5_rankedCost 12 = .ok (.getfield 192, 3) := by decide +kernel
theorem dX5_rankedCost_15 : decode cX5_rankedCost 15 = .ok (.iload_n 1, 1) := by decide +kernel
theorem dX5_rankedCost_16 : decode cX5_rankedCost 16 = .ok (.iaload, 1) := by decide +kernel
theorem dX5_rankedCost_17 : decode cX5_rankedCost 17 = .ok (.invokestatic 147, 3) := by decide +kernel
theorem dX5_rankedCost_20 : decode cX5_rankedCost 20 = .ok (.ireturn, 1) := by decide +kernel
theorem dX5_rankedColumn_0 : decode cX5_rankedColumn 0 = .ok (.aload_n 0, 1) := by decide +kernel
theorem dX5_rankedColumn_1 : decode cX5_rankedColumn 1 = .ok (.iload_n 1, 1) := by decide +kernel
theorem dX5_rankedColumn_2 : decode cX5_rankedColumn 2 = .ok (.invokevirtual 189, 3) := by decide +kernel
theorem dX5_rankedColumn_5 : decode cX5_rankedColumn 5 = .ok (.aload_n 0, 1) := by decide +kernel
theorem dX5_rankedColumn_6 : decode cX5_rankedColumn 6 = .ok (.iload_n 2, 1) := by decide +kernel
theorem dX5_rankedColumn_7 : decode cX5_rankedColumn 7 = .ok (.invokevirtual 64, 3) := by decide +kernel
theorem dX5_rankedColumn_10 : decode cX5_rankedColumn 10 = .ok (.aload_n 0, 1) := by decide +kernel
theorem dX5_rankedColumn_11 : decode cX5_rankedColumn 11 = .ok (.getfield 33, 3) := by decide +kernel
theorem dX5_rankedColumn_14 : decode cX5_rankedColumn 14 = .ok (.getfield 180, 3) := by decide +kernel
theorem dX5_rankedColumn_17 : decode cX5_rankedColumn 17 = .ok (.getfield 195, 3) := by decide +kernel
theorem dX5_rankedColumn_20 : decode cX5_rankedColumn 20 = .ok (.iload_n 1, 1) := by decide +kernel
theorem dX5_rankedColumn_21 : decode cX5_rankedColumn 21 = .ok (.laload, 1) := by decide +kernel
theorem dX5_rankedColumn_22 : decode cX5_rankedColumn 22 = .ok (.iload_n 2, 1) := by decide +kernel
theorem dX5_rankedColumn_23 : decode cX5_rankedColumn 23 = .ok (.invokestatic 199, 3) := by decide +kernel
theorem dX5_rankedColumn_26 : decode cX5_rankedColumn 26 = .ok (.ireturn, 1) := by decide +kernel
theorem dX5_push_0 : decode cX5_push 0 = .ok (.aload_n 0, 1) := by decide +kernel
theorem dX5_push_1 : decode cX5_push 1 = .ok (.getfield 19, 3) := by decide +kernel
theorem dX5_push_4 : decode cX5_push 4 = .ok (.getfield 203, 3) := by decide +kernel
theorem dX5_push_7 : decode cX5_push 7 = .ok (.bipush 8, 2) := by decide +kernel
theorem dX5_push_9 : decode cX5_push 9 = .ok (.if_icmp .lt 13, 3) := by decide +kernel
theorem dX5_push_12 : decode cX5_push 12 = .ok (.new 41, 3) := by decide +kernel
theorem dX5_push_15 : decode cX5_push 15 = .ok (.dup, 1) := by decide +kernel
theorem dX5_push_16 : decode cX5_push 16 = .ok (.ldc 204, 2) := by decide +kernel
theorem dX5_push_18 : decode cX5_push 18 = .ok (.invokespecial 45, 3) := by decide +kernel
theorem dX5_push_21 : decode cX5_push 21 = .ok (.athrow, 1) := by decide +kernel
theorem dX5_push_22 : decode cX5_push 22 = .ok (.aload_n 0, 1) := by decide +kernel
theorem dX5_push_23 : decode cX5_push 23 = .ok (.getfield 19, 3) := by decide +kernel
theorem dX5_push_26 : decode cX5_push 26 = .ok (.aload_n 0, 1) := by decide +kernel
theorem dX5_push_27 : decode cX5_push 27 = .ok (.getfield 12, 3) := by decide +kernel
theorem dX5_push_30 : decode cX5_push 30 = .ok (.invokevirtual 206, 3) := by decide +kernel
theorem dX5_push_33 : decode cX5_push 33 = .ok (.aload_n 0, 1) := by decide +kernel
theorem dX5_push_34 : decode cX5_push 34 = .ok (.getfield 19, 3) := by decide +kernel
theorem dX5_push_37 : decode cX5_push 37 = .ok (.getfield 203, 3) := by decide +kernel
theorem dX5_push_40 : decode cX5_push 40 = .ok (.ireturn, 1) := by decide +kernel
theorem dX5_pop_0 : decode cX5_pop 0 = .ok (.aload_n 0, 1) := by decide +kernel
theorem dX5_pop_1 : decode cX5_pop 1 = .ok (.getfield 19, 3) := by decide +kernel
theorem dX5_pop_4 : decode cX5_pop 4 = .ok (.getfield 203, 3) := by decide +kernel
theorem dX5_pop_7 : decode cX5_pop 7 = .ok (.ifCond .gt 13, 3) := by decide +kernel
theorem dX5_pop_10 : decode cX5_pop 10 = .ok (.new 41, 3) := by decide +kernel
theorem dX5_pop_13 : decode cX5_pop 13 = .ok (.dup, 1) := by decide +kernel
theorem dX5_pop_14 : decode cX5_pop 14 = .ok (.ldc 210, 2) := by decide +kernel
theorem dX5_pop_16 : decode cX5_pop 16 = .ok (.invokespecial 45, 3) := by decide +kernel
theorem dX5_pop_19 : decode cX5_pop 19 = .ok (.athrow, 1) := by decide +kernel
theorem dX5_pop_20 : decode cX5_pop 20 = .ok (.aload_n 0, 1) := by decide +kernel
theorem dX5_pop_21 : decode cX5_pop 21 = .ok (.getfield 19, 3) := by decide +kernel
theorem dX5_pop_24 : decode cX5_pop 24 = .ok (.aload_n 0, 1) := by decide +kernel
theorem dX5_pop_25 : decode cX5_pop 25 = .ok (.getfield 12, 3) := by decide +kernel
theorem dX5_pop_28 : decode cX5_pop 28 = .ok (.invokevirtual 212, 3) := by decide +kernel
theorem dX5_pop_31 : decode cX5_pop 31 = .ok (.aload_n 0, 1) := by decide +kernel
theorem dX5_pop_32 : decode cX5_pop 32 = .ok (.iconst 0, 1) := by decide +kernel
theorem dX5_pop_33 : decode cX5_pop 33 = .ok (.putfield 48, 3) := by decide +kernel
theorem dX5_pop_36 : decode cX5_pop 36 = .ok (.aload_n 0, 1) := by decide +kernel
theorem dX5_pop_37 : decode cX5_pop 37 = .ok (.getfield 19, 3) := by decide +kernel
theorem dX5_pop_40 : decode cX5_pop 40 = .ok (.getfield 203, 3) := by decide +kernel
theorem dX5_pop_43 : decode cX5_pop 43 = .ok (.ireturn, 1) := by decide +kernel
theorem dX5_digest_0 : decode cX5_digest 0 = .ok (.ldc2_w 215, 3) := by decide +kernel
theorem dX5_digest_3 : decode cX5_digest 3 = .ok (.lstore_n 1, 1) := by decide +kernel
theorem dX5_digest_4 : decode cX5_digest 4 = .ok (.lload_n 1, 1) := by decide +kernel
theorem dX5_digest_5 : decode cX5_digest 5 = .ok (.ldc2_w 217, 3) := by decide +kernel
theorem dX5_digest_8 : decode cX5_digest 8 = .ok (.lmul, 1) := by decide +kernel
theorem dX5_digest_9 : decode cX5_digest 9 = .ok (.aload_n 0, 1) := by decide +kernel
theorem dX5_digest_10 : decode cX5_digest 10 = .ok (.getfield 12, 3) := by decide +kernel
theorem dX5_digest_13 : decode cX5_digest 13 = .ok (.getfield 37, 3) := by decide +kernel
theorem dX5_digest_16 : decode cX5_digest 16 = .ok (.i2l, 1) := by decide +kernel
theorem dX5_digest_17 : decode cX5_digest 17 = .ok (.ladd, 1) := by decide +kernel
theorem dX5_digest_18 : decode cX5_digest 18 = .ok (.lstore_n 1, 1) := by decide +kernel
theorem dX5_digest_19 : decode cX5_digest 19 = .ok (.lload_n 1, 1) := by decide +kernel
theorem dX5_digest_20 : decode cX5_digest 20 = .ok (.ldc2_w 217, 3) := by decide +kernel
theorem dX5_digest_23 : decode cX5_digest 23 = .ok (.lmul, 1) := by decide +kernel
theorem dX5_digest_24 : decode cX5_digest 24 = .ok (.aload_n 0, 1) := by decide +kernel
theorem dX5_digest_25 : decode cX5_digest 25 = .ok (.getfield 12, 3) := by decide +kernel
theorem dX5_digest_28 : decode cX5_digest 28 = .ok (.getfield 56, 3) := by decide +kernel
theorem dX5_digest_31 : decode cX5_digest 31 = .ok (.i2l, 1) := by decide +kernel
theorem dX5_digest_32 : decode cX5_digest 32 = .ok (.ladd, 1) := by decide +kernel
theorem dX5_digest_33 : decode cX5_digest 33 = .ok (.lstore_n 1, 1) := by decide +kernel
theorem dX5_digest_34 : decode cX5_digest 34 = .ok (.lload_n 1, 1) := by decide +kernel
theorem dX5_digest_35 : decode cX5_digest 35 = .ok (.ldc2_w 217, 3) := by decide +kernel
theorem dX5_digest_38 : decode cX5_digest 38 = .ok (.lmul, 1) := by decide +kernel
theorem dX5_digest_39 : decode cX5_digest 39 = .ok (.aload_n 0, 1) := by decide +kernel
theorem dX5_digest_40 : decode cX5_digest 40 = .ok (.getfield 19, 3) := by decide +kernel
theorem dX5_digest_43 : decode cX5_digest 43 = .ok (.getfield 203, 3) := by decide +kernel
theorem dX5_digest_46 : decode cX5_digest 46 = .ok (.i2l, 1) := by decide +kernel
theorem dX5_digest_47 : decode cX5_digest 47 = .ok (.ladd, 1) := by decide +kernel
theorem dX5_digest_48 : decode cX5_digest 48 = .ok (.lstore_n 1, 1) := by decide +kernel
theorem dX5_digest_49 : decode cX5_digest 49 = .ok (.aload_n 0, 1) := by decide +kernel
theorem dX5_digest_50 : decode cX5_digest 50 = .ok (.getfield 12, 3) := by decide +kernel
theorem dX5_digest_53 : decode cX5_digest 53 = .ok (.lload_n 1, 1) := by decide +kernel
theorem dX5_digest_54 : decode cX5_digest 54 = .ok (.invokevirtual 219, 3) := by decide +kernel
theorem dX5_digest_57 : decode cX5_digest 57 = .ok (.lstore_n 1, 1) := by decide +kernel
theorem dX5_digest_58 : decode cX5_digest 58 = .ok (.aload_n 0, 1) := by decide +kernel
theorem dX5_digest_59 : decode cX5_digest 59 = .ok (.invokevirtual 136, 3) := by decide +kernel
theorem dX5_digest_62 : decode cX5_digest 62 = .ok (.lload_n 1, 1) := by decide +kernel
theorem dX5_digest_63 : decode cX5_digest 63 = .ok (.aload_n 0, 1) := by decide +kernel
theorem dX5_digest_64 : decode cX5_digest 64 = .ok (.getfield 12, 3) := by decide +kernel
theorem dX5_digest_67 : decode cX5_digest 67 = .ok (.getfield 37, 3) := by decide +kernel
theorem dX5_digest_70 : decode cX5_digest 70 = .ok (.invokevirtual 223, 3) := by decide +kernel
theorem dX5_digest_73 : decode cX5_digest 73 = .ok (.lreturn, 1) := by decide +kernel
theorem dX5_requireRow_0 : decode cX5_requireRow 0 = .ok (.iload_n 1, 1) := by decide +kernel
theorem dX5_requireRow_1 : decode cX5_requireRow 1 = .ok (.ifCond .lt 14, 3) := by decide +kernel
theorem dX5_requireRow_4 : decode cX5_requireRow 4 = .ok (.iload_n 1, 1) := by decide +kernel
theorem dX5_requireRow_5 : decode cX5_requireRow 5 = .ok (.aload_n 0, 1) := by decide +kernel
theorem dX5_requireRow_6 : decode cX5_requireRow 6 = .ok (.getfield 12, 3) := by decide +kernel
theorem dX5_requireRow_9 : decode cX5_requireRow 9 = .ok (.getfield 37, 3) := by decide +kernel
theorem dX5_requireRow_12 : decode cX5_requireRow 12 = .ok (.if_icmp .lt 13, 3) := by decide +kernel
theorem dX5_requireRow_15 : decode cX5_requireRow 15 = .ok (.new 226, 3) := by decide +kernel
theorem dX5_requireRow_18 : decode cX5_requireRow 18 = .ok (.dup, 1) := by decide +kernel
theorem dX5_requireRow_19 : decode cX5_requireRow 19 = .ok (.ldc 228, 2) := by decide +kernel
theorem dX5_requireRow_21 : decode cX5_requireRow 21 = .ok (.invokespecial 230, 3) := by decide +kernel
theorem dX5_requireRow_24 : decode cX5_requireRow 24 = .ok (.athrow, 1) := by decide +kernel
theorem dX5_requireRow_25 : decode cX5_requireRow 25 = .ok (.return_, 1) := by decide +kernel
theorem dX5_requireColumn_0 : decode cX5_requireColumn 0 = .ok (.iload_n 1, 1) := by decide +kernel
theorem dX5_requireColumn_1 : decode cX5_requireColumn 1 = .ok (.ifCond .lt 14, 3) := by decide +kernel
theorem dX5_requireColumn_4 : decode cX5_requireColumn 4 = .ok (.iload_n 1, 1) := by decide +kernel
theorem dX5_requireColumn_5 : decode cX5_requireColumn 5 = .ok (.aload_n 0, 1) := by decide +kernel
theorem dX5_requireColumn_6 : decode cX5_requireColumn 6 = .ok (.getfield 12, 3) := by decide +kernel
theorem dX5_requireColumn_9 : decode cX5_requireColumn 9 = .ok (.getfield 56, 3) := by decide +kernel
theorem dX5_requireColumn_12 : decode cX5_requireColumn 12 = .ok (.if_icmp .lt 13, 3) := by decide +kernel
theorem dX5_requireColumn_15 : decode cX5_requireColumn 15 = .ok (.new 226, 3) := by decide +kernel
theorem dX5_requireColumn_18 : decode cX5_requireColumn 18 = .ok (.dup, 1) := by decide +kernel
theorem dX5_requireColumn_19 : decode cX5_requireColumn 19 = .ok (.ldc 231, 2) := by decide +kernel
theorem dX5_requireColumn_21 : decode cX5_requireColumn 21 = .ok (.invokespecial 230, 3) := by decide +kernel
theorem dX5_requireColumn_24 : decode cX5_requireColumn 24 = .ok (.athrow, 1) := by decide +kernel
theorem dX5_requireColumn_25 : decode cX5_requireColumn 25 = .ok (.return_, 1) := by decide +kernel
theorem dX5_requirePair_0 : decode cX5_requirePair 0 = .ok (.aload_n 0, 1) := by decide +kernel
theorem dX5_requirePair_1 : decode cX5_requirePair 1 = .ok (.iload_n 1, 1) := by decide +kernel
theorem dX5_requirePair_2 : decode cX5_requirePair 2 = .ok (.invokevirtual 64, 3) := by decide +kernel
theorem dX5_requirePair_5 : decode cX5_requirePair 5 = .ok (.aload_n 0, 1) := by decide +kernel
theorem dX5_requirePair_6 : decode cX5_requirePair 6 = .ok (.iload_n 2, 1) := by decide +kernel
theorem dX5_requirePair_7 : decode cX5_requirePair 7 = .ok (.invokevirtual 79, 3) := by decide +kernel
theorem dX5_requirePair_10 : decode cX5_requirePair 10 = .ok (.return_, 1) := by decide +kernel
theorem dX5_requireUsable_0 : decode cX5_requireUsable 0 = .ok (.aload_n 0, 1) := by decide +kernel
theorem dX5_requireUsable_1 : decode cX5_requireUsable 1 = .ok (.iload_n 1, 1) := by decide +kernel
theorem dX5_requireUsable_2 : decode cX5_requireUsable 2 = .ok (.iload_n 2, 1) := by decide +kernel
theorem dX5_requireUsable_3 : decode cX5_requireUsable 3 = .ok (.invokevirtual 85, 3) := by decide +kernel
theorem dX5_requireUsable_6 : decode cX5_requireUsable 6 = .ok (.aload_n 0, 1) := by decide +kernel
theorem dX5_requireUsable_7 : decode cX5_requireUsable 7 = .ok (.getfield 12, 3) := by decide +kernel
theorem dX5_requireUsable_10 : decode cX5_requireUsable 10 = .ok (.iload_n 1, 1) := by decide +kernel
theorem dX5_requireUsable_11 : decode cX5_requireUsable 11 = .ok (.iload_n 2, 1) := by decide +kernel
theorem dX5_requireUsable_12 : decode cX5_requireUsable 12 = .ok (.invokevirtual 157, 3) := by decide +kernel
theorem dX5_requireUsable_15 : decode cX5_requireUsable 15 = .ok (.ifCond .ne 13, 3) := by decide +kernel
theorem dX5_requireUsable_18 : decode cX5_requireUsable 18 = .ok (.new 131, 3) := by decide +kernel
theorem dX5_requireUsable_21 : decode cX5_requireUsable 21 = .ok (.dup, 1) := by decide +kernel
theorem dX5_requireUsable_22 : decode cX5_requireUsable 22 = .ok (.ldc 233, 2) := by decide +kernel
theorem dX5_requireUsable_24 : decode cX5_requireUsable 24 = .ok (.invokespecial 135, 3) := by decide +kernel
theorem dX5_requireUsable_27 : decode cX5_requireUsable 27 = .ok (.athrow, 1) := by decide +kernel
theorem dX5_requireUsable_28 : decode cX5_requireUsable 28 = .ok (.return_, 1) := by decide +kernel
theorem dX5_requireRanked_0 : decode cX5_requireRanked 0 = .ok (.iload_n 1, 1) := by decide +kernel
theorem dX5_requireRanked_1 : decode cX5_requireRanked 1 = .ok (.ifCond .lt 17, 3) := by decide +kernel
theorem dX5_requireRanked_4 : decode cX5_requireRanked 4 = .ok (.iload_n 1, 1) := by decide +kernel
theorem dX5_requireRanked_5 : decode cX5_requireRanked 5 = .ok (.aload_n 0, 1) := by decide +kernel
theorem dX5_requireRanked_6 : decode cX5_requireRanked 6 = .ok (.getfield 33, 3) := by decide +kernel
theorem dX5_requireRanked_9 : decode cX5_requireRanked 9 = .ok (.getfield 180, 3) := by decide +kernel
theorem dX5_requireRanked_12 : decode cX5_requireRanked 12 = .ok (.getfield 184, 3) := by decide +kernel
theorem dX5_requireRanked_15 : decode cX5_requireRanked 15 = .ok (.if_icmp .lt 13, 3) := by decide +kernel
theorem dX5_requireRanked_18 : decode cX5_requireRanked 18 = .ok (.new 226, 3) := by decide +kernel
theorem dX5_requireRanked_21 : decode cX5_requireRanked 21 = .ok (.dup, 1) := by decide +kernel
theorem dX5_requireRanked_22 : decode cX5_requireRanked 22 = .ok (.ldc 235, 2) := by decide +kernel
theorem dX5_requireRanked_24 : decode cX5_requireRanked 24 = .ok (.invokespecial 230, 3) := by decide +kernel
theorem dX5_requireRanked_27 : decode cX5_requireRanked 27 = .ok (.athrow, 1) := by decide +kernel
theorem dX5_requireRanked_28 : decode cX5_requireRanked 28 = .ok (.return_, 1) := by decide +kernel
theorem dX5_replaceCell_0 : decode cX5_replaceCell 0 = .ok (.aload_n 0, 1) := by decide +kernel
theorem dX5_replaceCell_1 : decode cX5_replaceCell 1 = .ok (.getfield 12, 3) := by decide +kernel
theorem dX5_replaceCell_4 : decode cX5_replaceCell 4 = .ok (.iload_n 1, 1) := by decide +kernel
theorem dX5_replaceCell_5 : decode cX5_replaceCell 5 = .ok (.iload_n 2, 1) := by decide +kernel
theorem dX5_replaceCell_6 : decode cX5_replaceCell 6 = .ok (.invokevirtual 128, 3) := by decide +kernel
theorem dX5_replaceCell_9 : decode cX5_replaceCell 9 = .ok (.sipush 20000, 3) := by decide +kernel
theorem dX5_replaceCell_12 : decode cX5_replaceCell 12 = .ok (.if_icmp .eq 7, 3) := by decide +kernel
theorem dX5_replaceCell_15 : decode cX5_replaceCell 15 = .ok (.iconst 1, 1) := by decide +kernel
theorem dX5_replaceCell_16 : decode cX5_replaceCell 16 = .ok (.goto 4, 3) := by decide +kernel
theorem dX5_replaceCell_19 : decode cX5_replaceCell 19 = .ok (.iconst 0, 1) := by decide +kernel
theorem dX5_replaceCell_20 : decode cX5_replaceCell 20 = .ok (.istore 4, 2) := by decide +kernel
theorem dX5_replaceCell_22 : decode cX5_replaceCell 22 = .ok (.aload_n 0, 1) := by decide +kernel
theorem dX5_replaceCell_23 : decode cX5_replaceCell 23 = .ok (.getfield 12, 3) := by decide +kernel
theorem dX5_replaceCell_26 : decode cX5_replaceCell 26 = .ok (.getfield 237, 3) := by decide +kernel
theorem dX5_replaceCell_29 : decode cX5_replaceCell 29 = .ok (.iload_n 1, 1) := by decide +kernel
theorem dX5_replaceCell_30 : decode cX5_replaceCell 30 = .ok (.bipush 10, 2) := by decide +kernel
theorem dX5_replaceCell_32 : decode cX5_replaceCell 32 = .ok (.imul, 1) := by decide +kernel
theorem dX5_replaceCell_33 : decode cX5_replaceCell 33 = .ok (.iload_n 2, 1) := by decide +kernel
theorem dX5_replaceCell_34 : decode cX5_replaceCell 34 = .ok (.iadd, 1) := by decide +kernel
theorem dX5_replaceCell_35 : decode cX5_replaceCell 35 = .ok (.iload_n 3, 1) := by decide +kernel
theorem dX5_replaceCell_36 : decode cX5_replaceCell 36 = .ok (.iastore, 1) := by decide +kernel
theorem dX5_replaceCell_37 : decode cX5_replaceCell 37 = .ok (.aload_n 0, 1) := by decide +kernel
theorem dX5_replaceCell_38 : decode cX5_replaceCell 38 = .ok (.iconst 0, 1) := by decide +kernel
theorem dX5_replaceCell_39 : decode cX5_replaceCell 39 = .ok (.putfield 48, 3) := by decide +kernel
theorem dX5_replaceCell_42 : decode cX5_replaceCell 42 = .ok (.iload 4, 2) := by decide +kernel
theorem dX5_replaceCell_44 : decode cX5_replaceCell 44 = .ok (.ireturn, 1) := by decide +kernel
theorem dX5_solved_0 : decode cX5_solved 0 = .ok (.aload_n 0, 1) := by decide +kernel
theorem dX5_solved_1 : decode cX5_solved 1 = .ok (.getfield 48, 3) := by decide +kernel
theorem dX5_solved_4 : decode cX5_solved 4 = .ok (.ifCond .ne 19, 3) := by decide +kernel
theorem dX5_solved_7 : decode cX5_solved 7 = .ok (.aload_n 0, 1) := by decide +kernel
theorem dX5_solved_8 : decode cX5_solved 8 = .ok (.getfield 26, 3) := by decide +kernel
theorem dX5_solved_11 : decode cX5_solved 11 = .ok (.aload_n 0, 1) := by decide +kernel
theorem dX5_solved_12 : decode cX5_solved 12 = .ok (.getfield 12, 3) := by decide +kernel
theorem dX5_solved_15 : decode cX5_solved 15 = .ok (.invokevirtual 240, 3) := by decide +kernel
theorem dX5_solved_18 : decode cX5_solved 18 = .ok (.aload_n 0, 1) := by decide +kernel
theorem dX5_solved_19 : decode cX5_solved 19 = .ok (.iconst 1, 1) := by decide +kernel
theorem dX5_solved_20 : decode cX5_solved 20 = .ok (.putfield 48, 3) := by decide +kernel
theorem dX5_solved_23 : decode cX5_solved 23 = .ok (.aload_n 0, 1) := by decide +kernel
theorem dX5_solved_24 : decode cX5_solved 24 = .ok (.getfield 26, 3) := by decide +kernel
theorem dX5_solved_27 : decode cX5_solved 27 = .ok (.areturn, 1) := by decide +kernel
theorem dX5_isCost_0 : decode cX5_isCost 0 = .ok (.lload_n 0, 1) := by decide +kernel
theorem dX5_isCost_1 : decode cX5_isCost 1 = .ok (.ldc2_w 243, 3) := by decide +kernel
theorem dX5_isCost_4 : decode cX5_isCost 4 = .ok (.lcmp, 1) := by decide +kernel
theorem dX5_isCost_5 : decode cX5_isCost 5 = .ok (.ifCond .lt 15, 3) := by decide +kernel
theorem dX5_isCost_8 : decode cX5_isCost 8 = .ok (.lload_n 0, 1) := by decide +kernel
theorem dX5_isCost_9 : decode cX5_isCost 9 = .ok (.ldc2_w 245, 3) := by decide +kernel
theorem dX5_isCost_12 : decode cX5_isCost 12 = .ok (.lcmp, 1) := by decide +kernel
theorem dX5_isCost_13 : decode cX5_isCost 13 = .ok (.ifCond .gt 7, 3) := by decide +kernel
theorem dX5_isCost_16 : decode cX5_isCost 16 = .ok (.iconst 1, 1) := by decide +kernel
theorem dX5_isCost_17 : decode cX5_isCost 17 = .ok (.goto 4, 3) := by decide +kernel
theorem dX5_isCost_20 : decode cX5_isCost 20 = .ok (.iconst 0, 1) := by decide +kernel
theorem dX5_isCost_21 : decode cX5_isCost 21 = .ok (.ireturn, 1) := by decide +kernel
theorem dX5_hasBit_0 : decode cX5_hasBit 0 = .ok (.iload_n 0, 1) := by decide +kernel
theorem dX5_hasBit_1 : decode cX5_hasBit 1 = .ok (.iload_n 1, 1) := by decide +kernel
theorem dX5_hasBit_2 : decode cX5_hasBit 2 = .ok (.ishr, 1) := by decide +kernel
theorem dX5_hasBit_3 : decode cX5_hasBit 3 = .ok (.iconst 1, 1) := by decide +kernel
theorem dX5_hasBit_4 : decode cX5_hasBit 4 = .ok (.iand, 1) := by decide +kernel
theorem dX5_hasBit_5 : decode cX5_hasBit 5 = .ok (.ifCond .eq 7, 3) := by decide +kernel
theorem dX5_hasBit_8 : decode cX5_hasBit 8 = .ok (.iconst 1, 1) := by decide +kernel
theorem dX5_hasBit_9 : decode cX5_hasBit 9 = .ok (.goto 4, 3) := by decide +kernel
theorem dX5_hasBit_12 : decode cX5_hasBit 12 = .ok (.iconst 0, 1) := by decide +kernel
theorem dX5_hasBit_13 : decode cX5_hasBit 13 = .ok (.ireturn, 1) := by decide +kernel
theorem dX5_withBit_0 : decode cX5_withBit 0 = .ok (.iload_n 2, 1) := by decide +kernel
theorem dX5_withBit_1 : decode cX5_withBit 1 = .ok (.ifCond .eq 11, 3) := by decide +kernel
theorem dX5_withBit_4 : decode cX5_withBit 4 = .ok (.iload_n 0, 1) := by decide +kernel
theorem dX5_withBit_5 : decode cX5_withBit 5 = .ok (.iconst 1, 1) := by decide +kernel
theorem dX5_withBit_6 : decode cX5_withBit 6 = .ok (.iload_n 1, 1) := by decide +kernel
theorem dX5_withBit_7 : decode cX5_withBit 7 = .ok (.ishl, 1) := by decide +kernel
theorem dX5_withBit_8 : decode cX5_withBit 8 = .ok (.ior, 1) := by decide +kernel
theorem dX5_withBit_9 : decode cX5_withBit 9 = .ok (.goto 10, 3) := by decide +kernel
theorem dX5_withBit_12 : decode cX5_withBit 12 = .ok (.iload_n 0, 1) := by decide +kernel
theorem dX5_withBit_13 : decode cX5_withBit 13 = .ok (.iconst 1, 1) := by decide +kernel
theorem dX5_withBit_14 : decode cX5_withBit 14 = .ok (.iload_n 1, 1) := by decide +kernel
theorem dX5_withBit_15 : decode cX5_withBit 15 = .ok (.ishl, 1) := by decide +kernel
theorem dX5_withBit_16 : decode cX5_withBit 16 = .ok (.iconst (-1), 1) := by decide +kernel
theorem dX5_withBit_17 : decode cX5_withBit 17 = .ok (.ixor, 1) := by decide +kernel
theorem dX5_withBit_18 : decode cX5_withBit 18 = .ok (.iand, 1) := by decide +kernel
theorem dX5_withBit_19 : decode cX5_withBit 19 = .ok (.ireturn, 1) := by decide +kernel
theorem dX6_init_0 : decode cX6_init 0 = .ok (.aload_n 0, 1) := by decide +kernel
theorem dX6_init_1 : decode cX6_init 1 = .ok (.invokespecial 3, 3) := by decide +kernel
theorem dX6_init_4 : decode cX6_init 4 = .ok (.aload_n 0, 1) := by decide +kernel
theorem dX6_init_5 : decode cX6_init 5 = .ok (.bipush 10, 2) := by decide +kernel
theorem dX6_init_7 : decode cX6_init 7 = .ok (.newarray .boolean, 2) := by decide +kernel
theorem dX6_init_9 : decode cX6_init 9 = .ok (.putfield 9, 3) := by decide +kernel
theorem dX6_init_12 : decode cX6_init 12 = .ok (.aload_n 0, 1) := by decide +kernel
theorem dX6_init_13 : decode cX6_init 13 = .ok (.bipush 10, 2) := by decide +kernel
theorem dX6_init_15 : decode cX6_init 15 = .ok (.newarray .boolean, 2) := by decide +kernel
theorem dX6_init_17 : decode cX6_init 17 = .ok (.putfield 13, 3) := by decide +kernel
theorem dX6_init_20 : decode cX6_init 20 = .ok (.aload_n 0, 1) := by decide +kernel
theorem dX6_init_21 : decode cX6_init 21 = .ok (.bipush 100, 2) := by decide +kernel
theorem dX6_init_23 : decode cX6_init 23 = .ok (.newarray .boolean, 2) := by decide +kernel
theorem dX6_init_25 : decode cX6_init 25 = .ok (.putfield 16, 3) := by decide +kernel
theorem dX6_init_28 : decode cX6_init 28 = .ok (.aload_n 0, 1) := by decide +kernel
theorem dX6_init_29 : decode cX6_init 29 = .ok (.bipush 100, 2) := by decide +kernel
theorem dX6_init_31 : decode cX6_init 31 = .ok (.newarray .int, 2) := by decide +kernel
theorem dX6_init_33 : decode cX6_init 33 = .ok (.putfield 19, 3) := by decide +kernel
theorem dX6_init_36 : decode cX6_init 36 = .ok (.aload_n 0, 1) := by decide +kernel
theorem dX6_init_37 : decode cX6_init 37 = .ok (.bipush 8, 2) := by decide +kernel
theorem dX6_init_39 : decode cX6_init 39 = .ok (.newarray .int, 2) := by decide +kernel
theorem dX6_init_41 : decode cX6_init 41 = .ok (.putfield 23, 3) := by decide +kernel
theorem dX6_init_44 : decode cX6_init 44 = .ok (.aload_n 0, 1) := by decide +kernel
theorem dX6_init_45 : decode cX6_init 45 = .ok (.bipush 8, 2) := by decide +kernel
theorem dX6_init_47 : decode cX6_init 47 = .ok (.newarray .int, 2) := by decide +kernel
theorem dX6_init_49 : decode cX6_init 49 = .ok (.putfield 26, 3) := by decide +kernel
theorem dX6_init_52 : decode cX6_init 52 = .ok (.aload_n 0, 1) := by decide +kernel
theorem dX6_init_53 : decode cX6_init 53 = .ok (.bipush 80, 2) := by decide +kernel
theorem dX6_init_55 : decode cX6_init 55 = .ok (.newarray .boolean, 2) := by decide +kernel
theorem dX6_init_57 : decode cX6_init 57 = .ok (.putfield 29, 3) := by decide +kernel
theorem dX6_init_60 : decode cX6_init 60 = .ok (.aload_n 0, 1) := by decide +kernel
theorem dX6_init_61 : decode cX6_init 61 = .ok (.bipush 80, 2) := by decide +kernel
theorem dX6_init_63 : decode cX6_init 63 = .ok (.newarray .boolean, 2) := by decide +kernel
theorem dX6_init_65 : decode cX6_init 65 = .ok (.putfield 32, 3) := by decide +kernel
theorem dX6_init_68 : decode cX6_init 68 = .ok (.aload_n 0, 1) := by decide +kernel
theorem dX6_init_69 : decode cX6_init 69 = .ok (.sipush 800, 3) := by decide +kernel
theorem dX6_init_72 : decode cX6_init 72 = .ok (.newarray .boolean, 2) := by decide +kernel
theorem dX6_init_74 : decode cX6_init 74 = .ok (.putfield 35, 3) := by decide +kernel
theorem dX6_init_77 : decode cX6_init 77 = .ok (.aload_n 0, 1) := by decide +kernel
theorem dX6_init_78 : decode cX6_init 78 = .ok (.sipush 800, 3) := by decide +kernel
theorem dX6_init_81 : decode cX6_init 81 = .ok (.newarray .int, 2) := by decide +kernel
theorem dX6_init_83 : decode cX6_init 83 = .ok (.putfield 38, 3) := by decide +kernel
theorem dX6_init_86 : decode cX6_init 86 = .ok (.aload_n 0, 1) := by decide +kernel
theorem dX6_init_87 : decode cX6_init 87 = .ok (.sipush 11264, 3) := by decide +kernel
theorem dX6_init_90 : decode cX6_init 90 = .ok (.newarray .int, 2) := by decide +kernel
theorem dX6_init_92 : decode cX6_init 92 = .ok (.putfield 41, 3) := by decide +kernel
theorem dX6_init_95 : decode cX6_init 95 = .ok (.aload_n 0, 1) := by decide +kernel
theorem dX6_init_96 : decode cX6_init 96 = .ok (.sipush 11264, 3) := by decide +kernel
theorem dX6_init_99 : decode cX6_init 99 = .ok (.newarray .int, 2) := by decide +kernel
theorem dX6_init_101 : decode cX6_init 101 = .ok (.putfield 44, 3) := by decide +kernel
theorem dX6_init_104 : decode cX6_init 104 = .ok (.aload_n 0, 1) := by decide +kernel
theorem dX6_init_105 : decode cX6_init 105 = .ok (.sipush 11264, 3) := by decide +kernel
theorem dX6_init_108 : decode cX6_init 108 = .ok (.newarray .int, 2) := by decide +kernel
theorem dX6_init_110 : decode cX6_init 110 = .ok (.putfield 47, 3) := by decide +kernel
theorem dX6_init_113 : decode cX6_init 113 = .ok (.aload_n 0, 1) := by decide +kernel
theorem dX6_init_114 : decode cX6_init 114 = .ok (.bipush 10, 2) := by decide +kernel
theorem dX6_init_116 : decode cX6_init 116 = .ok (.newarray .int, 2) := by decide +kernel
theorem dX6_init_118 : decode cX6_init 118 = .ok (.putfield 50, 3) := by decide +kernel
theorem dX6_init_121 : decode cX6_init 121 = .ok (.aload_n 0, 1) := by decide +kernel
theorem dX6_init_122 : decode cX6_init 122 = .ok (.bipush 10, 2) := by decide +kernel
theorem dX6_init_124 : decode cX6_init 124 = .ok (.newarray .int, 2) := by decide +kernel
theorem dX6_init_126 : decode cX6_init 126 = .ok (.putfield 53, 3) := by decide +kernel
theorem dX6_init_129 : decode cX6_init 129 = .ok (.aload_n 0, 1) := by decide +kernel
theorem dX6_init_130 : decode cX6_init 130 = .ok (.bipush 30, 2) := by decide +kernel
theorem dX6_init_132 : decode cX6_init 132 = .ok (.newarray .int, 2) := by decide +kernel
theorem dX6_init_134 : decode cX6_init 134 = .ok (.putfield 56, 3) := by decide +kernel
theorem dX6_init_137 : decode cX6_init 137 = .ok (.aload_n 0, 1) := by decide +kernel
theorem dX6_init_138 : decode cX6_init 138 = .ok (.sipush 300, 3) := by decide +kernel
theorem dX6_init_141 : decode cX6_init 141 = .ok (.newarray .int, 2) := by decide +kernel
theorem dX6_init_143 : decode cX6_init 143 = .ok (.putfield 59, 3) := by decide +kernel
theorem dX6_init_146 : decode cX6_init 146 = .ok (.aload_n 0, 1) := by decide +kernel
theorem dX6_init_147 : decode cX6_init 147 = .ok (.sipush 320, 3) := by decide +kernel
theorem dX6_init_150 : decode cX6_init 150 = .ok (.newarray .int, 2) := by decide +kernel
theorem dX6_init_152 : decode cX6_init 152 = .ok (.putfield 62, 3) := by decide +kernel
theorem dX6_init_155 : decode cX6_init 155 = .ok (.aload_n 0, 1) := by decide +kernel
theorem dX6_init_156 : decode cX6_init 156 = .ok (.sipush 3200, 3) := by decide +kernel
theorem dX6_init_159 : decode cX6_init 159 = .ok (.newarray .int, 2) := by decide +kernel
theorem dX6_init_161 : decode cX6_init 161 = .ok (.putfield 65, 3) := by decide +kernel
theorem dX6_init_164 : decode cX6_init 164 = .ok (.aload_n 0, 1) := by decide +kernel
theorem dX6_init_165 : decode cX6_init 165 = .ok (.sipush 320, 3) := by decide +kernel
theorem dX6_init_168 : decode cX6_init 168 = .ok (.newarray .int, 2) := by decide +kernel
theorem dX6_init_170 : decode cX6_init 170 = .ok (.putfield 68, 3) := by decide +kernel
theorem dX6_init_173 : decode cX6_init 173 = .ok (.aload_n 0, 1) := by decide +kernel
theorem dX6_init_174 : decode cX6_init 174 = .ok (.sipush 320, 3) := by decide +kernel
theorem dX6_init_177 : decode cX6_init 177 = .ok (.newarray .int, 2) := by decide +kernel
theorem dX6_init_179 : decode cX6_init 179 = .ok (.putfield 71, 3) := by decide +kernel
theorem dX6_init_182 : decode cX6_init 182 = .ok (.aload_n 0, 1) := by decide +kernel
theorem dX6_init_183 : decode cX6_init 183 = .ok (.bipush 10, 2) := by decide +kernel
theorem dX6_init_185 : decode cX6_init 185 = .ok (.newarray .int, 2) := by decide +kernel
theorem dX6_init_187 : decode cX6_init 187 = .ok (.putfield 74, 3) := by decide +kernel
theorem dX6_init_190 : decode cX6_init 190 = .ok (.return_, 1) := by decide +kernel
theorem dX6_thrown_0 : decode cX6_thrown 0 = .ok (.aload_n 0, 1) := by decide +kernel
theorem dX6_thrown_1 : decode cX6_thrown 1 = .ok (.getfield 77, 3) := by decide +kernel
theorem dX6_thrown_4 : decode cX6_thrown 4 = .ok (.ireturn, 1) := by decide +kernel
theorem dX6_fail_0 : decode cX6_fail 0 = .ok (.aload_n 0, 1) := by decide +kernel
theorem dX6_fail_1 : decode cX6_fail 1 = .ok (.iload_n 1, 1) := by decide +kernel
theorem dX6_fail_2 : decode cX6_fail 2 = .ok (.putfield 77, 3) := by decide +kernel
theorem dX6_fail_5 : decode cX6_fail 5 = .ok (.iconst 0, 1) := by decide +kernel
theorem dX6_fail_6 : decode cX6_fail 6 = .ok (.ireturn, 1) := by decide +kernel
theorem dX6_failed_0 : decode cX6_failed 0 = .ok (.aload_n 0, 1) := by decide +kernel
theorem dX6_failed_1 : decode cX6_failed 1 = .ok (.iload_n 1, 1) := by decide +kernel
theorem dX6_failed_2 : decode cX6_failed 2 = .ok (.putfield 77, 3) := by decide +kernel
theorem dX6_failed_5 : decode cX6_failed 5 = .ok (.iconst 0, 1) := by decide +kernel
theorem dX6_failed_6 : decode cX6_failed 6 = .ok (.ireturn, 1) := by decide +kernel
theorem dX6_isRow_0 : decode cX6_isRow 0 = .ok (.iload_n 1, 1) := by decide +kernel
theorem dX6_isRow_1 : decode cX6_isRow 1 = .ok (.ifCond .lt 15, 3) := by decide +kernel
theorem dX6_isRow_4 : decode cX6_isRow 4 = .ok (.iload_n 1, 1) := by decide +kernel
theorem dX6_isRow_5 : decode cX6_isRow 5 = .ok (.aload_n 0, 1) := by decide +kernel
theorem dX6_isRow_6 : decode cX6_isRow 6 = .ok (.getfield 81, 3) := by decide +kernel
theorem dX6_isRow_9 : decode cX6_isRow 9 = .ok (.if_icmp .ge 7, 3) := by decide +kernel
theorem dX6_isRow_12 : decode cX6_isRow 12 = .ok (.iconst 1, 1) := by decide +kernel
theorem dX6_isRow_13 : decode cX6_isRow 13 = .ok (.goto 4, 3) := by decide +kernel
theorem dX6_isRow_16 : decode cX6_isRow 16 = .ok (.iconst 0, 1) := by decide +kernel
theorem dX6_isRow_17 : decode cX6_isRow 17 = .ok (.ireturn, 1) := by decide +kernel
theorem dX6_isColumn_0 : decode cX6_isColumn 0 = .ok (.iload_n 1, 1) := by decide +kernel
theorem dX6_isColumn_1 : decode cX6_isColumn 1 = .ok (.ifCond .lt 15, 3) := by decide +kernel
theorem dX6_isColumn_4 : decode cX6_isColumn 4 = .ok (.iload_n 1, 1) := by decide +kernel
theorem dX6_isColumn_5 : decode cX6_isColumn 5 = .ok (.aload_n 0, 1) := by decide +kernel
theorem dX6_isColumn_6 : decode cX6_isColumn 6 = .ok (.getfield 84, 3) := by decide +kernel
theorem dX6_isColumn_9 : decode cX6_isColumn 9 = .ok (.if_icmp .ge 7, 3) := by decide +kernel
theorem dX6_isColumn_12 : decode cX6_isColumn 12 = .ok (.iconst 1, 1) := by decide +kernel
theorem dX6_isColumn_13 : decode cX6_isColumn 13 = .ok (.goto 4, 3) := by decide +kernel
theorem dX6_isColumn_16 : decode cX6_isColumn 16 = .ok (.iconst 0, 1) := by decide +kernel
theorem dX6_isColumn_17 : decode cX6_isColumn 17 = .ok (.ireturn, 1) := by decide +kernel
theorem dX6_isPair_0 : decode cX6_isPair 0 = .ok (.aload_n 0, 1) := by decide +kernel
theorem dX6_isPair_1 : decode cX6_isPair 1 = .ok (.iload_n 1, 1) := by decide +kernel
theorem dX6_isPair_2 : decode cX6_isPair 2 = .ok (.invokevirtual 87, 3) := by decide +kernel
theorem dX6_isPair_5 : decode cX6_isPair 5 = .ok (.ifCond .eq 15, 3) := by decide +kernel
theorem dX6_isPair_8 : decode cX6_isPair 8 = .ok (.aload_n 0, 1) := by decide +kernel
theorem dX6_isPair_9 : decode cX6_isPair 9 = .ok (.iload_n 2, 1) := by decide +kernel
theorem dX6_isPair_10 : decode cX6_isPair 10 = .ok (.invokevirtual 91, 3) := by decide +kernel
theorem dX6_isPair_13 : decode cX6_isPair 13 = .ok (.ifCond .eq 7, 3) := by decide +kernel
theorem dX6_isPair_16 : decode cX6_isPair 16 = .ok (.iconst 1, 1) := by decide +kernel
theorem dX6_isPair_17 : decode cX6_isPair 17 = .ok (.goto 4, 3) := by decide +kernel
theorem dX6_isPair_20 : decode cX6_isPair 20 = .ok (.iconst 0, 1) := by decide +kernel
theorem dX6_isPair_21 : decode cX6_isPair 21 = .ok (.ireturn, 1) := by decide +kernel
theorem dX6_isCost_0 : decode cX6_isCost 0 = .ok (.lload_n 0, 1) := by decide +kernel
theorem dX6_isCost_1 : decode cX6_isCost 1 = .ok (.ldc2_w 94, 3) := by decide +kernel
theorem dX6_isCost_4 : decode cX6_isCost 4 = .ok (.lcmp, 1) := by decide +kernel
theorem dX6_isCost_5 : decode cX6_isCost 5 = .ok (.ifCond .lt 15, 3) := by decide +kernel
theorem dX6_isCost_8 : decode cX6_isCost 8 = .ok (.lload_n 0, 1) := by decide +kernel
theorem dX6_isCost_9 : decode cX6_isCost 9 = .ok (.ldc2_w 96, 3) := by decide +kernel
theorem dX6_isCost_12 : decode cX6_isCost 12 = .ok (.lcmp, 1) := by decide +kernel
theorem dX6_isCost_13 : decode cX6_isCost 13 = .ok (.ifCond .gt 7, 3) := by decide +kernel
theorem dX6_isCost_16 : decode cX6_isCost 16 = .ok (.iconst 1, 1) := by decide +kernel
theorem dX6_isCost_17 : decode cX6_isCost 17 = .ok (.goto 4, 3) := by decide +kernel
theorem dX6_isCost_20 : decode cX6_isCost 20 = .ok (.iconst 0, 1) := by decide +kernel
theorem dX6_isCost_21 : decode cX6_isCost 21 = .ok (.ireturn, 1) := by decide +kernel
theorem dX6_isUsable_0 : decode cX6_isUsable 0 = .ok (.aload_n 0, 1) := by decide +kernel
theorem dX6_isUsable_1 : decode cX6_isUsable 1 = .ok (.getfield 16, 3) := by decide +kernel
theorem dX6_isUsable_4 : decode cX6_isUsable 4 = .ok (.bipush 10, 2) := by decide +kernel
theorem dX6_isUsable_6 : decode cX6_isUsable 6 = .ok (.iload_n 1, 1) := by decide +kernel
theorem dX6_isUsable_7 : decode cX6_isUsable 7 = .ok (.imul, 1) := by decide +kernel
theorem dX6_isUsable_8 : decode cX6_isUsable 8 = .ok (.iload_n 2, 1) := by decide +kernel
theorem dX6_isUsable_9 : decode cX6_isUsable 9 = .ok (.iadd, 1) := by decide +kernel
theorem dX6_isUsable_10 : decode cX6_isUsable 10 = .ok (.baload, 1) := by decide +kernel
theorem dX6_isUsable_11 : decode cX6_isUsable 11 = .ok (.ifCond .eq 25, 3) := by decide +kernel
theorem dX6_isUsable_14 : decode cX6_isUsable 14 = .ok (.aload_n 0, 1) := by decide +kernel
theorem dX6_isUsable_15 : decode cX6_isUsable 15 = .ok (.getfield 9, 3) := by decide +kernel
theorem dX6_isUsable_18 : decode cX6_isUsable 18 = .ok (.iload_n 1, 1) := by decide +kernel
theorem dX6_isUsable_19 : decode cX6_isUsable 19 = .ok (.baload, 1) := by decide +kernel
theorem dX6_isUsable_20 : decode cX6_isUsable 20 = .ok (.ifCond .eq 16, 3) := by decide +kernel
theorem dX6_isUsable_23 : decode cX6_isUsable 23 = .ok (.aload_n 0, 1) := by decide +kernel
theorem dX6_isUsable_24 : decode cX6_isUsable 24 = .ok (.getfield 13, 3) := by decide +kernel
theorem dX6_isUsable_27 : decode cX6_isUsable 27 = .ok (.iload_n 2, 1) := by decide +kernel
theorem dX6_isUsable_28 : decode cX6_isUsable 28 = .ok (.baload, 1) := by decide +kernel
theorem dX6_isUsable_29 : decode cX6_isUsable 29 = .ok (.ifCond .eq 7, 3) := by decide +kernel
theorem dX6_isUsable_32 : decode cX6_isUsable 32 = .ok (.iconst 1, 1) := by decide +kernel
theorem dX6_isUsable_33 : decode cX6_isUsable 33 = .ok (.goto 4, 3) := by decide +kernel
theorem dX6_isUsable_36 : decode cX6_isUsable 36 = .ok (.iconst 0, 1) := by decide +kernel
theorem dX6_isUsable_37 : decode cX6_isUsable 37 = .ok (.ireturn, 1) := by decide +kernel
theorem dX6_addRow_0 : decode cX6_addRow 0 = .ok (.aload_n 0, 1) := by decide +kernel
theorem dX6_addRow_1 : decode cX6_addRow 1 = .ok (.iconst 0, 1) := by decide +kernel
theorem dX6_addRow_2 : decode cX6_addRow 2 = .ok (.putfield 77, 3) := by decide +kernel
theorem dX6_addRow_5 : decode cX6_addRow 5 = .ok (.aload_n 0, 1) := by decide +kernel
theorem dX6_addRow_6 : decode cX6_addRow 6 = .ok (.getfield 81, 3) := by decide +kernel
theorem dX6_addRow_9 : decode cX6_addRow 9 = .ok (.bipush 10, 2) := by decide +kernel
theorem dX6_addRow_11 : decode cX6_addRow 11 = .ok (.if_icmp .ne 9, 3) := by decide +kernel
theorem dX6_addRow_14 : decode cX6_addRow 14 = .ok (.aload_n 0, 1) := by decide +kernel
theorem dX6_addRow_15 : decode cX6_addRow 15 = .ok (.iconst 1, 1) := by decide +kernel
theorem dX6_addRow_16 : decode cX6_addRow 16 = .ok (.invokevirtual 98, 3) := by decide +kernel
theorem dX6_addRow_19 : decode cX6_addRow 19 = .ok (.ireturn, 1) := by decide +kernel
theorem dX6_addRow_20 : decode cX6_addRow 20 = .ok (.aload_n 0, 1) := by decide +kernel
theorem dX6_addRow_21 : decode cX6_addRow 21 = .ok (.getfield 9, 3) := by decide +kernel
theorem dX6_addRow_24 : decode cX6_addRow 24 = .ok (.aload_n 0, 1) := by decide +kernel
theorem dX6_addRow_25 : decode cX6_addRow 25 = .ok (.getfield 81, 3) := by decide +kernel
theorem dX6_addRow_28 : decode cX6_addRow 28 = .ok (.iconst 1, 1) := by decide +kernel
theorem dX6_addRow_29 : decode cX6_addRow 29 = .ok (.bastore, 1) := by decide +kernel
theorem dX6_addRow_30 : decode cX6_addRow 30 = .ok (.aload_n 0, 1) := by decide +kernel
theorem dX6_addRow_31 : decode cX6_addRow 31 = .ok (.dup, 1) := by decide +kernel
theorem dX6_addRow_32 : decode cX6_addRow 32 = .ok (.getfield 81, 3) := by decide +kernel
theorem dX6_addRow_35 : decode cX6_addRow 35 = .ok (.iconst 1, 1) := by decide +kernel
theorem dX6_addRow_36 : decode cX6_addRow 36 = .ok (.iadd, 1) := by decide +kernel
theorem dX6_addRow_37 : decode cX6_addRow 37 = .ok (.putfield 81, 3) := by decide +kernel
theorem dX6_addRow_40 : decode cX6_addRow 40 = .ok (.aload_n 0, 1) := by decide +kernel
theorem dX6_addRow_41 : decode cX6_addRow 41 = .ok (.getfield 81, 3) := by decide +kernel
theorem dX6_addRow_44 : decode cX6_addRow 44 = .ok (.iconst 1, 1) := by decide +kernel
theorem dX6_addRow_45 : decode cX6_addRow 45 = .ok (.isub, 1) := by decide +kernel
theorem dX6_addRow_46 : decode cX6_addRow 46 = .ok (.ireturn, 1) := by decide +kernel
theorem dX6_addColumn_0 : decode cX6_addColumn 0 = .ok (.aload_n 0, 1) := by decide +kernel
theorem dX6_addColumn_1 : decode cX6_addColumn 1 = .ok (.iconst 0, 1) := by decide +kernel
theorem dX6_addColumn_2 : decode cX6_addColumn 2 = .ok (.putfield 77, 3) := by decide +kernel
theorem dX6_addColumn_5 : decode cX6_addColumn 5 = .ok (.aload_n 0, 1) := by decide +kernel
theorem dX6_addColumn_6 : decode cX6_addColumn 6 = .ok (.getfield 84, 3) := by decide +kernel
theorem dX6_addColumn_9 : decode cX6_addColumn 9 = .ok (.bipush 10, 2) := by decide +kernel
theorem dX6_addColumn_11 : decode cX6_addColumn 11 = .ok (.if_icmp .ne 9, 3) := by decide +kernel
theorem dX6_addColumn_14 : decode cX6_addColumn 14 = .ok (.aload_n 0, 1) := by decide +kernel
theorem dX6_addColumn_15 : decode cX6_addColumn 15 = .ok (.iconst 1, 1) := by decide +kernel
theorem dX6_addColumn_16 : decode cX6_addColumn 16 = .ok (.invokevirtual 98, 3) := by decide +kernel
theorem dX6_addColumn_19 : decode cX6_addColumn 19 = .ok (.ireturn, 1) := by decide +kernel
theorem dX6_addColumn_20 : decode cX6_addColumn 20 = .ok (.aload_n 0, 1) := by decide +kernel
theorem dX6_addColumn_21 : decode cX6_addColumn 21 = .ok (.getfield 13, 3) := by decide +kernel
theorem dX6_addColumn_24 : decode cX6_addColumn 24 = .ok (.aload_n 0, 1) := by decide +kernel
theorem dX6_addColumn_25 : decode cX6_addColumn 25 = .ok (.getfield 84, 3) := by decide +kernel
theorem dX6_addColumn_28 : decode cX6_addColumn 28 = .ok (.iconst 1, 1) := by decide +kernel
theorem dX6_addColumn_29 : decode cX6_addColumn 29 = .ok (.bastore, 1) := by decide +kernel
theorem dX6_addColumn_30 : decode cX6_addColumn 30 = .ok (.aload_n 0, 1) := by decide +kernel
theorem dX6_addColumn_31 : decode cX6_addColumn 31 = .ok (.dup, 1) := by decide +kernel
theorem dX6_addColumn_32 : decode cX6_addColumn 32 = .ok (.getfield 84, 3) := by decide +kernel
theorem dX6_addColumn_35 : decode cX6_addColumn 35 = .ok (.iconst 1, 1) := by decide +kernel
theorem dX6_addColumn_36 : decode cX6_addColumn 36 = .ok (.iadd, 1) := by decide +kernel
theorem dX6_addColumn_37 : decode cX6_addColumn 37 = .ok (.putfield 84, 3) := by decide +kernel
theorem dX6_addColumn_40 : decode cX6_addColumn 40 = .ok (.aload_n 0, 1) := by decide +kernel
theorem dX6_addColumn_41 : decode cX6_addColumn 41 = .ok (.getfield 84, 3) := by decide +kernel
theorem dX6_addColumn_44 : decode cX6_addColumn 44 = .ok (.iconst 1, 1) := by decide +kernel
theorem dX6_addColumn_45 : decode cX6_addColumn 45 = .ok (.isub, 1) := by decide +kernel
theorem dX6_addColumn_46 : decode cX6_addColumn 46 = .ok (.ireturn, 1) := by decide +kernel
theorem dX6_setRow_0 : decode cX6_setRow 0 = .ok (.aload_n 0, 1) := by decide +kernel
theorem dX6_setRow_1 : decode cX6_setRow 1 = .ok (.iconst 0, 1) := by decide +kernel
theorem dX6_setRow_2 : decode cX6_setRow 2 = .ok (.putfield 77, 3) := by decide +kernel
theorem dX6_setRow_5 : decode cX6_setRow 5 = .ok (.aload_n 0, 1) := by decide +kernel
theorem dX6_setRow_6 : decode cX6_setRow 6 = .ok (.iload_n 1, 1) := by decide +kernel
theorem dX6_setRow_7 : decode cX6_setRow 7 = .ok (.invokevirtual 87, 3) := by decide +kernel
theorem dX6_setRow_10 : decode cX6_setRow 10 = .ok (.ifCond .ne 9, 3) := by decide +kernel
theorem dX6_setRow_13 : decode cX6_setRow 13 = .ok (.aload_n 0, 1) := by decide +kernel
theorem dX6_setRow_14 : decode cX6_setRow 14 = .ok (.iconst 1, 1) := by decide +kernel
theorem dX6_setRow_15 : decode cX6_setRow 15 = .ok (.invokevirtual 102, 3) := by decide +kernel
theorem dX6_setRow_18 : decode cX6_setRow 18 = .ok (.ireturn, 1) := by decide +kernel
theorem dX6_setRow_19 : decode cX6_setRow 19 = .ok (.aload_n 0, 1) := by decide +kernel
theorem dX6_setRow_20 : decode cX6_setRow 20 = .ok (.getfield 9, 3) := by decide +kernel
theorem dX6_setRow_23 : decode cX6_setRow 23 = .ok (.iload_n 1, 1) := by decide +kernel
theorem dX6_setRow_24 : decode cX6_setRow 24 = .ok (.baload, 1) := by decide +kernel
theorem dX6_setRow_25 : decode cX6_setRow 25 = .ok (.istore_n 3, 1) := by decide +kernel
theorem dX6_setRow_26 : decode cX6_setRow 26 = .ok (.aload_n 0, 1) := by decide +kernel
theorem dX6_setRow_27 : decode cX6_setRow 27 = .ok (.getfield 9, 3) := by decide +kernel
theorem dX6_setRow_30 : decode cX6_setRow 30 = .ok (.iload_n 1, 1) := by decide +kernel
theorem dX6_setRow_31 : decode cX6_setRow 31 = .ok (.iload_n 2, 1) := by decide +kernel
theorem dX6_setRow_32 : decode cX6_setRow 32 = .ok (.bastore, 1) := by decide +kernel
theorem dX6_setRow_33 : decode cX6_setRow 33 = .ok (.iload_n 3, 1) := by decide +kernel
theorem dX6_setRow_34 : decode cX6_setRow 34 = .ok (.ireturn, 1) := by decide +kernel
theorem dX6_setColumn_0 : decode cX6_setColumn 0 = .ok (.aload_n 0, 1) := by decide +kernel
end
section
theorem dX6_setColumn_1 : decode cX6_setColumn 1 = .ok (.iconst 0, 1) := by decide +kernel
theorem dX6_setColumn_2 : decode cX6_setColumn 2 = .ok (.putfield 77, 3) := by decide +kernel
theorem dX6_setColumn_5 : decode cX6_setColumn 5 = .ok (.aload_n 0, 1) := by decide +kernel
theorem dX6_setColumn_6 : decode cX6_setColumn 6 = .ok (.iload_n 1, 1) := by decide +kernel
theorem dX6_setColumn_7 : decode cX6_setColumn 7 = .ok (.invokevirtual 91, 3) := by decide +kernel
theorem dX6_setColumn_10 : decode cX6_setColumn 10 = .ok (.ifCond .ne 9, 3) := by decide +kernel
theorem dX6_setColumn_13 : decode cX6_setColumn 13 = .ok (.aload_n 0, 1) := by decide +kernel
theorem dX6_setColumn_14 : decode cX6_setColumn 14 = .ok (.iconst 1, 1) := by decide +kernel
theorem dX6_setColumn_15 : decode cX6_setColumn 15 = .ok (.invokevirtual 102, 3) := by decide +kernel
theorem dX6_setColumn_18 : decode cX6_setColumn 18 = .ok (.ireturn, 1) := by decide +kernel
theorem dX6_setColumn_19 : decode cX6_setColumn 19 = .ok (.aload_n 0, 1) := by decide +kernel
theorem dX6_setColumn_20 : decode cX6_setColumn 20 = .ok (.getfield 13, 3) := by decide +kernel
theorem dX6_setColumn_23 : decode cX6_setColumn 23 = .ok (.iload_n 1, 1) := by decide +kernel
theorem dX6_setColumn_24 : decode cX6_setColumn 24 = .ok (.baload, 1) := by decide +kernel
theorem dX6_setColumn_25 : decode cX6_setColumn 25 = .ok (.istore_n 3, 1) := by decide +kernel
theorem dX6_setColumn_26 : decode cX6_setColumn 26 = .ok (.aload_n 0, 1) := by decide +kernel
theorem dX6_setColumn_27 : decode cX6_setColumn 27 = .ok (.getfield 13, 3) := by decide +kernel
theorem dX6_setColumn_30 : decode cX6_setColumn 30 = .ok (.iload_n 1, 1) := by decide +kernel
theorem dX6_setColumn_31 : decode cX6_setColumn 31 = .ok (.iload_n 2, 1) := by decide +kernel
theorem dX6_setColumn_32 : decode cX6_setColumn 32 = .ok (.bastore, 1) := by decide +kernel
theorem dX6_setColumn_33 : decode cX6_setColumn 33 = .ok (.iload_n 3, 1) := by decide +kernel
theorem dX6_setColumn_34 : decode cX6_setColumn 34 = .ok (.ireturn, 1) := by decide +kernel
theorem dX6_setCost_0 : decode cX6_setCost 0 = .ok (.aload_n 0, 1) := by decide +kernel
theorem dX6_setCost_1 : decode cX6_setCost 1 = .ok (.iconst 0, 1) := by decide +kernel
theorem dX6_setCost_2 : decode cX6_setCost 2 = .ok (.putfield 77, 3) := by decide +kernel
theorem dX6_setCost_5 : decode cX6_setCost 5 = .ok (.aload_n 0, 1) := by decide +kernel
theorem dX6_setCost_6 : decode cX6_setCost 6 = .ok (.iload_n 1, 1) := by decide +kernel
theorem dX6_setCost_7 : decode cX6_setCost 7 = .ok (.iload_n 2, 1) := by decide +kernel
theorem dX6_setCost_8 : decode cX6_setCost 8 = .ok (.invokevirtual 105, 3) := by decide +kernel
theorem dX6_setCost_11 : decode cX6_setCost 11 = .ok (.ifCond .ne 9, 3) := by decide +kernel
theorem dX6_setCost_14 : decode cX6_setCost 14 = .ok (.aload_n 0, 1) := by decide +kernel
theorem dX6_setCost_15 : decode cX6_setCost 15 = .ok (.iconst 1, 1) := by decide +kernel
theorem dX6_setCost_16 : decode cX6_setCost 16 = .ok (.invokevirtual 102, 3) := by decide +kernel
theorem dX6_setCost_19 : decode cX6_setCost 19 = .ok (.ireturn, 1) := by decide +kernel
theorem dX6_setCost_20 : decode cX6_setCost 20 = .ok (.iload_n 3, 1) := by decide +kernel
theorem dX6_setCost_21 : decode cX6_setCost 21 = .ok (.i2l, 1) := by decide +kernel
theorem dX6_setCost_22 : decode cX6_setCost 22 = .ok (.invokestatic 109, 3) := by decide +kernel
theorem dX6_setCost_25 : decode cX6_setCost 25 = .ok (.ifCond .ne 9, 3) := by decide +kernel
theorem dX6_setCost_28 : decode cX6_setCost 28 = .ok (.aload_n 0, 1) := by decide +kernel
theorem dX6_setCost_29 : decode cX6_setCost 29 = .ok (.iconst 2, 1) := by decide +kernel
theorem dX6_setCost_30 : decode cX6_setCost 30 = .ok (.invokevirtual 102, 3) := by decide +kernel
theorem dX6_setCost_33 : decode cX6_setCost 33 = .ok (.ireturn, 1) := by decide +kernel
theorem dX6_setCost_34 : decode cX6_setCost 34 = .ok (.aload_n 0, 1) := by decide +kernel
theorem dX6_setCost_35 : decode cX6_setCost 35 = .ok (.getfield 16, 3) := by decide +kernel
theorem dX6_setCost_38 : decode cX6_setCost 38 = .ok (.bipush 10, 2) := by decide +kernel
theorem dX6_setCost_40 : decode cX6_setCost 40 = .ok (.iload_n 1, 1) := by decide +kernel
theorem dX6_setCost_41 : decode cX6_setCost 41 = .ok (.imul, 1) := by decide +kernel
theorem dX6_setCost_42 : decode cX6_setCost 42 = .ok (.iload_n 2, 1) := by decide +kernel
theorem dX6_setCost_43 : decode cX6_setCost 43 = .ok (.iadd, 1) := by decide +kernel
theorem dX6_setCost_44 : decode cX6_setCost 44 = .ok (.baload, 1) := by decide +kernel
theorem dX6_setCost_45 : decode cX6_setCost 45 = .ok (.istore 4, 2) := by decide +kernel
theorem dX6_setCost_47 : decode cX6_setCost 47 = .ok (.aload_n 0, 1) := by decide +kernel
theorem dX6_setCost_48 : decode cX6_setCost 48 = .ok (.getfield 16, 3) := by decide +kernel
theorem dX6_setCost_51 : decode cX6_setCost 51 = .ok (.bipush 10, 2) := by decide +kernel
theorem dX6_setCost_53 : decode cX6_setCost 53 = .ok (.iload_n 1, 1) := by decide +kernel
theorem dX6_setCost_54 : decode cX6_setCost 54 = .ok (.imul, 1) := by decide +kernel
theorem dX6_setCost_55 : decode cX6_setCost 55 = .ok (.iload_n 2, 1) := by decide +kernel
theorem dX6_setCost_56 : decode cX6_setCost 56 = .ok (.iadd, 1) := by decide +kernel
theorem dX6_setCost_57 : decode cX6_setCost 57 = .ok (.iconst 1, 1) := by decide +kernel
theorem dX6_setCost_58 : decode cX6_setCost 58 = .ok (.bastore, 1) := by decide +kernel
theorem dX6_setCost_59 : decode cX6_setCost 59 = .ok (.aload_n 0, 1) := by decide +kernel
theorem dX6_setCost_60 : decode cX6_setCost 60 = .ok (.getfield 19, 3) := by decide +kernel
theorem dX6_setCost_63 : decode cX6_setCost 63 = .ok (.bipush 10, 2) := by decide +kernel
theorem dX6_setCost_65 : decode cX6_setCost 65 = .ok (.iload_n 1, 1) := by decide +kernel
theorem dX6_setCost_66 : decode cX6_setCost 66 = .ok (.imul, 1) := by decide +kernel
theorem dX6_setCost_67 : decode cX6_setCost 67 = .ok (.iload_n 2, 1) := by decide +kernel
theorem dX6_setCost_68 : decode cX6_setCost 68 = .ok (.iadd, 1) := by decide +kernel
theorem dX6_setCost_69 : decode cX6_setCost 69 = .ok (.iload_n 3, 1) := by decide +kernel
theorem dX6_setCost_70 : decode cX6_setCost 70 = .ok (.iastore, 1) := by decide +kernel
theorem dX6_setCost_71 : decode cX6_setCost 71 = .ok (.iload 4, 2) := by decide +kernel
theorem dX6_setCost_73 : decode cX6_setCost 73 = .ok (.ireturn, 1) := by decide +kernel
theorem dX6_forbid_0 : decode cX6_forbid 0 = .ok (.aload_n 0, 1) := by decide +kernel
theorem dX6_forbid_1 : decode cX6_forbid 1 = .ok (.iconst 0, 1) := by decide +kernel
theorem dX6_forbid_2 : decode cX6_forbid 2 = .ok (.putfield 77, 3) := by decide +kernel
theorem dX6_forbid_5 : decode cX6_forbid 5 = .ok (.aload_n 0, 1) := by decide +kernel
theorem dX6_forbid_6 : decode cX6_forbid 6 = .ok (.iload_n 1, 1) := by decide +kernel
theorem dX6_forbid_7 : decode cX6_forbid 7 = .ok (.iload_n 2, 1) := by decide +kernel
theorem dX6_forbid_8 : decode cX6_forbid 8 = .ok (.invokevirtual 105, 3) := by decide +kernel
theorem dX6_forbid_11 : decode cX6_forbid 11 = .ok (.ifCond .ne 9, 3) := by decide +kernel
theorem dX6_forbid_14 : decode cX6_forbid 14 = .ok (.aload_n 0, 1) := by decide +kernel
theorem dX6_forbid_15 : decode cX6_forbid 15 = .ok (.iconst 1, 1) := by decide +kernel
theorem dX6_forbid_16 : decode cX6_forbid 16 = .ok (.invokevirtual 102, 3) := by decide +kernel
theorem dX6_forbid_19 : decode cX6_forbid 19 = .ok (.ireturn, 1) := by decide +kernel
theorem dX6_forbid_20 : decode cX6_forbid 20 = .ok (.aload_n 0, 1) := by decide +kernel
theorem dX6_forbid_21 : decode cX6_forbid 21 = .ok (.getfield 16, 3) := by decide +kernel
theorem dX6_forbid_24 : decode cX6_forbid 24 = .ok (.bipush 10, 2) := by decide +kernel
theorem dX6_forbid_26 : decode cX6_forbid 26 = .ok (.iload_n 1, 1) := by decide +kernel
theorem dX6_forbid_27 : decode cX6_forbid 27 = .ok (.imul, 1) := by decide +kernel
theorem dX6_forbid_28 : decode cX6_forbid 28 = .ok (.iload_n 2, 1) := by decide +kernel
theorem dX6_forbid_29 : decode cX6_forbid 29 = .ok (.iadd, 1) := by decide +kernel
theorem dX6_forbid_30 : decode cX6_forbid 30 = .ok (.baload, 1) := by decide +kernel
theorem dX6_forbid_31 : decode cX6_forbid 31 = .ok (.istore_n 3, 1) := by decide +kernel
theorem dX6_forbid_32 : decode cX6_forbid 32 = .ok (.aload_n 0, 1) := by decide +kernel
theorem dX6_forbid_33 : decode cX6_forbid 33 = .ok (.getfield 16, 3) := by decide +kernel
theorem dX6_forbid_36 : decode cX6_forbid 36 = .ok (.bipush 10, 2) := by decide +kernel
theorem dX6_forbid_38 : decode cX6_forbid 38 = .ok (.iload_n 1, 1) := by decide +kernel
theorem dX6_forbid_39 : decode cX6_forbid 39 = .ok (.imul, 1) := by decide +kernel
theorem dX6_forbid_40 : decode cX6_forbid 40 = .ok (.iload_n 2, 1) := by decide +kernel
theorem dX6_forbid_41 : decode cX6_forbid 41 = .ok (.iadd, 1) := by decide +kernel
theorem dX6_forbid_42 : decode cX6_forbid 42 = .ok (.iconst 0, 1) := by decide +kernel
theorem dX6_forbid_43 : decode cX6_forbid 43 = .ok (.bastore, 1) := by decide +kernel
theorem dX6_forbid_44 : decode cX6_forbid 44 = .ok (.iload_n 3, 1) := by decide +kernel
theorem dX6_forbid_45 : decode cX6_forbid 45 = .ok (.ireturn, 1) := by decide +kernel
theorem dX6_addToRow_0 : decode cX6_addToRow 0 = .ok (.aload_n 0, 1) := by decide +kernel
theorem dX6_addToRow_1 : decode cX6_addToRow 1 = .ok (.iconst 0, 1) := by decide +kernel
theorem dX6_addToRow_2 : decode cX6_addToRow 2 = .ok (.putfield 77, 3) := by decide +kernel
theorem dX6_addToRow_5 : decode cX6_addToRow 5 = .ok (.aload_n 0, 1) := by decide +kernel
theorem dX6_addToRow_6 : decode cX6_addToRow 6 = .ok (.iload_n 1, 1) := by decide +kernel
theorem dX6_addToRow_7 : decode cX6_addToRow 7 = .ok (.invokevirtual 87, 3) := by decide +kernel
theorem dX6_addToRow_10 : decode cX6_addToRow 10 = .ok (.ifCond .ne 9, 3) := by decide +kernel
theorem dX6_addToRow_13 : decode cX6_addToRow 13 = .ok (.aload_n 0, 1) := by decide +kernel
theorem dX6_addToRow_14 : decode cX6_addToRow 14 = .ok (.iconst 1, 1) := by decide +kernel
theorem dX6_addToRow_15 : decode cX6_addToRow 15 = .ok (.invokevirtual 98, 3) := by decide +kernel
theorem dX6_addToRow_18 : decode cX6_addToRow 18 = .ok (.ireturn, 1) := by decide +kernel
theorem dX6_addToRow_19 : decode cX6_addToRow 19 = .ok (.iconst 0, 1) := by decide +kernel
theorem dX6_addToRow_20 : decode cX6_addToRow 20 = .ok (.istore_n 3, 1) := by decide +kernel
theorem dX6_addToRow_21 : decode cX6_addToRow 21 = .ok (.iconst 0, 1) := by decide +kernel
theorem dX6_addToRow_22 : decode cX6_addToRow 22 = .ok (.istore 4, 2) := by decide +kernel
theorem dX6_addToRow_24 : decode cX6_addToRow 24 = .ok (.iload 4, 2) := by decide +kernel
theorem dX6_addToRow_26 : decode cX6_addToRow 26 = .ok (.aload_n 0, 1) := by decide +kernel
theorem dX6_addToRow_27 : decode cX6_addToRow 27 = .ok (.getfield 84, 3) := by decide +kernel
theorem dX6_addToRow_30 : decode cX6_addToRow 30 = .ok (.if_icmp .ge 58, 3) := by decide +kernel
theorem dX6_addToRow_33 : decode cX6_addToRow 33 = .ok (.aload_n 0, 1) := by decide +kernel
theorem dX6_addToRow_34 : decode cX6_addToRow 34 = .ok (.getfield 16, 3) := by decide +kernel
theorem dX6_addToRow_37 : decode cX6_addToRow 37 = .ok (.bipush 10, 2) := by decide +kernel
theorem dX6_addToRow_39 : decode cX6_addToRow 39 = .ok (.iload_n 1, 1) := by decide +kernel
theorem dX6_addToRow_40 : decode cX6_addToRow 40 = .ok (.imul, 1) := by decide +kernel
theorem dX6_addToRow_41 : decode cX6_addToRow 41 = .ok (.iload 4, 2) := by decide +kernel
theorem dX6_addToRow_43 : decode cX6_addToRow 43 = .ok (.iadd, 1) := by decide +kernel
theorem dX6_addToRow_44 : decode cX6_addToRow 44 = .ok (.baload, 1) := by decide +kernel
theorem dX6_addToRow_45 : decode cX6_addToRow 45 = .ok (.ifCond .ne 6, 3) := by decide +kernel
theorem dX6_addToRow_48 : decode cX6_addToRow 48 = .ok (.goto 34, 3) := by decide +kernel
theorem dX6_addToRow_51 : decode cX6_addToRow 51 = .ok (.aload_n 0, 1) := by decide +kernel
theorem dX6_addToRow_52 : decode cX6_addToRow 52 = .ok (.getfield 19, 3) := by decide +kernel
theorem dX6_addToRow_55 : decode cX6_addToRow 55 = .ok (.bipush 10, 2) := by decide +kernel
theorem dX6_addToRow_57 : decode cX6_addToRow 57 = .ok (.iload_n 1, 1) := by decide +kernel
theorem dX6_addToRow_58 : decode cX6_addToRow 58 = .ok (.imul, 1) := by decide +kernel
theorem dX6_addToRow_59 : decode cX6_addToRow 59 = .ok (.iload 4, 2) := by decide +kernel
theorem dX6_addToRow_61 : decode cX6_addToRow 61 = .ok (.iadd, 1) := by decide +kernel
theorem dX6_addToRow_62 : decode cX6_addToRow 62 = .ok (.iaload, 1) := by decide +kernel
theorem dX6_addToRow_63 : decode cX6_addToRow 63 = .ok (.i2l, 1) := by decide +kernel
theorem dX6_addToRow_64 : decode cX6_addToRow 64 = .ok (.iload_n 2, 1) := by decide +kernel
theorem dX6_addToRow_65 : decode cX6_addToRow 65 = .ok (.i2l, 1) := by decide +kernel
theorem dX6_addToRow_66 : decode cX6_addToRow 66 = .ok (.ladd, 1) := by decide +kernel
theorem dX6_addToRow_67 : decode cX6_addToRow 67 = .ok (.invokestatic 109, 3) := by decide +kernel
theorem dX6_addToRow_70 : decode cX6_addToRow 70 = .ok (.ifCond .ne 9, 3) := by decide +kernel
theorem dX6_addToRow_73 : decode cX6_addToRow 73 = .ok (.aload_n 0, 1) := by decide +kernel
theorem dX6_addToRow_74 : decode cX6_addToRow 74 = .ok (.iconst 2, 1) := by decide +kernel
theorem dX6_addToRow_75 : decode cX6_addToRow 75 = .ok (.invokevirtual 98, 3) := by decide +kernel
theorem dX6_addToRow_78 : decode cX6_addToRow 78 = .ok (.ireturn, 1) := by decide +kernel
theorem dX6_addToRow_79 : decode cX6_addToRow 79 = .ok (.iinc 3 1, 3) := by decide +kernel
theorem dX6_addToRow_82 : decode cX6_addToRow 82 = .ok (.iinc 4 1, 3) := by decide +kernel
theorem dX6_addToRow_85 : decode cX6_addToRow 85 = .ok (.goto (-61), 3) := by decide +kernel
theorem dX6_addToRow_88 : decode cX6_addToRow 88 = .ok (.iconst 0, 1) := by decide +kernel
theorem dX6_addToRow_89 : decode cX6_addToRow 89 = .ok (.istore 4, 2) := by decide +kernel
theorem dX6_addToRow_91 : decode cX6_addToRow 91 = .ok (.iload 4, 2) := by decide +kernel
theorem dX6_addToRow_93 : decode cX6_addToRow 93 = .ok (.aload_n 0, 1) := by decide +kernel
theorem dX6_addToRow_94 : decode cX6_addToRow 94 = .ok (.getfield 84, 3) := by decide +kernel
theorem dX6_addToRow_97 : decode cX6_addToRow 97 = .ok (.if_icmp .ge 40, 3) := by decide +kernel
theorem dX6_addToRow_100 : decode cX6_addToRow 100 = .ok (.aload_n 0, 1) := by decide +kernel
theorem dX6_addToRow_101 : decode cX6_addToRow 101 = .ok (.getfield 16, 3) := by decide +kernel
theorem dX6_addToRow_104 : decode cX6_addToRow 104 = .ok (.bipush 10, 2) := by decide +kernel
theorem dX6_addToRow_106 : decode cX6_addToRow 106 = .ok (.iload_n 1, 1) := by decide +kernel
theorem dX6_addToRow_107 : decode cX6_addToRow 107 = .ok (.imul, 1) := by decide +kernel
theorem dX6_addToRow_108 : decode cX6_addToRow 108 = .ok (.iload 4, 2) := by decide +kernel
theorem dX6_addToRow_110 : decode cX6_addToRow 110 = .ok (.iadd, 1) := by decide +kernel
theorem dX6_addToRow_111 : decode cX6_addToRow 111 = .ok (.baload, 1) := by decide +kernel
theorem dX6_addToRow_112 : decode cX6_addToRow 112 = .ok (.ifCond .eq 19, 3) := by decide +kernel
theorem dX6_addToRow_115 : decode cX6_addToRow 115 = .ok (.aload_n 0, 1) := by decide +kernel
theorem dX6_addToRow_116 : decode cX6_addToRow 116 = .ok (.getfield 19, 3) := by decide +kernel
theorem dX6_addToRow_119 : decode cX6_addToRow 119 = .ok (.bipush 10, 2) := by decide +kernel
theorem dX6_addToRow_121 : decode cX6_addToRow 121 = .ok (.iload_n 1, 1) := by decide +kernel
theorem dX6_addToRow_122 : decode cX6_addToRow 122 = .ok (.imul, 1) := by decide +kernel
theorem dX6_addToRow_123 : decode cX6_addToRow 123 = .ok (.iload 4, 2) := by decide +kernel
theorem dX6_addToRow_125 : decode cX6_addToRow 125 = .ok (.iadd, 1) := by decide +kernel
theorem dX6_addToRow_126 : decode cX6_addToRow 126 = .ok (.dup2, 1) := by decide +kernel
theorem dX6_addToRow_127 : decode cX6_addToRow 127 = .ok (.iaload, 1) := by decide +kernel
theorem dX6_addToRow_128 : decode cX6_addToRow 128 = .ok (.iload_n 2, 1) := by decide +kernel
theorem dX6_addToRow_129 : decode cX6_addToRow 129 = .ok (.iadd, 1) := by decide +kernel
theorem dX6_addToRow_130 : decode cX6_addToRow 130 = .ok (.iastore, 1) := by decide +kernel
theorem dX6_addToRow_131 : decode cX6_addToRow 131 = .ok (.iinc 4 1, 3) := by decide +kernel
theorem dX6_addToRow_134 : decode cX6_addToRow 134 = .ok (.goto (-43), 3) := by decide +kernel
theorem dX6_addToRow_137 : decode cX6_addToRow 137 = .ok (.iload_n 3, 1) := by decide +kernel
theorem dX6_addToRow_138 : decode cX6_addToRow 138 = .ok (.ireturn, 1) := by decide +kernel
theorem dX6_scaleColumn_0 : decode cX6_scaleColumn 0 = .ok (.aload_n 0, 1) := by decide +kernel
theorem dX6_scaleColumn_1 : decode cX6_scaleColumn 1 = .ok (.iconst 0, 1) := by decide +kernel
theorem dX6_scaleColumn_2 : decode cX6_scaleColumn 2 = .ok (.putfield 77, 3) := by decide +kernel
theorem dX6_scaleColumn_5 : decode cX6_scaleColumn 5 = .ok (.aload_n 0, 1) := by decide +kernel
theorem dX6_scaleColumn_6 : decode cX6_scaleColumn 6 = .ok (.iload_n 1, 1) := by decide +kernel
theorem dX6_scaleColumn_7 : decode cX6_scaleColumn 7 = .ok (.invokevirtual 91, 3) := by decide +kernel
theorem dX6_scaleColumn_10 : decode cX6_scaleColumn 10 = .ok (.ifCond .ne 9, 3) := by decide +kernel
theorem dX6_scaleColumn_13 : decode cX6_scaleColumn 13 = .ok (.aload_n 0, 1) := by decide +kernel
theorem dX6_scaleColumn_14 : decode cX6_scaleColumn 14 = .ok (.iconst 1, 1) := by decide +kernel
theorem dX6_scaleColumn_15 : decode cX6_scaleColumn 15 = .ok (.invokevirtual 98, 3) := by decide +kernel
theorem dX6_scaleColumn_18 : decode cX6_scaleColumn 18 = .ok (.ireturn, 1) := by decide +kernel
theorem dX6_scaleColumn_19 : decode cX6_scaleColumn 19 = .ok (.dload_n 2, 1) := by decide +kernel
theorem dX6_scaleColumn_20 : decode cX6_scaleColumn 20 = .ok (.ldc2_w 113, 3) := by decide +kernel
theorem dX6_scaleColumn_23 : decode cX6_scaleColumn 23 = .ok (.dcmp .l, 1) := by decide +kernel
theorem dX6_scaleColumn_24 : decode cX6_scaleColumn 24 = .ok (.ifCond .lt 11, 3) := by decide +kernel
theorem dX6_scaleColumn_27 : decode cX6_scaleColumn 27 = .ok (.dload_n 2, 1) := by decide +kernel
theorem dX6_scaleColumn_28 : decode cX6_scaleColumn 28 = .ok (.ldc2_w 115, 3) := by decide +kernel
theorem dX6_scaleColumn_31 : decode cX6_scaleColumn 31 = .ok (.dcmp .g, 1) := by decide +kernel
theorem dX6_scaleColumn_32 : decode cX6_scaleColumn 32 = .ok (.ifCond .le 9, 3) := by decide +kernel
theorem dX6_scaleColumn_35 : decode cX6_scaleColumn 35 = .ok (.aload_n 0, 1) := by decide +kernel
theorem dX6_scaleColumn_36 : decode cX6_scaleColumn 36 = .ok (.iconst 2, 1) := by decide +kernel
theorem dX6_scaleColumn_37 : decode cX6_scaleColumn 37 = .ok (.invokevirtual 98, 3) := by decide +kernel
theorem dX6_scaleColumn_40 : decode cX6_scaleColumn 40 = .ok (.ireturn, 1) := by decide +kernel
theorem dX6_scaleColumn_41 : decode cX6_scaleColumn 41 = .ok (.iconst 0, 1) := by decide +kernel
theorem dX6_scaleColumn_42 : decode cX6_scaleColumn 42 = .ok (.istore 4, 2) := by decide +kernel
theorem dX6_scaleColumn_44 : decode cX6_scaleColumn 44 = .ok (.iload 4, 2) := by decide +kernel
theorem dX6_scaleColumn_46 : decode cX6_scaleColumn 46 = .ok (.aload_n 0, 1) := by decide +kernel
theorem dX6_scaleColumn_47 : decode cX6_scaleColumn 47 = .ok (.getfield 81, 3) := by decide +kernel
theorem dX6_scaleColumn_50 : decode cX6_scaleColumn 50 = .ok (.if_icmp .ge 55, 3) := by decide +kernel
theorem dX6_scaleColumn_53 : decode cX6_scaleColumn 53 = .ok (.aload_n 0, 1) := by decide +kernel
theorem dX6_scaleColumn_54 : decode cX6_scaleColumn 54 = .ok (.getfield 16, 3) := by decide +kernel
theorem dX6_scaleColumn_57 : decode cX6_scaleColumn 57 = .ok (.bipush 10, 2) := by decide +kernel
theorem dX6_scaleColumn_59 : decode cX6_scaleColumn 59 = .ok (.iload 4, 2) := by decide +kernel
theorem dX6_scaleColumn_61 : decode cX6_scaleColumn 61 = .ok (.imul, 1) := by decide +kernel
theorem dX6_scaleColumn_62 : decode cX6_scaleColumn 62 = .ok (.iload_n 1, 1) := by decide +kernel
theorem dX6_scaleColumn_63 : decode cX6_scaleColumn 63 = .ok (.iadd, 1) := by decide +kernel
theorem dX6_scaleColumn_64 : decode cX6_scaleColumn 64 = .ok (.baload, 1) := by decide +kernel
theorem dX6_scaleColumn_65 : decode cX6_scaleColumn 65 = .ok (.ifCond .eq 34, 3) := by decide +kernel
theorem dX6_scaleColumn_68 : decode cX6_scaleColumn 68 = .ok (.aload_n 0, 1) := by decide +kernel
theorem dX6_scaleColumn_69 : decode cX6_scaleColumn 69 = .ok (.getfield 19, 3) := by decide +kernel
theorem dX6_scaleColumn_72 : decode cX6_scaleColumn 72 = .ok (.bipush 10, 2) := by decide +kernel
theorem dX6_scaleColumn_74 : decode cX6_scaleColumn 74 = .ok (.iload 4, 2) := by decide +kernel
theorem dX6_scaleColumn_76 : decode cX6_scaleColumn 76 = .ok (.imul, 1) := by decide +kernel
theorem dX6_scaleColumn_77 : decode cX6_scaleColumn 77 = .ok (.iload_n 1, 1) := by decide +kernel
theorem dX6_scaleColumn_78 : decode cX6_scaleColumn 78 = .ok (.iadd, 1) := by decide +kernel
theorem dX6_scaleColumn_79 : decode cX6_scaleColumn 79 = .ok (.iaload, 1) := by decide +kernel
theorem dX6_scaleColumn_80 : decode cX6_scaleColumn 80 = .ok (.i2d, 1) := by decide +kernel
theorem dX6_scaleColumn_81 : decode cX6_scaleColumn 81 = .ok (.dload_n 2, 1) := by decide +kernel
theorem dX6_scaleColumn_82 : decode cX6_scaleColumn 82 = .ok (.dmul, 1) := by decide +kernel
theorem dX6_scaleColumn_83 : decode cX6_scaleColumn 83 = .ok (.invokestatic 117, 3) := by decide +kernel
theorem dX6_scaleColumn_86 : decode cX6_scaleColumn 86 = .ok (.d2l, 1) := by decide +kernel
theorem dX6_scaleColumn_87 : decode cX6_scaleColumn 87 = .ok (.invokestatic 109, 3) := by decide +kernel
theorem dX6_scaleColumn_90 : decode cX6_scaleColumn 90 = .ok (.ifCond .ne 9, 3) := by decide +kernel
theorem dX6_scaleColumn_93 : decode cX6_scaleColumn 93 = .ok (.aload_n 0, 1) := by decide +kernel
theorem dX6_scaleColumn_94 : decode cX6_scaleColumn 94 = .ok (.iconst 3, 1) := by decide +kernel
theorem dX6_scaleColumn_95 : decode cX6_scaleColumn 95 = .ok (.invokevirtual 98, 3) := by decide +kernel
theorem dX6_scaleColumn_98 : decode cX6_scaleColumn 98 = .ok (.ireturn, 1) := by decide +kernel
theorem dX6_scaleColumn_99 : decode cX6_scaleColumn 99 = .ok (.iinc 4 1, 3) := by decide +kernel
theorem dX6_scaleColumn_102 : decode cX6_scaleColumn 102 = .ok (.goto (-58), 3) := by decide +kernel
theorem dX6_scaleColumn_105 : decode cX6_scaleColumn 105 = .ok (.iconst 0, 1) := by decide +kernel
theorem dX6_scaleColumn_106 : decode cX6_scaleColumn 106 = .ok (.istore 4, 2) := by decide +kernel
theorem dX6_scaleColumn_108 : decode cX6_scaleColumn 108 = .ok (.iconst 0, 1) := by decide +kernel
theorem dX6_scaleColumn_109 : decode cX6_scaleColumn 109 = .ok (.istore 5, 2) := by decide +kernel
theorem dX6_scaleColumn_111 : decode cX6_scaleColumn 111 = .ok (.iload 5, 2) := by decide +kernel
theorem dX6_scaleColumn_113 : decode cX6_scaleColumn 113 = .ok (.aload_n 0, 1) := by decide +kernel
theorem dX6_scaleColumn_114 : decode cX6_scaleColumn 114 = .ok (.getfield 81, 3) := by decide +kernel
theorem dX6_scaleColumn_117 : decode cX6_scaleColumn 117 = .ok (.if_icmp .ge 89, 3) := by decide +kernel
theorem dX6_scaleColumn_120 : decode cX6_scaleColumn 120 = .ok (.aload_n 0, 1) := by decide +kernel
theorem dX6_scaleColumn_121 : decode cX6_scaleColumn 121 = .ok (.getfield 16, 3) := by decide +kernel
theorem dX6_scaleColumn_124 : decode cX6_scaleColumn 124 = .ok (.bipush 10, 2) := by decide +kernel
theorem dX6_scaleColumn_126 : decode cX6_scaleColumn 126 = .ok (.iload 5, 2) := by decide +kernel
theorem dX6_scaleColumn_128 : decode cX6_scaleColumn 128 = .ok (.imul, 1) := by decide +kernel
theorem dX6_scaleColumn_129 : decode cX6_scaleColumn 129 = .ok (.iload_n 1, 1) := by decide +kernel
theorem dX6_scaleColumn_130 : decode cX6_scaleColumn 130 = .ok (.iadd, 1) := by decide +kernel
theorem dX6_scaleColumn_131 : decode cX6_scaleColumn 131 = .ok (.baload, 1) := by decide +kernel
theorem dX6_scaleColumn_132 : decode cX6_scaleColumn 132 = .ok (.ifCond .ne 6, 3) := by decide +kernel
theorem dX6_scaleColumn_135 : decode cX6_scaleColumn 135 = .ok (.goto 65, 3) := by decide +kernel
theorem dX6_scaleColumn_138 : decode cX6_scaleColumn 138 = .ok (.aload_n 0, 1) := by decide +kernel
theorem dX6_scaleColumn_139 : decode cX6_scaleColumn 139 = .ok (.getfield 19, 3) := by decide +kernel
theorem dX6_scaleColumn_142 : decode cX6_scaleColumn 142 = .ok (.bipush 10, 2) := by decide +kernel
theorem dX6_scaleColumn_144 : decode cX6_scaleColumn 144 = .ok (.iload 5, 2) := by decide +kernel
theorem dX6_scaleColumn_146 : decode cX6_scaleColumn 146 = .ok (.imul, 1) := by decide +kernel
theorem dX6_scaleColumn_147 : decode cX6_scaleColumn 147 = .ok (.iload_n 1, 1) := by decide +kernel
theorem dX6_scaleColumn_148 : decode cX6_scaleColumn 148 = .ok (.iadd, 1) := by decide +kernel
theorem dX6_scaleColumn_149 : decode cX6_scaleColumn 149 = .ok (.iaload, 1) := by decide +kernel
theorem dX6_scaleColumn_150 : decode cX6_scaleColumn 150 = .ok (.i2d, 1) := by decide +kernel
theorem dX6_scaleColumn_151 : decode cX6_scaleColumn 151 = .ok (.dload_n 2, 1) := by decide +kernel
theorem dX6_scaleColumn_152 : decode cX6_scaleColumn 152 = .ok (.dmul, 1) := by decide +kernel
theorem dX6_scaleColumn_153 : decode cX6_scaleColumn 153 = .ok (.invokestatic 117, 3) := by decide +kernel
theorem dX6_scaleColumn_156 : decode cX6_scaleColumn 156 = .ok (.d2i, 1) := by decide +kernel
theorem dX6_scaleColumn_157 : decode cX6_scaleColumn 157 = .ok (.istore 6, 2) := by decide +kernel
theorem dX6_scaleColumn_159 : decode cX6_scaleColumn 159 = .ok (.iload 4, 2) := by decide +kernel
theorem dX6_scaleColumn_161 : decode cX6_scaleColumn 161 = .ok (.iload 6, 2) := by decide +kernel
theorem dX6_scaleColumn_163 : decode cX6_scaleColumn 163 = .ok (.aload_n 0, 1) := by decide +kernel
theorem dX6_scaleColumn_164 : decode cX6_scaleColumn 164 = .ok (.getfield 19, 3) := by decide +kernel
theorem dX6_scaleColumn_167 : decode cX6_scaleColumn 167 = .ok (.bipush 10, 2) := by decide +kernel
theorem dX6_scaleColumn_169 : decode cX6_scaleColumn 169 = .ok (.iload 5, 2) := by decide +kernel
theorem dX6_scaleColumn_171 : decode cX6_scaleColumn 171 = .ok (.imul, 1) := by decide +kernel
theorem dX6_scaleColumn_172 : decode cX6_scaleColumn 172 = .ok (.iload_n 1, 1) := by decide +kernel
theorem dX6_scaleColumn_173 : decode cX6_scaleColumn 173 = .ok (.iadd, 1) := by decide +kernel
theorem dX6_scaleColumn_174 : decode cX6_scaleColumn 174 = .ok (.iaload, 1) := by decide +kernel
theorem dX6_scaleColumn_175 : decode cX6_scaleColumn 175 = .ok (.if_icmp .ne 7, 3) := by decide +kernel
theorem dX6_scaleColumn_178 : decode cX6_scaleColumn 178 = .ok (.iconst 0, 1) := by decide +kernel
theorem dX6_scaleColumn_179 : decode cX6_scaleColumn 179 = .ok (.goto 4, 3) := by decide +kernel
theorem dX6_scaleColumn_182 : decode cX6_scaleColumn 182 = .ok (.iconst 1, 1) := by decide +kernel
theorem dX6_scaleColumn_183 : decode cX6_scaleColumn 183 = .ok (.iadd, 1) := by decide +kernel
theorem dX6_scaleColumn_184 : decode cX6_scaleColumn 184 = .ok (.istore 4, 2) := by decide +kernel
theorem dX6_scaleColumn_186 : decode cX6_scaleColumn 186 = .ok (.aload_n 0, 1) := by decide +kernel
theorem dX6_scaleColumn_187 : decode cX6_scaleColumn 187 = .ok (.getfield 19, 3) := by decide +kernel
theorem dX6_scaleColumn_190 : decode cX6_scaleColumn 190 = .ok (.bipush 10, 2) := by decide +kernel
theorem dX6_scaleColumn_192 : decode cX6_scaleColumn 192 = .ok (.iload 5, 2) := by decide +kernel
theorem dX6_scaleColumn_194 : decode cX6_scaleColumn 194 = .ok (.imul, 1) := by decide +kernel
theorem dX6_scaleColumn_195 : decode cX6_scaleColumn 195 = .ok (.iload_n 1, 1) := by decide +kernel
theorem dX6_scaleColumn_196 : decode cX6_scaleColumn 196 = .ok (.iadd, 1) := by decide +kernel
theorem dX6_scaleColumn_197 : decode cX6_scaleColumn 197 = .ok (.iload 6, 2) := by decide +kernel
theorem dX6_scaleColumn_199 : decode cX6_scaleColumn 199 = .ok (.iastore, 1) := by decide +kernel
theorem dX6_scaleColumn_200 : decode cX6_scaleColumn 200 = .ok (.iinc 5 1, 3) := by decide +kernel
theorem dX6_scaleColumn_203 : decode cX6_scaleColumn 203 = .ok (.goto (-92), 3) := by decide +kernel
theorem dX6_scaleColumn_206 : decode cX6_scaleColumn 206 = .ok (.iload 4, 2) := by decide +kernel
theorem dX6_scaleColumn_208 : decode cX6_scaleColumn 208 = .ok (.ireturn, 1) := by decide +kernel
theorem dX6_rowCount_0 : decode cX6_rowCount 0 = .ok (.aload_n 0, 1) := by decide +kernel
theorem dX6_rowCount_1 : decode cX6_rowCount 1 = .ok (.iconst 0, 1) := by decide +kernel
theorem dX6_rowCount_2 : decode cX6_rowCount 2 = .ok (.putfield 77, 3) := by decide +kernel
theorem dX6_rowCount_5 : decode cX6_rowCount 5 = .ok (.aload_n 0, 1) := by decide +kernel
theorem dX6_rowCount_6 : decode cX6_rowCount 6 = .ok (.getfield 81, 3) := by decide +kernel
theorem dX6_rowCount_9 : decode cX6_rowCount 9 = .ok (.ireturn, 1) := by decide +kernel
theorem dX6_columnCount_0 : decode cX6_columnCount 0 = .ok (.aload_n 0, 1) := by decide +kernel
theorem dX6_columnCount_1 : decode cX6_columnCount 1 = .ok (.iconst 0, 1) := by decide +kernel
theorem dX6_columnCount_2 : decode cX6_columnCount 2 = .ok (.putfield 77, 3) := by decide +kernel
theorem dX6_columnCount_5 : decode cX6_columnCount 5 = .ok (.aload_n 0, 1) := by decide +kernel
theorem dX6_columnCount_6 : decode cX6_columnCount 6 = .ok (.getfield 84, 3) := by decide +kernel
theorem dX6_columnCount_9 : decode cX6_columnCount 9 = .ok (.ireturn, 1) := by decide +kernel
theorem dX6_isAllowed_0 : decode cX6_isAllowed 0 = .ok (.aload_n 0, 1) := by decide +kernel
theorem dX6_isAllowed_1 : decode cX6_isAllowed 1 = .ok (.iconst 0, 1) := by decide +kernel
theorem dX6_isAllowed_2 : decode cX6_isAllowed 2 = .ok (.putfield 77, 3) := by decide +kernel
theorem dX6_isAllowed_5 : decode cX6_isAllowed 5 = .ok (.aload_n 0, 1) := by decide +kernel
theorem dX6_isAllowed_6 : decode cX6_isAllowed 6 = .ok (.iload_n 1, 1) := by decide +kernel
theorem dX6_isAllowed_7 : decode cX6_isAllowed 7 = .ok (.iload_n 2, 1) := by decide +kernel
theorem dX6_isAllowed_8 : decode cX6_isAllowed 8 = .ok (.invokevirtual 105, 3) := by decide +kernel
theorem dX6_isAllowed_11 : decode cX6_isAllowed 11 = .ok (.ifCond .eq 17, 3) := by decide +kernel
theorem dX6_isAllowed_14 : decode cX6_isAllowed 14 = .ok (.aload_n 0, 1) := by decide +kernel
theorem dX6_isAllowed_15 : decode cX6_isAllowed 15 = .ok (.getfield 16, 3) := by decide +kernel
theorem dX6_isAllowed_18 : decode cX6_isAllowed 18 = .ok (.bipush 10, 2) := by decide +kernel
theorem dX6_isAllowed_20 : decode cX6_isAllowed 20 = .ok (.iload_n 1, 1) := by decide +kernel
theorem dX6_isAllowed_21 : decode cX6_isAllowed 21 = .ok (.imul, 1) := by decide +kernel
theorem dX6_isAllowed_22 : decode cX6_isAllowed 22 = .ok (.iload_n 2, 1) := by decide +kernel
theorem dX6_isAllowed_23 : decode cX6_isAllowed 23 = .ok (.iadd, 1) := by decide +kernel
theorem dX6_isAllowed_24 : decode cX6_isAllowed 24 = .ok (.baload, 1) := by decide +kernel
theorem dX6_isAllowed_25 : decode cX6_isAllowed 25 = .ok (.goto 8, 3) := by decide +kernel
theorem dX6_isAllowed_28 : decode cX6_isAllowed 28 = .ok (.aload_n 0, 1) := by decide +kernel
theorem dX6_isAllowed_29 : decode cX6_isAllowed 29 = .ok (.iconst 1, 1) := by decide +kernel
theorem dX6_isAllowed_30 : decode cX6_isAllowed 30 = .ok (.invokevirtual 102, 3) := by decide +kernel
theorem dX6_isAllowed_33 : decode cX6_isAllowed 33 = .ok (.ireturn, 1) := by decide +kernel
theorem dX6_cost_0 : decode cX6_cost 0 = .ok (.aload_n 0, 1) := by decide +kernel
theorem dX6_cost_1 : decode cX6_cost 1 = .ok (.iconst 0, 1) := by decide +kernel
theorem dX6_cost_2 : decode cX6_cost 2 = .ok (.putfield 77, 3) := by decide +kernel
theorem dX6_cost_5 : decode cX6_cost 5 = .ok (.aload_n 0, 1) := by decide +kernel
theorem dX6_cost_6 : decode cX6_cost 6 = .ok (.iload_n 1, 1) := by decide +kernel
theorem dX6_cost_7 : decode cX6_cost 7 = .ok (.iload_n 2, 1) := by decide +kernel
theorem dX6_cost_8 : decode cX6_cost 8 = .ok (.invokevirtual 105, 3) := by decide +kernel
theorem dX6_cost_11 : decode cX6_cost 11 = .ok (.ifCond .ne 9, 3) := by decide +kernel
theorem dX6_cost_14 : decode cX6_cost 14 = .ok (.aload_n 0, 1) := by decide +kernel
theorem dX6_cost_15 : decode cX6_cost 15 = .ok (.iconst 1, 1) := by decide +kernel
theorem dX6_cost_16 : decode cX6_cost 16 = .ok (.invokevirtual 98, 3) := by decide +kernel
theorem dX6_cost_19 : decode cX6_cost 19 = .ok (.ireturn, 1) := by decide +kernel
theorem dX6_cost_20 : decode cX6_cost 20 = .ok (.aload_n 0, 1) := by decide +kernel
theorem dX6_cost_21 : decode cX6_cost 21 = .ok (.getfield 16, 3) := by decide +kernel
theorem dX6_cost_24 : decode cX6_cost 24 = .ok (.bipush 10, 2) := by decide +kernel
theorem dX6_cost_26 : decode cX6_cost 26 = .ok (.iload_n 1, 1) := by decide +kernel
theorem dX6_cost_27 : decode cX6_cost 27 = .ok (.imul, 1) := by decide +kernel
theorem dX6_cost_28 : decode cX6_cost 28 = .ok (.iload_n 2, 1) := by decide +kernel
theorem dX6_cost_29 : decode cX6_cost 29 = .ok (.iadd, 1) := by decide +kernel
theorem dX6_cost_30 : decode cX6_cost 30 = .ok (.baload, 1) := by decide +kernel
theorem dX6_cost_31 : decode cX6_cost 31 = .ok (.ifCond .eq 17, 3) := by decide +kernel
theorem dX6_cost_34 : decode cX6_cost 34 = .ok (.aload_n 0, 1) := by decide +kernel
theorem dX6_cost_35 : decode cX6_cost 35 = .ok (.getfield 19, 3) := by decide +kernel
theorem dX6_cost_38 : decode cX6_cost 38 = .ok (.bipush 10, 2) := by decide +kernel
theorem dX6_cost_40 : decode cX6_cost 40 = .ok (.iload_n 1, 1) := by decide +kernel
theorem dX6_cost_41 : decode cX6_cost 41 = .ok (.imul, 1) := by decide +kernel
theorem dX6_cost_42 : decode cX6_cost 42 = .ok (.iload_n 2, 1) := by decide +kernel
theorem dX6_cost_43 : decode cX6_cost 43 = .ok (.iadd, 1) := by decide +kernel
theorem dX6_cost_44 : decode cX6_cost 44 = .ok (.iaload, 1) := by decide +kernel
theorem dX6_cost_45 : decode cX6_cost 45 = .ok (.goto 8, 3) := by decide +kernel
theorem dX6_cost_48 : decode cX6_cost 48 = .ok (.aload_n 0, 1) := by decide +kernel
theorem dX6_cost_49 : decode cX6_cost 49 = .ok (.iconst 2, 1) := by decide +kernel
theorem dX6_cost_50 : decode cX6_cost 50 = .ok (.invokevirtual 98, 3) := by decide +kernel
theorem dX6_cost_53 : decode cX6_cost 53 = .ok (.ireturn, 1) := by decide +kernel
theorem dX6_setChoices_0 : decode cX6_setChoices 0 = .ok (.iconst 0, 1) := by decide +kernel
theorem dX6_setChoices_1 : decode cX6_setChoices 1 = .ok (.istore_n 1, 1) := by decide +kernel
theorem dX6_setChoices_2 : decode cX6_setChoices 2 = .ok (.iload_n 1, 1) := by decide +kernel
theorem dX6_setChoices_3 : decode cX6_setChoices 3 = .ok (.aload_n 0, 1) := by decide +kernel
theorem dX6_setChoices_4 : decode cX6_setChoices 4 = .ok (.getfield 81, 3) := by decide +kernel
theorem dX6_setChoices_7 : decode cX6_setChoices 7 = .ok (.if_icmp .ge 59, 3) := by decide +kernel
theorem dX6_setChoices_10 : decode cX6_setChoices 10 = .ok (.aload_n 0, 1) := by decide +kernel
theorem dX6_setChoices_11 : decode cX6_setChoices 11 = .ok (.getfield 50, 3) := by decide +kernel
theorem dX6_setChoices_14 : decode cX6_setChoices 14 = .ok (.iload_n 1, 1) := by decide +kernel
theorem dX6_setChoices_15 : decode cX6_setChoices 15 = .ok (.sipush 1024, 3) := by decide +kernel
theorem dX6_setChoices_18 : decode cX6_setChoices 18 = .ok (.iastore, 1) := by decide +kernel
theorem dX6_setChoices_19 : decode cX6_setChoices 19 = .ok (.iconst 0, 1) := by decide +kernel
theorem dX6_setChoices_20 : decode cX6_setChoices 20 = .ok (.istore_n 2, 1) := by decide +kernel
theorem dX6_setChoices_21 : decode cX6_setChoices 21 = .ok (.iload_n 2, 1) := by decide +kernel
theorem dX6_setChoices_22 : decode cX6_setChoices 22 = .ok (.aload_n 0, 1) := by decide +kernel
theorem dX6_setChoices_23 : decode cX6_setChoices 23 = .ok (.getfield 84, 3) := by decide +kernel
theorem dX6_setChoices_26 : decode cX6_setChoices 26 = .ok (.if_icmp .ge 34, 3) := by decide +kernel
theorem dX6_setChoices_29 : decode cX6_setChoices 29 = .ok (.aload_n 0, 1) := by decide +kernel
theorem dX6_setChoices_30 : decode cX6_setChoices 30 = .ok (.getfield 50, 3) := by decide +kernel
theorem dX6_setChoices_33 : decode cX6_setChoices 33 = .ok (.iload_n 1, 1) := by decide +kernel
theorem dX6_setChoices_34 : decode cX6_setChoices 34 = .ok (.dup2, 1) := by decide +kernel
theorem dX6_setChoices_35 : decode cX6_setChoices 35 = .ok (.iaload, 1) := by decide +kernel
theorem dX6_setChoices_36 : decode cX6_setChoices 36 = .ok (.aload_n 0, 1) := by decide +kernel
theorem dX6_setChoices_37 : decode cX6_setChoices 37 = .ok (.iload_n 1, 1) := by decide +kernel
theorem dX6_setChoices_38 : decode cX6_setChoices 38 = .ok (.iload_n 2, 1) := by decide +kernel
theorem dX6_setChoices_39 : decode cX6_setChoices 39 = .ok (.invokevirtual 123, 3) := by decide +kernel
theorem dX6_setChoices_42 : decode cX6_setChoices 42 = .ok (.ifCond .eq 9, 3) := by decide +kernel
theorem dX6_setChoices_45 : decode cX6_setChoices 45 = .ok (.iconst 1, 1) := by decide +kernel
theorem dX6_setChoices_46 : decode cX6_setChoices 46 = .ok (.iload_n 2, 1) := by decide +kernel
theorem dX6_setChoices_47 : decode cX6_setChoices 47 = .ok (.ishl, 1) := by decide +kernel
theorem dX6_setChoices_48 : decode cX6_setChoices 48 = .ok (.goto 4, 3) := by decide +kernel
theorem dX6_setChoices_51 : decode cX6_setChoices 51 = .ok (.iconst 0, 1) := by decide +kernel
theorem dX6_setChoices_52 : decode cX6_setChoices 52 = .ok (.ior, 1) := by decide +kernel
theorem dX6_setChoices_53 : decode cX6_setChoices 53 = .ok (.iastore, 1) := by decide +kernel
theorem dX6_setChoices_54 : decode cX6_setChoices 54 = .ok (.iinc 2 1, 3) := by decide +kernel
theorem dX6_setChoices_57 : decode cX6_setChoices 57 = .ok (.goto (-36), 3) := by decide +kernel
theorem dX6_setChoices_60 : decode cX6_setChoices 60 = .ok (.iinc 1 1, 3) := by decide +kernel
theorem dX6_setChoices_63 : decode cX6_setChoices 63 = .ok (.goto (-61), 3) := by decide +kernel
theorem dX6_setChoices_66 : decode cX6_setChoices 66 = .ok (.return_, 1) := by decide +kernel
theorem dX6_fill_0 : decode cX6_fill 0 = .ok (.iconst 0, 1) := by decide +kernel
theorem dX6_fill_1 : decode cX6_fill 1 = .ok (.istore_n 1, 1) := by decide +kernel
theorem dX6_fill_2 : decode cX6_fill 2 = .ok (.iload_n 1, 1) := by decide +kernel
theorem dX6_fill_3 : decode cX6_fill 3 = .ok (.iconst 1, 1) := by decide +kernel
theorem dX6_fill_4 : decode cX6_fill 4 = .ok (.aload_n 0, 1) := by decide +kernel
theorem dX6_fill_5 : decode cX6_fill 5 = .ok (.getfield 84, 3) := by decide +kernel
theorem dX6_fill_8 : decode cX6_fill 8 = .ok (.ishl, 1) := by decide +kernel
theorem dX6_fill_9 : decode cX6_fill 9 = .ok (.if_icmp .ge 57, 3) := by decide +kernel
theorem dX6_fill_12 : decode cX6_fill 12 = .ok (.aload_n 0, 1) := by decide +kernel
theorem dX6_fill_13 : decode cX6_fill 13 = .ok (.getfield 41, 3) := by decide +kernel
theorem dX6_fill_16 : decode cX6_fill 16 = .ok (.sipush 1024, 3) := by decide +kernel
theorem dX6_fill_19 : decode cX6_fill 19 = .ok (.aload_n 0, 1) := by decide +kernel
theorem dX6_fill_20 : decode cX6_fill 20 = .ok (.getfield 81, 3) := by decide +kernel
theorem dX6_fill_23 : decode cX6_fill 23 = .ok (.imul, 1) := by decide +kernel
theorem dX6_fill_24 : decode cX6_fill 24 = .ok (.iload_n 1, 1) := by decide +kernel
theorem dX6_fill_25 : decode cX6_fill 25 = .ok (.iadd, 1) := by decide +kernel
theorem dX6_fill_26 : decode cX6_fill 26 = .ok (.iconst 0, 1) := by decide +kernel
theorem dX6_fill_27 : decode cX6_fill 27 = .ok (.iastore, 1) := by decide +kernel
theorem dX6_fill_28 : decode cX6_fill 28 = .ok (.aload_n 0, 1) := by decide +kernel
theorem dX6_fill_29 : decode cX6_fill 29 = .ok (.getfield 44, 3) := by decide +kernel
theorem dX6_fill_32 : decode cX6_fill 32 = .ok (.sipush 1024, 3) := by decide +kernel
theorem dX6_fill_35 : decode cX6_fill 35 = .ok (.aload_n 0, 1) := by decide +kernel
theorem dX6_fill_36 : decode cX6_fill 36 = .ok (.getfield 81, 3) := by decide +kernel
theorem dX6_fill_39 : decode cX6_fill 39 = .ok (.imul, 1) := by decide +kernel
theorem dX6_fill_40 : decode cX6_fill 40 = .ok (.iload_n 1, 1) := by decide +kernel
theorem dX6_fill_41 : decode cX6_fill 41 = .ok (.iadd, 1) := by decide +kernel
theorem dX6_fill_42 : decode cX6_fill 42 = .ok (.iconst 0, 1) := by decide +kernel
theorem dX6_fill_43 : decode cX6_fill 43 = .ok (.iastore, 1) := by decide +kernel
theorem dX6_fill_44 : decode cX6_fill 44 = .ok (.aload_n 0, 1) := by decide +kernel
theorem dX6_fill_45 : decode cX6_fill 45 = .ok (.getfield 47, 3) := by decide +kernel
theorem dX6_fill_48 : decode cX6_fill 48 = .ok (.sipush 1024, 3) := by decide +kernel
theorem dX6_fill_51 : decode cX6_fill 51 = .ok (.aload_n 0, 1) := by decide +kernel
theorem dX6_fill_52 : decode cX6_fill 52 = .ok (.getfield 81, 3) := by decide +kernel
theorem dX6_fill_55 : decode cX6_fill 55 = .ok (.imul, 1) := by decide +kernel
theorem dX6_fill_56 : decode cX6_fill 56 = .ok (.iload_n 1, 1) := by decide +kernel
theorem dX6_fill_57 : decode cX6_fill 57 = .ok (.iadd, 1) := by decide +kernel
theorem dX6_fill_58 : decode cX6_fill 58 = .ok (.iconst 1, 1) := by decide +kernel
theorem dX6_fill_59 : decode cX6_fill 59 = .ok (.iastore, 1) := by decide +kernel
theorem dX6_fill_60 : decode cX6_fill 60 = .ok (.iinc 1 1, 3) := by decide +kernel
theorem dX6_fill_63 : decode cX6_fill 63 = .ok (.goto (-61), 3) := by decide +kernel
theorem dX6_fill_66 : decode cX6_fill 66 = .ok (.aload_n 0, 1) := by decide +kernel
theorem dX6_fill_67 : decode cX6_fill 67 = .ok (.getfield 81, 3) := by decide +kernel
theorem dX6_fill_70 : decode cX6_fill 70 = .ok (.iconst 1, 1) := by decide +kernel
theorem dX6_fill_71 : decode cX6_fill 71 = .ok (.isub, 1) := by decide +kernel
theorem dX6_fill_72 : decode cX6_fill 72 = .ok (.istore_n 1, 1) := by decide +kernel
theorem dX6_fill_73 : decode cX6_fill 73 = .ok (.iload_n 1, 1) := by decide +kernel
theorem dX6_fill_74 : decode cX6_fill 74 = .ok (.ifCond .lt 33, 3) := by decide +kernel
theorem dX6_fill_77 : decode cX6_fill 77 = .ok (.iconst 0, 1) := by decide +kernel
theorem dX6_fill_78 : decode cX6_fill 78 = .ok (.istore_n 2, 1) := by decide +kernel
theorem dX6_fill_79 : decode cX6_fill 79 = .ok (.iload_n 2, 1) := by decide +kernel
theorem dX6_fill_80 : decode cX6_fill 80 = .ok (.iconst 1, 1) := by decide +kernel
theorem dX6_fill_81 : decode cX6_fill 81 = .ok (.aload_n 0, 1) := by decide +kernel
theorem dX6_fill_82 : decode cX6_fill 82 = .ok (.getfield 84, 3) := by decide +kernel
theorem dX6_fill_85 : decode cX6_fill 85 = .ok (.ishl, 1) := by decide +kernel
theorem dX6_fill_86 : decode cX6_fill 86 = .ok (.if_icmp .ge 15, 3) := by decide +kernel
theorem dX6_fill_89 : decode cX6_fill 89 = .ok (.aload_n 0, 1) := by decide +kernel
theorem dX6_fill_90 : decode cX6_fill 90 = .ok (.iload_n 1, 1) := by decide +kernel
theorem dX6_fill_91 : decode cX6_fill 91 = .ok (.iload_n 2, 1) := by decide +kernel
theorem dX6_fill_92 : decode cX6_fill 92 = .ok (.invokevirtual 126, 3) := by decide +kernel
theorem dX6_fill_95 : decode cX6_fill 95 = .ok (.iinc 2 1, 3) := by decide +kernel
theorem dX6_fill_98 : decode cX6_fill 98 = .ok (.goto (-19), 3) := by decide +kernel
theorem dX6_fill_101 : decode cX6_fill 101 = .ok (.iinc 1 (-1), 3) := by decide +kernel
theorem dX6_fill_104 : decode cX6_fill 104 = .ok (.goto (-31), 3) := by decide +kernel
theorem dX6_fill_107 : decode cX6_fill 107 = .ok (.return_, 1) := by decide +kernel
theorem dX6_fill__0 : decode cX6_fill_ 0 = .ok (.sipush 1024, 3) := by decide +kernel
theorem dX6_fill__3 : decode cX6_fill_ 3 = .ok (.iload_n 1, 1) := by decide +kernel
theorem dX6_fill__4 : decode cX6_fill_ 4 = .ok (.imul, 1) := by decide +kernel
theorem dX6_fill__5 : decode cX6_fill_ 5 = .ok (.iload_n 2, 1) := by decide +kernel
theorem dX6_fill__6 : decode cX6_fill_ 6 = .ok (.iadd, 1) := by decide +kernel
theorem dX6_fill__7 : decode cX6_fill_ 7 = .ok (.istore_n 3, 1) := by decide +kernel
theorem dX6_fill__8 : decode cX6_fill_ 8 = .ok (.aload_n 0, 1) := by decide +kernel
theorem dX6_fill__9 : decode cX6_fill_ 9 = .ok (.getfield 41, 3) := by decide +kernel
theorem dX6_fill__12 : decode cX6_fill_ 12 = .ok (.iload_n 3, 1) := by decide +kernel
theorem dX6_fill__13 : decode cX6_fill_ 13 = .ok (.bipush (-100), 2) := by decide +kernel
theorem dX6_fill__15 : decode cX6_fill_ 15 = .ok (.iastore, 1) := by decide +kernel
theorem dX6_fill__16 : decode cX6_fill_ 16 = .ok (.aload_n 0, 1) := by decide +kernel
theorem dX6_fill__17 : decode cX6_fill_ 17 = .ok (.getfield 44, 3) := by decide +kernel
theorem dX6_fill__20 : decode cX6_fill_ 20 = .ok (.iload_n 3, 1) := by decide +kernel
theorem dX6_fill__21 : decode cX6_fill_ 21 = .ok (.iconst 0, 1) := by decide +kernel
theorem dX6_fill__22 : decode cX6_fill_ 22 = .ok (.iastore, 1) := by decide +kernel
theorem dX6_fill__23 : decode cX6_fill_ 23 = .ok (.aload_n 0, 1) := by decide +kernel
theorem dX6_fill__24 : decode cX6_fill_ 24 = .ok (.getfield 47, 3) := by decide +kernel
theorem dX6_fill__27 : decode cX6_fill_ 27 = .ok (.iload_n 3, 1) := by decide +kernel
theorem dX6_fill__28 : decode cX6_fill_ 28 = .ok (.iconst 0, 1) := by decide +kernel
theorem dX6_fill__29 : decode cX6_fill_ 29 = .ok (.iastore, 1) := by decide +kernel
theorem dX6_fill__30 : decode cX6_fill_ 30 = .ok (.iconst 1, 1) := by decide +kernel
theorem dX6_fill__31 : decode cX6_fill_ 31 = .ok (.istore 4, 2) := by decide +kernel
theorem dX6_fill__33 : decode cX6_fill_ 33 = .ok (.iload 4, 2) := by decide +kernel
theorem dX6_fill__35 : decode cX6_fill_ 35 = .ok (.sipush 1024, 3) := by decide +kernel
theorem dX6_fill__38 : decode cX6_fill_ 38 = .ok (.if_icmp .gt 207, 3) := by decide +kernel
theorem dX6_fill__41 : decode cX6_fill_ 41 = .ok (.aload_n 0, 1) := by decide +kernel
theorem dX6_fill__42 : decode cX6_fill_ 42 = .ok (.getfield 50, 3) := by decide +kernel
theorem dX6_fill__45 : decode cX6_fill_ 45 = .ok (.iload_n 1, 1) := by decide +kernel
theorem dX6_fill__46 : decode cX6_fill_ 46 = .ok (.iaload, 1) := by decide +kernel
theorem dX6_fill__47 : decode cX6_fill_ 47 = .ok (.iload 4, 2) := by decide +kernel
theorem dX6_fill__49 : decode cX6_fill_ 49 = .ok (.iand, 1) := by decide +kernel
theorem dX6_fill__50 : decode cX6_fill_ 50 = .ok (.ifCond .eq 186, 3) := by decide +kernel
theorem dX6_fill__53 : decode cX6_fill_ 53 = .ok (.iload_n 2, 1) := by decide +kernel
theorem dX6_fill__54 : decode cX6_fill_ 54 = .ok (.iload 4, 2) := by decide +kernel
theorem dX6_fill__56 : decode cX6_fill_ 56 = .ok (.iand, 1) := by decide +kernel
theorem dX6_fill__57 : decode cX6_fill_ 57 = .ok (.ifCond .eq 6, 3) := by decide +kernel
theorem dX6_fill__60 : decode cX6_fill_ 60 = .ok (.goto 176, 3) := by decide +kernel
theorem dX6_fill__63 : decode cX6_fill_ 63 = .ok (.sipush 1024, 3) := by decide +kernel
theorem dX6_fill__66 : decode cX6_fill_ 66 = .ok (.iload_n 1, 1) := by decide +kernel
theorem dX6_fill__67 : decode cX6_fill_ 67 = .ok (.iconst 1, 1) := by decide +kernel
theorem dX6_fill__68 : decode cX6_fill_ 68 = .ok (.iadd, 1) := by decide +kernel
theorem dX6_fill__69 : decode cX6_fill_ 69 = .ok (.imul, 1) := by decide +kernel
theorem dX6_fill__70 : decode cX6_fill_ 70 = .ok (.iload 4, 2) := by decide +kernel
theorem dX6_fill__72 : decode cX6_fill_ 72 = .ok (.sipush 1024, 3) := by decide +kernel
theorem dX6_fill__75 : decode cX6_fill_ 75 = .ok (.if_icmp .ne 7, 3) := by decide +kernel
theorem dX6_fill__78 : decode cX6_fill_ 78 = .ok (.iload_n 2, 1) := by decide +kernel
theorem dX6_fill__79 : decode cX6_fill_ 79 = .ok (.goto 7, 3) := by decide +kernel
theorem dX6_fill__82 : decode cX6_fill_ 82 = .ok (.iload_n 2, 1) := by decide +kernel
theorem dX6_fill__83 : decode cX6_fill_ 83 = .ok (.iload 4, 2) := by decide +kernel
theorem dX6_fill__85 : decode cX6_fill_ 85 = .ok (.ior, 1) := by decide +kernel
theorem dX6_fill__86 : decode cX6_fill_ 86 = .ok (.iadd, 1) := by decide +kernel
theorem dX6_fill__87 : decode cX6_fill_ 87 = .ok (.istore 5, 2) := by decide +kernel
theorem dX6_fill__89 : decode cX6_fill_ 89 = .ok (.aload_n 0, 1) := by decide +kernel
theorem dX6_fill__90 : decode cX6_fill_ 90 = .ok (.getfield 41, 3) := by decide +kernel
theorem dX6_fill__93 : decode cX6_fill_ 93 = .ok (.iload 5, 2) := by decide +kernel
theorem dX6_fill__95 : decode cX6_fill_ 95 = .ok (.iaload, 1) := by decide +kernel
theorem dX6_fill__96 : decode cX6_fill_ 96 = .ok (.ifCond .ge 6, 3) := by decide +kernel
theorem dX6_fill__99 : decode cX6_fill_ 99 = .ok (.goto 137, 3) := by decide +kernel
theorem dX6_fill__102 : decode cX6_fill_ 102 = .ok (.aload_n 0, 1) := by decide +kernel
theorem dX6_fill__103 : decode cX6_fill_ 103 = .ok (.getfield 41, 3) := by decide +kernel
theorem dX6_fill__106 : decode cX6_fill_ 106 = .ok (.iload 5, 2) := by decide +kernel
theorem dX6_fill__108 : decode cX6_fill_ 108 = .ok (.iaload, 1) := by decide +kernel
theorem dX6_fill__109 : decode cX6_fill_ 109 = .ok (.iload 4, 2) := by decide +kernel
theorem dX6_fill__111 : decode cX6_fill_ 111 = .ok (.sipush 1024, 3) := by decide +kernel
theorem dX6_fill__114 : decode cX6_fill_ 114 = .ok (.if_icmp .ne 7, 3) := by decide +kernel
theorem dX6_fill__117 : decode cX6_fill_ 117 = .ok (.iconst 0, 1) := by decide +kernel
theorem dX6_fill__118 : decode cX6_fill_ 118 = .ok (.goto 4, 3) := by decide +kernel
theorem dX6_fill__121 : decode cX6_fill_ 121 = .ok (.iconst 1, 1) := by decide +kernel
theorem dX6_fill__122 : decode cX6_fill_ 122 = .ok (.iadd, 1) := by decide +kernel
theorem dX6_fill__123 : decode cX6_fill_ 123 = .ok (.istore 6, 2) := by decide +kernel
theorem dX6_fill__125 : decode cX6_fill_ 125 = .ok (.aload_n 0, 1) := by decide +kernel
theorem dX6_fill__126 : decode cX6_fill_ 126 = .ok (.getfield 44, 3) := by decide +kernel
theorem dX6_fill__129 : decode cX6_fill_ 129 = .ok (.iload 5, 2) := by decide +kernel
theorem dX6_fill__131 : decode cX6_fill_ 131 = .ok (.iaload, 1) := by decide +kernel
theorem dX6_fill__132 : decode cX6_fill_ 132 = .ok (.aload_n 0, 1) := by decide +kernel
theorem dX6_fill__133 : decode cX6_fill_ 133 = .ok (.iload_n 1, 1) := by decide +kernel
theorem dX6_fill__134 : decode cX6_fill_ 134 = .ok (.iload 4, 2) := by decide +kernel
theorem dX6_fill__136 : decode cX6_fill_ 136 = .ok (.invokevirtual 130, 3) := by decide +kernel
theorem dX6_fill__139 : decode cX6_fill_ 139 = .ok (.iadd, 1) := by decide +kernel
theorem dX6_fill__140 : decode cX6_fill_ 140 = .ok (.istore 7, 2) := by decide +kernel
theorem dX6_fill__142 : decode cX6_fill_ 142 = .ok (.iload 6, 2) := by decide +kernel
theorem dX6_fill__144 : decode cX6_fill_ 144 = .ok (.aload_n 0, 1) := by decide +kernel
theorem dX6_fill__145 : decode cX6_fill_ 145 = .ok (.getfield 41, 3) := by decide +kernel
theorem dX6_fill__148 : decode cX6_fill_ 148 = .ok (.iload_n 3, 1) := by decide +kernel
theorem dX6_fill__149 : decode cX6_fill_ 149 = .ok (.iaload, 1) := by decide +kernel
theorem dX6_fill__150 : decode cX6_fill_ 150 = .ok (.if_icmp .gt 25, 3) := by decide +kernel
theorem dX6_fill__153 : decode cX6_fill_ 153 = .ok (.iload 6, 2) := by decide +kernel
theorem dX6_fill__155 : decode cX6_fill_ 155 = .ok (.aload_n 0, 1) := by decide +kernel
theorem dX6_fill__156 : decode cX6_fill_ 156 = .ok (.getfield 41, 3) := by decide +kernel
theorem dX6_fill__159 : decode cX6_fill_ 159 = .ok (.iload_n 3, 1) := by decide +kernel
theorem dX6_fill__160 : decode cX6_fill_ 160 = .ok (.iaload, 1) := by decide +kernel
theorem dX6_fill__161 : decode cX6_fill_ 161 = .ok (.if_icmp .ne 37, 3) := by decide +kernel
theorem dX6_fill__164 : decode cX6_fill_ 164 = .ok (.iload 7, 2) := by decide +kernel
theorem dX6_fill__166 : decode cX6_fill_ 166 = .ok (.aload_n 0, 1) := by decide +kernel
theorem dX6_fill__167 : decode cX6_fill_ 167 = .ok (.getfield 44, 3) := by decide +kernel
theorem dX6_fill__170 : decode cX6_fill_ 170 = .ok (.iload_n 3, 1) := by decide +kernel
theorem dX6_fill__171 : decode cX6_fill_ 171 = .ok (.iaload, 1) := by decide +kernel
theorem dX6_fill__172 : decode cX6_fill_ 172 = .ok (.if_icmp .ge 26, 3) := by decide +kernel
theorem dX6_fill__175 : decode cX6_fill_ 175 = .ok (.aload_n 0, 1) := by decide +kernel
theorem dX6_fill__176 : decode cX6_fill_ 176 = .ok (.getfield 41, 3) := by decide +kernel
theorem dX6_fill__179 : decode cX6_fill_ 179 = .ok (.iload_n 3, 1) := by decide +kernel
theorem dX6_fill__180 : decode cX6_fill_ 180 = .ok (.iload 6, 2) := by decide +kernel
theorem dX6_fill__182 : decode cX6_fill_ 182 = .ok (.iastore, 1) := by decide +kernel
theorem dX6_fill__183 : decode cX6_fill_ 183 = .ok (.aload_n 0, 1) := by decide +kernel
theorem dX6_fill__184 : decode cX6_fill_ 184 = .ok (.getfield 44, 3) := by decide +kernel
theorem dX6_fill__187 : decode cX6_fill_ 187 = .ok (.iload_n 3, 1) := by decide +kernel
theorem dX6_fill__188 : decode cX6_fill_ 188 = .ok (.iload 7, 2) := by decide +kernel
theorem dX6_fill__190 : decode cX6_fill_ 190 = .ok (.iastore, 1) := by decide +kernel
theorem dX6_fill__191 : decode cX6_fill_ 191 = .ok (.aload_n 0, 1) := by decide +kernel
theorem dX6_fill__192 : decode cX6_fill_ 192 = .ok (.getfield 47, 3) := by decide +kernel
theorem dX6_fill__195 : decode cX6_fill_ 195 = .ok (.iload_n 3, 1) := by decide +kernel
theorem dX6_fill__196 : decode cX6_fill_ 196 = .ok (.iconst 0, 1) := by decide +kernel
theorem dX6_fill__197 : decode cX6_fill_ 197 = .ok (.iastore, 1) := by decide +kernel
theorem dX6_fill__198 : decode cX6_fill_ 198 = .ok (.iload 6, 2) := by decide +kernel
theorem dX6_fill__200 : decode cX6_fill_ 200 = .ok (.aload_n 0, 1) := by decide +kernel
theorem dX6_fill__201 : decode cX6_fill_ 201 = .ok (.getfield 41, 3) := by decide +kernel
theorem dX6_fill__204 : decode cX6_fill_ 204 = .ok (.iload_n 3, 1) := by decide +kernel
theorem dX6_fill__205 : decode cX6_fill_ 205 = .ok (.iaload, 1) := by decide +kernel
theorem dX6_fill__206 : decode cX6_fill_ 206 = .ok (.if_icmp .ne 30, 3) := by decide +kernel
theorem dX6_fill__209 : decode cX6_fill_ 209 = .ok (.iload 7, 2) := by decide +kernel
theorem dX6_fill__211 : decode cX6_fill_ 211 = .ok (.aload_n 0, 1) := by decide +kernel
theorem dX6_fill__212 : decode cX6_fill_ 212 = .ok (.getfield 44, 3) := by decide +kernel
theorem dX6_fill__215 : decode cX6_fill_ 215 = .ok (.iload_n 3, 1) := by decide +kernel
theorem dX6_fill__216 : decode cX6_fill_ 216 = .ok (.iaload, 1) := by decide +kernel
theorem dX6_fill__217 : decode cX6_fill_ 217 = .ok (.if_icmp .ne 19, 3) := by decide +kernel
theorem dX6_fill__220 : decode cX6_fill_ 220 = .ok (.aload_n 0, 1) := by decide +kernel
theorem dX6_fill__221 : decode cX6_fill_ 221 = .ok (.getfield 47, 3) := by decide +kernel
theorem dX6_fill__224 : decode cX6_fill_ 224 = .ok (.iload_n 3, 1) := by decide +kernel
theorem dX6_fill__225 : decode cX6_fill_ 225 = .ok (.dup2, 1) := by decide +kernel
theorem dX6_fill__226 : decode cX6_fill_ 226 = .ok (.iaload, 1) := by decide +kernel
theorem dX6_fill__227 : decode cX6_fill_ 227 = .ok (.aload_n 0, 1) := by decide +kernel
theorem dX6_fill__228 : decode cX6_fill_ 228 = .ok (.getfield 47, 3) := by decide +kernel
theorem dX6_fill__231 : decode cX6_fill_ 231 = .ok (.iload 5, 2) := by decide +kernel
theorem dX6_fill__233 : decode cX6_fill_ 233 = .ok (.iaload, 1) := by decide +kernel
theorem dX6_fill__234 : decode cX6_fill_ 234 = .ok (.iadd, 1) := by decide +kernel
theorem dX6_fill__235 : decode cX6_fill_ 235 = .ok (.iastore, 1) := by decide +kernel
theorem dX6_fill__236 : decode cX6_fill_ 236 = .ok (.iload 4, 2) := by decide +kernel
theorem dX6_fill__238 : decode cX6_fill_ 238 = .ok (.iconst 1, 1) := by decide +kernel
theorem dX6_fill__239 : decode cX6_fill_ 239 = .ok (.ishl, 1) := by decide +kernel
theorem dX6_fill__240 : decode cX6_fill_ 240 = .ok (.istore 4, 2) := by decide +kernel
theorem dX6_fill__242 : decode cX6_fill_ 242 = .ok (.goto (-209), 3) := by decide +kernel
theorem dX6_fill__245 : decode cX6_fill_ 245 = .ok (.return_, 1) := by decide +kernel
theorem dX6_costOf_0 : decode cX6_costOf 0 = .ok (.iload_n 2, 1) := by decide +kernel
theorem dX6_costOf_1 : decode cX6_costOf 1 = .ok (.sipush 1024, 3) := by decide +kernel
theorem dX6_costOf_4 : decode cX6_costOf 4 = .ok (.if_icmp .ne 7, 3) := by decide +kernel
theorem dX6_costOf_7 : decode cX6_costOf 7 = .ok (.iconst 0, 1) := by decide +kernel
theorem dX6_costOf_8 : decode cX6_costOf 8 = .ok (.goto 17, 3) := by decide +kernel
theorem dX6_costOf_11 : decode cX6_costOf 11 = .ok (.aload_n 0, 1) := by decide +kernel
theorem dX6_costOf_12 : decode cX6_costOf 12 = .ok (.getfield 19, 3) := by decide +kernel
theorem dX6_costOf_15 : decode cX6_costOf 15 = .ok (.bipush 10, 2) := by decide +kernel
theorem dX6_costOf_17 : decode cX6_costOf 17 = .ok (.iload_n 1, 1) := by decide +kernel
theorem dX6_costOf_18 : decode cX6_costOf 18 = .ok (.imul, 1) := by decide +kernel
theorem dX6_costOf_19 : decode cX6_costOf 19 = .ok (.iload_n 2, 1) := by decide +kernel
theorem dX6_costOf_20 : decode cX6_costOf 20 = .ok (.invokestatic 134, 3) := by decide +kernel
theorem dX6_costOf_23 : decode cX6_costOf 23 = .ok (.iadd, 1) := by decide +kernel
theorem dX6_costOf_24 : decode cX6_costOf 24 = .ok (.iaload, 1) := by decide +kernel
theorem dX6_costOf_25 : decode cX6_costOf 25 = .ok (.ireturn, 1) := by decide +kernel
theorem dX6_columnOfBit_0 : decode cX6_columnOfBit 0 = .ok (.iconst 0, 1) := by decide +kernel
theorem dX6_columnOfBit_1 : decode cX6_columnOfBit 1 = .ok (.istore_n 1, 1) := by decide +kernel
theorem dX6_columnOfBit_2 : decode cX6_columnOfBit 2 = .ok (.iload_n 0, 1) := by decide +kernel
theorem dX6_columnOfBit_3 : decode cX6_columnOfBit 3 = .ok (.iload_n 1, 1) := by decide +kernel
theorem dX6_columnOfBit_4 : decode cX6_columnOfBit 4 = .ok (.ishr, 1) := by decide +kernel
theorem dX6_columnOfBit_5 : decode cX6_columnOfBit 5 = .ok (.iconst 1, 1) := by decide +kernel
theorem dX6_columnOfBit_6 : decode cX6_columnOfBit 6 = .ok (.if_icmp .eq 9, 3) := by decide +kernel
theorem dX6_columnOfBit_9 : decode cX6_columnOfBit 9 = .ok (.iinc 1 1, 3) := by decide +kernel
theorem dX6_columnOfBit_12 : decode cX6_columnOfBit 12 = .ok (.goto (-10), 3) := by decide +kernel
theorem dX6_columnOfBit_15 : decode cX6_columnOfBit 15 = .ok (.iload_n 0, 1) := by decide +kernel
theorem dX6_columnOfBit_16 : decode cX6_columnOfBit 16 = .ok (.sipush 1024, 3) := by decide +kernel
theorem dX6_columnOfBit_19 : decode cX6_columnOfBit 19 = .ok (.if_icmp .ne 7, 3) := by decide +kernel
theorem dX6_columnOfBit_22 : decode cX6_columnOfBit 22 = .ok (.iconst (-1), 1) := by decide +kernel
theorem dX6_columnOfBit_23 : decode cX6_columnOfBit 23 = .ok (.goto 4, 3) := by decide +kernel
theorem dX6_columnOfBit_26 : decode cX6_columnOfBit 26 = .ok (.iload_n 1, 1) := by decide +kernel
theorem dX6_columnOfBit_27 : decode cX6_columnOfBit 27 = .ok (.ireturn, 1) := by decide +kernel
theorem dX6_choose_0 : decode cX6_choose 0 = .ok (.iconst 0, 1) := by decide +kernel
theorem dX6_choose_1 : decode cX6_choose 1 = .ok (.istore_n 1, 1) := by decide +kernel
theorem dX6_choose_2 : decode cX6_choose 2 = .ok (.iconst 0, 1) := by decide +kernel
theorem dX6_choose_3 : decode cX6_choose 3 = .ok (.istore_n 2, 1) := by decide +kernel
theorem dX6_choose_4 : decode cX6_choose 4 = .ok (.iload_n 2, 1) := by decide +kernel
theorem dX6_choose_5 : decode cX6_choose 5 = .ok (.aload_n 0, 1) := by decide +kernel
theorem dX6_choose_6 : decode cX6_choose 6 = .ok (.getfield 81, 3) := by decide +kernel
theorem dX6_choose_9 : decode cX6_choose 9 = .ok (.if_icmp .ge 66, 3) := by decide +kernel
theorem dX6_choose_12 : decode cX6_choose 12 = .ok (.sipush 1024, 3) := by decide +kernel
theorem dX6_choose_15 : decode cX6_choose 15 = .ok (.iload_n 2, 1) := by decide +kernel
theorem dX6_choose_16 : decode cX6_choose 16 = .ok (.imul, 1) := by decide +kernel
theorem dX6_choose_17 : decode cX6_choose 17 = .ok (.iload_n 1, 1) := by decide +kernel
theorem dX6_choose_18 : decode cX6_choose 18 = .ok (.iadd, 1) := by decide +kernel
theorem dX6_choose_19 : decode cX6_choose 19 = .ok (.istore_n 3, 1) := by decide +kernel
theorem dX6_choose_20 : decode cX6_choose 20 = .ok (.iconst 1, 1) := by decide +kernel
theorem dX6_choose_21 : decode cX6_choose 21 = .ok (.istore 4, 2) := by decide +kernel
theorem dX6_choose_23 : decode cX6_choose 23 = .ok (.aload_n 0, 1) := by decide +kernel
theorem dX6_choose_24 : decode cX6_choose 24 = .ok (.iload_n 2, 1) := by decide +kernel
theorem dX6_choose_25 : decode cX6_choose 25 = .ok (.iload_n 1, 1) := by decide +kernel
theorem dX6_choose_26 : decode cX6_choose 26 = .ok (.iload_n 3, 1) := by decide +kernel
theorem dX6_choose_27 : decode cX6_choose 27 = .ok (.iload 4, 2) := by decide +kernel
theorem dX6_choose_29 : decode cX6_choose 29 = .ok (.invokevirtual 137, 3) := by decide +kernel
theorem dX6_choose_32 : decode cX6_choose 32 = .ok (.ifCond .ne 12, 3) := by decide +kernel
theorem dX6_choose_35 : decode cX6_choose 35 = .ok (.iload 4, 2) := by decide +kernel
theorem dX6_choose_37 : decode cX6_choose 37 = .ok (.iconst 1, 1) := by decide +kernel
theorem dX6_choose_38 : decode cX6_choose 38 = .ok (.ishl, 1) := by decide +kernel
theorem dX6_choose_39 : decode cX6_choose 39 = .ok (.istore 4, 2) := by decide +kernel
theorem dX6_choose_41 : decode cX6_choose 41 = .ok (.goto (-18), 3) := by decide +kernel
theorem dX6_choose_44 : decode cX6_choose 44 = .ok (.aload_n 0, 1) := by decide +kernel
theorem dX6_choose_45 : decode cX6_choose 45 = .ok (.getfield 53, 3) := by decide +kernel
theorem dX6_choose_48 : decode cX6_choose 48 = .ok (.iload_n 2, 1) := by decide +kernel
theorem dX6_choose_49 : decode cX6_choose 49 = .ok (.iload 4, 2) := by decide +kernel
theorem dX6_choose_51 : decode cX6_choose 51 = .ok (.iastore, 1) := by decide +kernel
theorem dX6_choose_52 : decode cX6_choose 52 = .ok (.iload_n 1, 1) := by decide +kernel
theorem dX6_choose_53 : decode cX6_choose 53 = .ok (.iload 4, 2) := by decide +kernel
theorem dX6_choose_55 : decode cX6_choose 55 = .ok (.sipush 1024, 3) := by decide +kernel
theorem dX6_choose_58 : decode cX6_choose 58 = .ok (.if_icmp .ne 7, 3) := by decide +kernel
theorem dX6_choose_61 : decode cX6_choose 61 = .ok (.iconst 0, 1) := by decide +kernel
theorem dX6_choose_62 : decode cX6_choose 62 = .ok (.goto 5, 3) := by decide +kernel
theorem dX6_choose_65 : decode cX6_choose 65 = .ok (.iload 4, 2) := by decide +kernel
theorem dX6_choose_67 : decode cX6_choose 67 = .ok (.ior, 1) := by decide +kernel
theorem dX6_choose_68 : decode cX6_choose 68 = .ok (.istore_n 1, 1) := by decide +kernel
theorem dX6_choose_69 : decode cX6_choose 69 = .ok (.iinc 2 1, 3) := by decide +kernel
theorem dX6_choose_72 : decode cX6_choose 72 = .ok (.goto (-68), 3) := by decide +kernel
theorem dX6_choose_75 : decode cX6_choose 75 = .ok (.return_, 1) := by decide +kernel
theorem dX6_isBest_0 : decode cX6_isBest 0 = .ok (.aload_n 0, 1) := by decide +kernel
theorem dX6_isBest_1 : decode cX6_isBest 1 = .ok (.getfield 50, 3) := by decide +kernel
theorem dX6_isBest_4 : decode cX6_isBest 4 = .ok (.iload_n 1, 1) := by decide +kernel
theorem dX6_isBest_5 : decode cX6_isBest 5 = .ok (.iaload, 1) := by decide +kernel
theorem dX6_isBest_6 : decode cX6_isBest 6 = .ok (.iload 4, 2) := by decide +kernel
theorem dX6_isBest_8 : decode cX6_isBest 8 = .ok (.iand, 1) := by decide +kernel
theorem dX6_isBest_9 : decode cX6_isBest 9 = .ok (.ifCond .eq 10, 3) := by decide +kernel
theorem dX6_isBest_12 : decode cX6_isBest 12 = .ok (.iload_n 2, 1) := by decide +kernel
theorem dX6_isBest_13 : decode cX6_isBest 13 = .ok (.iload 4, 2) := by decide +kernel
theorem dX6_isBest_15 : decode cX6_isBest 15 = .ok (.iand, 1) := by decide +kernel
theorem dX6_isBest_16 : decode cX6_isBest 16 = .ok (.ifCond .eq 5, 3) := by decide +kernel
theorem dX6_isBest_19 : decode cX6_isBest 19 = .ok (.iconst 0, 1) := by decide +kernel
theorem dX6_isBest_20 : decode cX6_isBest 20 = .ok (.ireturn, 1) := by decide +kernel
theorem dX6_isBest_21 : decode cX6_isBest 21 = .ok (.sipush 1024, 3) := by decide +kernel
theorem dX6_isBest_24 : decode cX6_isBest 24 = .ok (.iload_n 1, 1) := by decide +kernel
theorem dX6_isBest_25 : decode cX6_isBest 25 = .ok (.iconst 1, 1) := by decide +kernel
theorem dX6_isBest_26 : decode cX6_isBest 26 = .ok (.iadd, 1) := by decide +kernel
theorem dX6_isBest_27 : decode cX6_isBest 27 = .ok (.imul, 1) := by decide +kernel
theorem dX6_isBest_28 : decode cX6_isBest 28 = .ok (.iload 4, 2) := by decide +kernel
theorem dX6_isBest_30 : decode cX6_isBest 30 = .ok (.sipush 1024, 3) := by decide +kernel
theorem dX6_isBest_33 : decode cX6_isBest 33 = .ok (.if_icmp .ne 7, 3) := by decide +kernel
theorem dX6_isBest_36 : decode cX6_isBest 36 = .ok (.iload_n 2, 1) := by decide +kernel
theorem dX6_isBest_37 : decode cX6_isBest 37 = .ok (.goto 7, 3) := by decide +kernel
theorem dX6_isBest_40 : decode cX6_isBest 40 = .ok (.iload_n 2, 1) := by decide +kernel
theorem dX6_isBest_41 : decode cX6_isBest 41 = .ok (.iload 4, 2) := by decide +kernel
theorem dX6_isBest_43 : decode cX6_isBest 43 = .ok (.ior, 1) := by decide +kernel
theorem dX6_isBest_44 : decode cX6_isBest 44 = .ok (.iadd, 1) := by decide +kernel
theorem dX6_isBest_45 : decode cX6_isBest 45 = .ok (.istore 5, 2) := by decide +kernel
theorem dX6_isBest_47 : decode cX6_isBest 47 = .ok (.aload_n 0, 1) := by decide +kernel
theorem dX6_isBest_48 : decode cX6_isBest 48 = .ok (.getfield 41, 3) := by decide +kernel
theorem dX6_isBest_51 : decode cX6_isBest 51 = .ok (.iload 5, 2) := by decide +kernel
theorem dX6_isBest_53 : decode cX6_isBest 53 = .ok (.iaload, 1) := by decide +kernel
theorem dX6_isBest_54 : decode cX6_isBest 54 = .ok (.iload 4, 2) := by decide +kernel
theorem dX6_isBest_56 : decode cX6_isBest 56 = .ok (.sipush 1024, 3) := by decide +kernel
theorem dX6_isBest_59 : decode cX6_isBest 59 = .ok (.if_icmp .ne 7, 3) := by decide +kernel
theorem dX6_isBest_62 : decode cX6_isBest 62 = .ok (.iconst 0, 1) := by decide +kernel
theorem dX6_isBest_63 : decode cX6_isBest 63 = .ok (.goto 4, 3) := by decide +kernel
theorem dX6_isBest_66 : decode cX6_isBest 66 = .ok (.iconst 1, 1) := by decide +kernel
theorem dX6_isBest_67 : decode cX6_isBest 67 = .ok (.iadd, 1) := by decide +kernel
theorem dX6_isBest_68 : decode cX6_isBest 68 = .ok (.aload_n 0, 1) := by decide +kernel
theorem dX6_isBest_69 : decode cX6_isBest 69 = .ok (.getfield 41, 3) := by decide +kernel
theorem dX6_isBest_72 : decode cX6_isBest 72 = .ok (.iload_n 3, 1) := by decide +kernel
theorem dX6_isBest_73 : decode cX6_isBest 73 = .ok (.iaload, 1) := by decide +kernel
theorem dX6_isBest_74 : decode cX6_isBest 74 = .ok (.if_icmp .ne 31, 3) := by decide +kernel
theorem dX6_isBest_77 : decode cX6_isBest 77 = .ok (.aload_n 0, 1) := by decide +kernel
theorem dX6_isBest_78 : decode cX6_isBest 78 = .ok (.getfield 44, 3) := by decide +kernel
theorem dX6_isBest_81 : decode cX6_isBest 81 = .ok (.iload 5, 2) := by decide +kernel
theorem dX6_isBest_83 : decode cX6_isBest 83 = .ok (.iaload, 1) := by decide +kernel
theorem dX6_isBest_84 : decode cX6_isBest 84 = .ok (.aload_n 0, 1) := by decide +kernel
theorem dX6_isBest_85 : decode cX6_isBest 85 = .ok (.iload_n 1, 1) := by decide +kernel
theorem dX6_isBest_86 : decode cX6_isBest 86 = .ok (.iload 4, 2) := by decide +kernel
theorem dX6_isBest_88 : decode cX6_isBest 88 = .ok (.invokevirtual 130, 3) := by decide +kernel
theorem dX6_isBest_91 : decode cX6_isBest 91 = .ok (.iadd, 1) := by decide +kernel
theorem dX6_isBest_92 : decode cX6_isBest 92 = .ok (.aload_n 0, 1) := by decide +kernel
theorem dX6_isBest_93 : decode cX6_isBest 93 = .ok (.getfield 44, 3) := by decide +kernel
theorem dX6_isBest_96 : decode cX6_isBest 96 = .ok (.iload_n 3, 1) := by decide +kernel
theorem dX6_isBest_97 : decode cX6_isBest 97 = .ok (.iaload, 1) := by decide +kernel
theorem dX6_isBest_98 : decode cX6_isBest 98 = .ok (.if_icmp .ne 7, 3) := by decide +kernel
theorem dX6_isBest_101 : decode cX6_isBest 101 = .ok (.iconst 1, 1) := by decide +kernel
theorem dX6_isBest_102 : decode cX6_isBest 102 = .ok (.goto 4, 3) := by decide +kernel
theorem dX6_isBest_105 : decode cX6_isBest 105 = .ok (.iconst 0, 1) := by decide +kernel
theorem dX6_isBest_106 : decode cX6_isBest 106 = .ok (.ireturn, 1) := by decide +kernel
theorem dX6_solve_0 : decode cX6_solve 0 = .ok (.aload_n 0, 1) := by decide +kernel
theorem dX6_solve_1 : decode cX6_solve 1 = .ok (.invokevirtual 141, 3) := by decide +kernel
theorem dX6_solve_4 : decode cX6_solve 4 = .ok (.aload_n 0, 1) := by decide +kernel
theorem dX6_solve_5 : decode cX6_solve 5 = .ok (.invokevirtual 144, 3) := by decide +kernel
theorem dX6_solve_8 : decode cX6_solve 8 = .ok (.return_, 1) := by decide +kernel
theorem dX6_size_0 : decode cX6_size 0 = .ok (.aload_n 0, 1) := by decide +kernel
theorem dX6_size_1 : decode cX6_size 1 = .ok (.iconst 0, 1) := by decide +kernel
theorem dX6_size_2 : decode cX6_size 2 = .ok (.putfield 77, 3) := by decide +kernel
theorem dX6_size_5 : decode cX6_size 5 = .ok (.aload_n 0, 1) := by decide +kernel
theorem dX6_size_6 : decode cX6_size 6 = .ok (.invokevirtual 146, 3) := by decide +kernel
theorem dX6_size_9 : decode cX6_size 9 = .ok (.aload_n 0, 1) := by decide +kernel
theorem dX6_size_10 : decode cX6_size 10 = .ok (.getfield 41, 3) := by decide +kernel
theorem dX6_size_13 : decode cX6_size 13 = .ok (.iconst 0, 1) := by decide +kernel
theorem dX6_size_14 : decode cX6_size 14 = .ok (.iaload, 1) := by decide +kernel
theorem dX6_size_15 : decode cX6_size 15 = .ok (.ireturn, 1) := by decide +kernel
theorem dX6_total_0 : decode cX6_total 0 = .ok (.aload_n 0, 1) := by decide +kernel
theorem dX6_total_1 : decode cX6_total 1 = .ok (.iconst 0, 1) := by decide +kernel
theorem dX6_total_2 : decode cX6_total 2 = .ok (.putfield 77, 3) := by decide +kernel
theorem dX6_total_5 : decode cX6_total 5 = .ok (.aload_n 0, 1) := by decide +kernel
theorem dX6_total_6 : decode cX6_total 6 = .ok (.invokevirtual 146, 3) := by decide +kernel
theorem dX6_total_9 : decode cX6_total 9 = .ok (.aload_n 0, 1) := by decide +kernel
theorem dX6_total_10 : decode cX6_total 10 = .ok (.getfield 44, 3) := by decide +kernel
theorem dX6_total_13 : decode cX6_total 13 = .ok (.iconst 0, 1) := by decide +kernel
theorem dX6_total_14 : decode cX6_total 14 = .ok (.iaload, 1) := by decide +kernel
theorem dX6_total_15 : decode cX6_total 15 = .ok (.ireturn, 1) := by decide +kernel
theorem dX6_meanCost_0 : decode cX6_meanCost 0 = .ok (.aload_n 0, 1) := by decide +kernel
theorem dX6_meanCost_1 : decode cX6_meanCost 1 = .ok (.iconst 0, 1) := by decide +kernel
theorem dX6_meanCost_2 : decode cX6_meanCost 2 = .ok (.putfield 77, 3) := by decide +kernel
theorem dX6_meanCost_5 : decode cX6_meanCost 5 = .ok (.aload_n 0, 1) := by decide +kernel
theorem dX6_meanCost_6 : decode cX6_meanCost 6 = .ok (.invokevirtual 146, 3) := by decide +kernel
theorem dX6_meanCost_9 : decode cX6_meanCost 9 = .ok (.aload_n 0, 1) := by decide +kernel
theorem dX6_meanCost_10 : decode cX6_meanCost 10 = .ok (.getfield 41, 3) := by decide +kernel
theorem dX6_meanCost_13 : decode cX6_meanCost 13 = .ok (.iconst 0, 1) := by decide +kernel
theorem dX6_meanCost_14 : decode cX6_meanCost 14 = .ok (.iaload, 1) := by decide +kernel
theorem dX6_meanCost_15 : decode cX6_meanCost 15 = .ok (.ifCond .ne 7, 3) := by decide +kernel
theorem dX6_meanCost_18 : decode cX6_meanCost 18 = .ok (.dconst 0, 1) := by decide +kernel
theorem dX6_meanCost_19 : decode cX6_meanCost 19 = .ok (.goto 18, 3) := by decide +kernel
theorem dX6_meanCost_22 : decode cX6_meanCost 22 = .ok (.aload_n 0, 1) := by decide +kernel
theorem dX6_meanCost_23 : decode cX6_meanCost 23 = .ok (.getfield 44, 3) := by decide +kernel
theorem dX6_meanCost_26 : decode cX6_meanCost 26 = .ok (.iconst 0, 1) := by decide +kernel
theorem dX6_meanCost_27 : decode cX6_meanCost 27 = .ok (.iaload, 1) := by decide +kernel
theorem dX6_meanCost_28 : decode cX6_meanCost 28 = .ok (.i2d, 1) := by decide +kernel
theorem dX6_meanCost_29 : decode cX6_meanCost 29 = .ok (.aload_n 0, 1) := by decide +kernel
theorem dX6_meanCost_30 : decode cX6_meanCost 30 = .ok (.getfield 41, 3) := by decide +kernel
theorem dX6_meanCost_33 : decode cX6_meanCost 33 = .ok (.iconst 0, 1) := by decide +kernel
theorem dX6_meanCost_34 : decode cX6_meanCost 34 = .ok (.iaload, 1) := by decide +kernel
theorem dX6_meanCost_35 : decode cX6_meanCost 35 = .ok (.i2d, 1) := by decide +kernel
theorem dX6_meanCost_36 : decode cX6_meanCost 36 = .ok (.ddiv, 1) := by decide +kernel
theorem dX6_meanCost_37 : decode cX6_meanCost 37 = .ok (.dreturn, 1) := by decide +kernel
theorem dX6_columnOf_0 : decode cX6_columnOf 0 = .ok (.aload_n 0, 1) := by decide +kernel
theorem dX6_columnOf_1 : decode cX6_columnOf 1 = .ok (.iconst 0, 1) := by decide +kernel
theorem dX6_columnOf_2 : decode cX6_columnOf 2 = .ok (.putfield 77, 3) := by decide +kernel
theorem dX6_columnOf_5 : decode cX6_columnOf 5 = .ok (.aload_n 0, 1) := by decide +kernel
theorem dX6_columnOf_6 : decode cX6_columnOf 6 = .ok (.iload_n 1, 1) := by decide +kernel
theorem dX6_columnOf_7 : decode cX6_columnOf 7 = .ok (.invokevirtual 87, 3) := by decide +kernel
theorem dX6_columnOf_10 : decode cX6_columnOf 10 = .ok (.ifCond .ne 9, 3) := by decide +kernel
theorem dX6_columnOf_13 : decode cX6_columnOf 13 = .ok (.aload_n 0, 1) := by decide +kernel
theorem dX6_columnOf_14 : decode cX6_columnOf 14 = .ok (.iconst 1, 1) := by decide +kernel
theorem dX6_columnOf_15 : decode cX6_columnOf 15 = .ok (.invokevirtual 98, 3) := by decide +kernel
theorem dX6_columnOf_18 : decode cX6_columnOf 18 = .ok (.ireturn, 1) := by decide +kernel
theorem dX6_columnOf_19 : decode cX6_columnOf 19 = .ok (.aload_n 0, 1) := by decide +kernel
theorem dX6_columnOf_20 : decode cX6_columnOf 20 = .ok (.invokevirtual 146, 3) := by decide +kernel
theorem dX6_columnOf_23 : decode cX6_columnOf 23 = .ok (.aload_n 0, 1) := by decide +kernel
theorem dX6_columnOf_24 : decode cX6_columnOf 24 = .ok (.invokevirtual 149, 3) := by decide +kernel
theorem dX6_columnOf_27 : decode cX6_columnOf 27 = .ok (.aload_n 0, 1) := by decide +kernel
theorem dX6_columnOf_28 : decode cX6_columnOf 28 = .ok (.getfield 53, 3) := by decide +kernel
theorem dX6_columnOf_31 : decode cX6_columnOf 31 = .ok (.iload_n 1, 1) := by decide +kernel
theorem dX6_columnOf_32 : decode cX6_columnOf 32 = .ok (.iaload, 1) := by decide +kernel
theorem dX6_columnOf_33 : decode cX6_columnOf 33 = .ok (.invokestatic 134, 3) := by decide +kernel
theorem dX6_columnOf_36 : decode cX6_columnOf 36 = .ok (.ireturn, 1) := by decide +kernel
theorem dX6_rowOf_0 : decode cX6_rowOf 0 = .ok (.aload_n 0, 1) := by decide +kernel
theorem dX6_rowOf_1 : decode cX6_rowOf 1 = .ok (.iconst 0, 1) := by decide +kernel
theorem dX6_rowOf_2 : decode cX6_rowOf 2 = .ok (.putfield 77, 3) := by decide +kernel
theorem dX6_rowOf_5 : decode cX6_rowOf 5 = .ok (.aload_n 0, 1) := by decide +kernel
theorem dX6_rowOf_6 : decode cX6_rowOf 6 = .ok (.iload_n 1, 1) := by decide +kernel
theorem dX6_rowOf_7 : decode cX6_rowOf 7 = .ok (.invokevirtual 91, 3) := by decide +kernel
theorem dX6_rowOf_10 : decode cX6_rowOf 10 = .ok (.ifCond .ne 9, 3) := by decide +kernel
theorem dX6_rowOf_13 : decode cX6_rowOf 13 = .ok (.aload_n 0, 1) := by decide +kernel
theorem dX6_rowOf_14 : decode cX6_rowOf 14 = .ok (.iconst 1, 1) := by decide +kernel
theorem dX6_rowOf_15 : decode cX6_rowOf 15 = .ok (.invokevirtual 98, 3) := by decide +kernel
theorem dX6_rowOf_18 : decode cX6_rowOf 18 = .ok (.ireturn, 1) := by decide +kernel
theorem dX6_rowOf_19 : decode cX6_rowOf 19 = .ok (.aload_n 0, 1) := by decide +kernel
theorem dX6_rowOf_20 : decode cX6_rowOf 20 = .ok (.invokevirtual 146, 3) := by decide +kernel
theorem dX6_rowOf_23 : decode cX6_rowOf 23 = .ok (.aload_n 0, 1) := by decide +kernel
theorem dX6_rowOf_24 : decode cX6_rowOf 24 = .ok (.invokevirtual 149, 3) := by decide +kernel
theorem dX6_rowOf_27 : decode cX6_rowOf 27 = .ok (.iconst 0, 1) := by decide +kernel
theorem dX6_rowOf_28 : decode cX6_rowOf 28 = .ok (.istore_n 2, 1) := by decide +kernel
theorem dX6_rowOf_29 : decode cX6_rowOf 29 = .ok (.iload_n 2, 1) := by decide +kernel
theorem dX6_rowOf_30 : decode cX6_rowOf 30 = .ok (.aload_n 0, 1) := by decide +kernel
theorem dX6_rowOf_31 : decode cX6_rowOf 31 = .ok (.getfield 81, 3) := by decide +kernel
theorem dX6_rowOf_34 : decode cX6_rowOf 34 = .ok (.if_icmp .ge 23, 3) := by decide +kernel
theorem dX6_rowOf_37 : decode cX6_rowOf 37 = .ok (.aload_n 0, 1) := by decide +kernel
theorem dX6_rowOf_38 : decode cX6_rowOf 38 = .ok (.getfield 53, 3) := by decide +kernel
theorem dX6_rowOf_41 : decode cX6_rowOf 41 = .ok (.iload_n 2, 1) := by decide +kernel
theorem dX6_rowOf_42 : decode cX6_rowOf 42 = .ok (.iaload, 1) := by decide +kernel
theorem dX6_rowOf_43 : decode cX6_rowOf 43 = .ok (.iconst 1, 1) := by decide +kernel
theorem dX6_rowOf_44 : decode cX6_rowOf 44 = .ok (.iload_n 1, 1) := by decide +kernel
theorem dX6_rowOf_45 : decode cX6_rowOf 45 = .ok (.ishl, 1) := by decide +kernel
theorem dX6_rowOf_46 : decode cX6_rowOf 46 = .ok (.if_icmp .ne 5, 3) := by decide +kernel
theorem dX6_rowOf_49 : decode cX6_rowOf 49 = .ok (.iload_n 2, 1) := by decide +kernel
theorem dX6_rowOf_50 : decode cX6_rowOf 50 = .ok (.ireturn, 1) := by decide +kernel
theorem dX6_rowOf_51 : decode cX6_rowOf 51 = .ok (.iinc 2 1, 3) := by decide +kernel
theorem dX6_rowOf_54 : decode cX6_rowOf 54 = .ok (.goto (-25), 3) := by decide +kernel
theorem dX6_rowOf_57 : decode cX6_rowOf 57 = .ok (.iconst (-1), 1) := by decide +kernel
theorem dX6_rowOf_58 : decode cX6_rowOf 58 = .ok (.ireturn, 1) := by decide +kernel
theorem dX6_optimalCount_0 : decode cX6_optimalCount 0 = .ok (.aload_n 0, 1) := by decide +kernel
theorem dX6_optimalCount_1 : decode cX6_optimalCount 1 = .ok (.iconst 0, 1) := by decide +kernel
theorem dX6_optimalCount_2 : decode cX6_optimalCount 2 = .ok (.putfield 77, 3) := by decide +kernel
theorem dX6_optimalCount_5 : decode cX6_optimalCount 5 = .ok (.aload_n 0, 1) := by decide +kernel
theorem dX6_optimalCount_6 : decode cX6_optimalCount 6 = .ok (.invokevirtual 146, 3) := by decide +kernel
theorem dX6_optimalCount_9 : decode cX6_optimalCount 9 = .ok (.aload_n 0, 1) := by decide +kernel
theorem dX6_optimalCount_10 : decode cX6_optimalCount 10 = .ok (.getfield 47, 3) := by decide +kernel
theorem dX6_optimalCount_13 : decode cX6_optimalCount 13 = .ok (.iconst 0, 1) := by decide +kernel
theorem dX6_optimalCount_14 : decode cX6_optimalCount 14 = .ok (.iaload, 1) := by decide +kernel
theorem dX6_optimalCount_15 : decode cX6_optimalCount 15 = .ok (.ireturn, 1) := by decide +kernel
theorem dX6_solveWith_0 : decode cX6_solveWith 0 = .ok (.aload_n 0, 1) := by decide +kernel
theorem dX6_solveWith_1 : decode cX6_solveWith 1 = .ok (.invokevirtual 146, 3) := by decide +kernel
theorem dX6_solveWith_4 : decode cX6_solveWith 4 = .ok (.aload_n 0, 1) := by decide +kernel
theorem dX6_solveWith_5 : decode cX6_solveWith 5 = .ok (.getfield 41, 3) := by decide +kernel
theorem dX6_solveWith_8 : decode cX6_solveWith 8 = .ok (.iconst 0, 1) := by decide +kernel
theorem dX6_solveWith_9 : decode cX6_solveWith 9 = .ok (.iaload, 1) := by decide +kernel
theorem dX6_solveWith_10 : decode cX6_solveWith 10 = .ok (.istore_n 3, 1) := by decide +kernel
theorem dX6_solveWith_11 : decode cX6_solveWith 11 = .ok (.aload_n 0, 1) := by decide +kernel
theorem dX6_solveWith_12 : decode cX6_solveWith 12 = .ok (.getfield 50, 3) := by decide +kernel
theorem dX6_solveWith_15 : decode cX6_solveWith 15 = .ok (.iload_n 1, 1) := by decide +kernel
theorem dX6_solveWith_16 : decode cX6_solveWith 16 = .ok (.dup2, 1) := by decide +kernel
theorem dX6_solveWith_17 : decode cX6_solveWith 17 = .ok (.iaload, 1) := by decide +kernel
theorem dX6_solveWith_18 : decode cX6_solveWith 18 = .ok (.iload_n 2, 1) := by decide +kernel
theorem dX6_solveWith_19 : decode cX6_solveWith 19 = .ok (.iand, 1) := by decide +kernel
theorem dX6_solveWith_20 : decode cX6_solveWith 20 = .ok (.iastore, 1) := by decide +kernel
theorem dX6_solveWith_21 : decode cX6_solveWith 21 = .ok (.aload_n 0, 1) := by decide +kernel
theorem dX6_solveWith_22 : decode cX6_solveWith 22 = .ok (.invokevirtual 144, 3) := by decide +kernel
theorem dX6_solveWith_25 : decode cX6_solveWith 25 = .ok (.aload_n 0, 1) := by decide +kernel
theorem dX6_solveWith_26 : decode cX6_solveWith 26 = .ok (.aload_n 0, 1) := by decide +kernel
theorem dX6_solveWith_27 : decode cX6_solveWith 27 = .ok (.getfield 41, 3) := by decide +kernel
theorem dX6_solveWith_30 : decode cX6_solveWith 30 = .ok (.iconst 0, 1) := by decide +kernel
theorem dX6_solveWith_31 : decode cX6_solveWith 31 = .ok (.iaload, 1) := by decide +kernel
theorem dX6_solveWith_32 : decode cX6_solveWith 32 = .ok (.iload_n 3, 1) := by decide +kernel
theorem dX6_solveWith_33 : decode cX6_solveWith 33 = .ok (.if_icmp .ne 7, 3) := by decide +kernel
theorem dX6_solveWith_36 : decode cX6_solveWith 36 = .ok (.iconst 1, 1) := by decide +kernel
theorem dX6_solveWith_37 : decode cX6_solveWith 37 = .ok (.goto 4, 3) := by decide +kernel
theorem dX6_solveWith_40 : decode cX6_solveWith 40 = .ok (.iconst 0, 1) := by decide +kernel
theorem dX6_solveWith_41 : decode cX6_solveWith 41 = .ok (.putfield 152, 3) := by decide +kernel
theorem dX6_solveWith_44 : decode cX6_solveWith 44 = .ok (.aload_n 0, 1) := by decide +kernel
theorem dX6_solveWith_45 : decode cX6_solveWith 45 = .ok (.aload_n 0, 1) := by decide +kernel
theorem dX6_solveWith_46 : decode cX6_solveWith 46 = .ok (.getfield 44, 3) := by decide +kernel
theorem dX6_solveWith_49 : decode cX6_solveWith 49 = .ok (.iconst 0, 1) := by decide +kernel
theorem dX6_solveWith_50 : decode cX6_solveWith 50 = .ok (.iaload, 1) := by decide +kernel
theorem dX6_solveWith_51 : decode cX6_solveWith 51 = .ok (.putfield 156, 3) := by decide +kernel
theorem dX6_solveWith_54 : decode cX6_solveWith 54 = .ok (.return_, 1) := by decide +kernel
theorem dX6_isPossible_0 : decode cX6_isPossible 0 = .ok (.aload_n 0, 1) := by decide +kernel
theorem dX6_isPossible_1 : decode cX6_isPossible 1 = .ok (.iconst 0, 1) := by decide +kernel
theorem dX6_isPossible_2 : decode cX6_isPossible 2 = .ok (.putfield 77, 3) := by decide +kernel
theorem dX6_isPossible_5 : decode cX6_isPossible 5 = .ok (.aload_n 0, 1) := by decide +kernel
theorem dX6_isPossible_6 : decode cX6_isPossible 6 = .ok (.iload_n 1, 1) := by decide +kernel
theorem dX6_isPossible_7 : decode cX6_isPossible 7 = .ok (.iload_n 2, 1) := by decide +kernel
theorem dX6_isPossible_8 : decode cX6_isPossible 8 = .ok (.invokevirtual 105, 3) := by decide +kernel
theorem dX6_isPossible_11 : decode cX6_isPossible 11 = .ok (.ifCond .ne 9, 3) := by decide +kernel
theorem dX6_isPossible_14 : decode cX6_isPossible 14 = .ok (.aload_n 0, 1) := by decide +kernel
theorem dX6_isPossible_15 : decode cX6_isPossible 15 = .ok (.iconst 1, 1) := by decide +kernel
theorem dX6_isPossible_16 : decode cX6_isPossible 16 = .ok (.invokevirtual 102, 3) := by decide +kernel
theorem dX6_isPossible_19 : decode cX6_isPossible 19 = .ok (.ireturn, 1) := by decide +kernel
theorem dX6_isPossible_20 : decode cX6_isPossible 20 = .ok (.aload_n 0, 1) := by decide +kernel
theorem dX6_isPossible_21 : decode cX6_isPossible 21 = .ok (.invokevirtual 146, 3) := by decide +kernel
theorem dX6_isPossible_24 : decode cX6_isPossible 24 = .ok (.aload_n 0, 1) := by decide +kernel
theorem dX6_isPossible_25 : decode cX6_isPossible 25 = .ok (.getfield 44, 3) := by decide +kernel
theorem dX6_isPossible_28 : decode cX6_isPossible 28 = .ok (.iconst 0, 1) := by decide +kernel
theorem dX6_isPossible_29 : decode cX6_isPossible 29 = .ok (.iaload, 1) := by decide +kernel
theorem dX6_isPossible_30 : decode cX6_isPossible 30 = .ok (.istore_n 3, 1) := by decide +kernel
theorem dX6_isPossible_31 : decode cX6_isPossible 31 = .ok (.aload_n 0, 1) := by decide +kernel
theorem dX6_isPossible_32 : decode cX6_isPossible 32 = .ok (.iload_n 1, 1) := by decide +kernel
theorem dX6_isPossible_33 : decode cX6_isPossible 33 = .ok (.iconst 1, 1) := by decide +kernel
theorem dX6_isPossible_34 : decode cX6_isPossible 34 = .ok (.iload_n 2, 1) := by decide +kernel
theorem dX6_isPossible_35 : decode cX6_isPossible 35 = .ok (.ishl, 1) := by decide +kernel
theorem dX6_isPossible_36 : decode cX6_isPossible 36 = .ok (.invokevirtual 159, 3) := by decide +kernel
theorem dX6_isPossible_39 : decode cX6_isPossible 39 = .ok (.aload_n 0, 1) := by decide +kernel
theorem dX6_isPossible_40 : decode cX6_isPossible 40 = .ok (.getfield 152, 3) := by decide +kernel
theorem dX6_isPossible_43 : decode cX6_isPossible 43 = .ok (.ifCond .eq 15, 3) := by decide +kernel
theorem dX6_isPossible_46 : decode cX6_isPossible 46 = .ok (.aload_n 0, 1) := by decide +kernel
theorem dX6_isPossible_47 : decode cX6_isPossible 47 = .ok (.getfield 156, 3) := by decide +kernel
theorem dX6_isPossible_50 : decode cX6_isPossible 50 = .ok (.iload_n 3, 1) := by decide +kernel
theorem dX6_isPossible_51 : decode cX6_isPossible 51 = .ok (.if_icmp .ne 7, 3) := by decide +kernel
theorem dX6_isPossible_54 : decode cX6_isPossible 54 = .ok (.iconst 1, 1) := by decide +kernel
theorem dX6_isPossible_55 : decode cX6_isPossible 55 = .ok (.goto 4, 3) := by decide +kernel
theorem dX6_isPossible_58 : decode cX6_isPossible 58 = .ok (.iconst 0, 1) := by decide +kernel
theorem dX6_isPossible_59 : decode cX6_isPossible 59 = .ok (.ireturn, 1) := by decide +kernel
theorem dX6_isCertain_0 : decode cX6_isCertain 0 = .ok (.aload_n 0, 1) := by decide +kernel
theorem dX6_isCertain_1 : decode cX6_isCertain 1 = .ok (.iconst 0, 1) := by decide +kernel
theorem dX6_isCertain_2 : decode cX6_isCertain 2 = .ok (.putfield 77, 3) := by decide +kernel
theorem dX6_isCertain_5 : decode cX6_isCertain 5 = .ok (.aload_n 0, 1) := by decide +kernel
theorem dX6_isCertain_6 : decode cX6_isCertain 6 = .ok (.iload_n 1, 1) := by decide +kernel
theorem dX6_isCertain_7 : decode cX6_isCertain 7 = .ok (.iload_n 2, 1) := by decide +kernel
theorem dX6_isCertain_8 : decode cX6_isCertain 8 = .ok (.invokevirtual 105, 3) := by decide +kernel
theorem dX6_isCertain_11 : decode cX6_isCertain 11 = .ok (.ifCond .ne 9, 3) := by decide +kernel
theorem dX6_isCertain_14 : decode cX6_isCertain 14 = .ok (.aload_n 0, 1) := by decide +kernel
theorem dX6_isCertain_15 : decode cX6_isCertain 15 = .ok (.iconst 1, 1) := by decide +kernel
theorem dX6_isCertain_16 : decode cX6_isCertain 16 = .ok (.invokevirtual 102, 3) := by decide +kernel
theorem dX6_isCertain_19 : decode cX6_isCertain 19 = .ok (.ireturn, 1) := by decide +kernel
theorem dX6_isCertain_20 : decode cX6_isCertain 20 = .ok (.aload_n 0, 1) := by decide +kernel
theorem dX6_isCertain_21 : decode cX6_isCertain 21 = .ok (.invokevirtual 146, 3) := by decide +kernel
theorem dX6_isCertain_24 : decode cX6_isCertain 24 = .ok (.aload_n 0, 1) := by decide +kernel
theorem dX6_isCertain_25 : decode cX6_isCertain 25 = .ok (.getfield 44, 3) := by decide +kernel
theorem dX6_isCertain_28 : decode cX6_isCertain 28 = .ok (.iconst 0, 1) := by decide +kernel
theorem dX6_isCertain_29 : decode cX6_isCertain 29 = .ok (.iaload, 1) := by decide +kernel
theorem dX6_isCertain_30 : decode cX6_isCertain 30 = .ok (.istore_n 3, 1) := by decide +kernel
theorem dX6_isCertain_31 : decode cX6_isCertain 31 = .ok (.aload_n 0, 1) := by decide +kernel
theorem dX6_isCertain_32 : decode cX6_isCertain 32 = .ok (.iload_n 1, 1) := by decide +kernel
theorem dX6_isCertain_33 : decode cX6_isCertain 33 = .ok (.iconst 1, 1) := by decide +kernel
theorem dX6_isCertain_34 : decode cX6_isCertain 34 = .ok (.iload_n 2, 1) := by decide +kernel
theorem dX6_isCertain_35 : decode cX6_isCertain 35 = .ok (.ishl, 1) := by decide +kernel
theorem dX6_isCertain_36 : decode cX6_isCertain 36 = .ok (.iconst (-1), 1) := by decide +kernel
theorem dX6_isCertain_37 : decode cX6_isCertain 37 = .ok (.ixor, 1) := by decide +kernel
theorem dX6_isCertain_38 : decode cX6_isCertain 38 = .ok (.invokevirtual 159, 3) := by decide +kernel
theorem dX6_isCertain_41 : decode cX6_isCertain 41 = .ok (.aload_n 0, 1) := by decide +kernel
theorem dX6_isCertain_42 : decode cX6_isCertain 42 = .ok (.getfield 152, 3) := by decide +kernel
theorem dX6_isCertain_45 : decode cX6_isCertain 45 = .ok (.ifCond .eq 11, 3) := by decide +kernel
theorem dX6_isCertain_48 : decode cX6_isCertain 48 = .ok (.aload_n 0, 1) := by decide +kernel
theorem dX6_isCertain_49 : decode cX6_isCertain 49 = .ok (.getfield 156, 3) := by decide +kernel
theorem dX6_isCertain_52 : decode cX6_isCertain 52 = .ok (.iload_n 3, 1) := by decide +kernel
theorem dX6_isCertain_53 : decode cX6_isCertain 53 = .ok (.if_icmp .eq 7, 3) := by decide +kernel
theorem dX6_isCertain_56 : decode cX6_isCertain 56 = .ok (.iconst 1, 1) := by decide +kernel
theorem dX6_isCertain_57 : decode cX6_isCertain 57 = .ok (.goto 4, 3) := by decide +kernel
theorem dX6_isCertain_60 : decode cX6_isCertain 60 = .ok (.iconst 0, 1) := by decide +kernel
theorem dX6_isCertain_61 : decode cX6_isCertain 61 = .ok (.ireturn, 1) := by decide +kernel
theorem dX6_regret_0 : decode cX6_regret 0 = .ok (.aload_n 0, 1) := by decide +kernel
theorem dX6_regret_1 : decode cX6_regret 1 = .ok (.iconst 0, 1) := by decide +kernel
theorem dX6_regret_2 : decode cX6_regret 2 = .ok (.putfield 77, 3) := by decide +kernel
theorem dX6_regret_5 : decode cX6_regret 5 = .ok (.aload_n 0, 1) := by decide +kernel
theorem dX6_regret_6 : decode cX6_regret 6 = .ok (.iload_n 1, 1) := by decide +kernel
theorem dX6_regret_7 : decode cX6_regret 7 = .ok (.iload_n 2, 1) := by decide +kernel
theorem dX6_regret_8 : decode cX6_regret 8 = .ok (.invokevirtual 105, 3) := by decide +kernel
theorem dX6_regret_11 : decode cX6_regret 11 = .ok (.ifCond .ne 9, 3) := by decide +kernel
theorem dX6_regret_14 : decode cX6_regret 14 = .ok (.aload_n 0, 1) := by decide +kernel
theorem dX6_regret_15 : decode cX6_regret 15 = .ok (.iconst 1, 1) := by decide +kernel
theorem dX6_regret_16 : decode cX6_regret 16 = .ok (.invokevirtual 98, 3) := by decide +kernel
theorem dX6_regret_19 : decode cX6_regret 19 = .ok (.ireturn, 1) := by decide +kernel
theorem dX6_regret_20 : decode cX6_regret 20 = .ok (.aload_n 0, 1) := by decide +kernel
theorem dX6_regret_21 : decode cX6_regret 21 = .ok (.iload_n 1, 1) := by decide +kernel
theorem dX6_regret_22 : decode cX6_regret 22 = .ok (.iload_n 2, 1) := by decide +kernel
theorem dX6_regret_23 : decode cX6_regret 23 = .ok (.invokevirtual 123, 3) := by decide +kernel
theorem dX6_regret_26 : decode cX6_regret 26 = .ok (.ifCond .ne 9, 3) := by decide +kernel
theorem dX6_regret_29 : decode cX6_regret 29 = .ok (.aload_n 0, 1) := by decide +kernel
theorem dX6_regret_30 : decode cX6_regret 30 = .ok (.iconst 2, 1) := by decide +kernel
theorem dX6_regret_31 : decode cX6_regret 31 = .ok (.invokevirtual 98, 3) := by decide +kernel
theorem dX6_regret_34 : decode cX6_regret 34 = .ok (.ireturn, 1) := by decide +kernel
theorem dX6_regret_35 : decode cX6_regret 35 = .ok (.aload_n 0, 1) := by decide +kernel
theorem dX6_regret_36 : decode cX6_regret 36 = .ok (.invokevirtual 146, 3) := by decide +kernel
theorem dX6_regret_39 : decode cX6_regret 39 = .ok (.aload_n 0, 1) := by decide +kernel
theorem dX6_regret_40 : decode cX6_regret 40 = .ok (.getfield 44, 3) := by decide +kernel
theorem dX6_regret_43 : decode cX6_regret 43 = .ok (.iconst 0, 1) := by decide +kernel
theorem dX6_regret_44 : decode cX6_regret 44 = .ok (.iaload, 1) := by decide +kernel
theorem dX6_regret_45 : decode cX6_regret 45 = .ok (.istore_n 3, 1) := by decide +kernel
theorem dX6_regret_46 : decode cX6_regret 46 = .ok (.aload_n 0, 1) := by decide +kernel
theorem dX6_regret_47 : decode cX6_regret 47 = .ok (.iload_n 1, 1) := by decide +kernel
theorem dX6_regret_48 : decode cX6_regret 48 = .ok (.iconst 1, 1) := by decide +kernel
theorem dX6_regret_49 : decode cX6_regret 49 = .ok (.iload_n 2, 1) := by decide +kernel
theorem dX6_regret_50 : decode cX6_regret 50 = .ok (.ishl, 1) := by decide +kernel
theorem dX6_regret_51 : decode cX6_regret 51 = .ok (.invokevirtual 159, 3) := by decide +kernel
theorem dX6_regret_54 : decode cX6_regret 54 = .ok (.aload_n 0, 1) := by decide +kernel
theorem dX6_regret_55 : decode cX6_regret 55 = .ok (.getfield 152, 3) := by decide +kernel
theorem dX6_regret_58 : decode cX6_regret 58 = .ok (.ifCond .eq 12, 3) := by decide +kernel
theorem dX6_regret_61 : decode cX6_regret 61 = .ok (.aload_n 0, 1) := by decide +kernel
theorem dX6_regret_62 : decode cX6_regret 62 = .ok (.getfield 156, 3) := by decide +kernel
theorem dX6_regret_65 : decode cX6_regret 65 = .ok (.iload_n 3, 1) := by decide +kernel
theorem dX6_regret_66 : decode cX6_regret 66 = .ok (.isub, 1) := by decide +kernel
theorem dX6_regret_67 : decode cX6_regret 67 = .ok (.goto 4, 3) := by decide +kernel
theorem dX6_regret_70 : decode cX6_regret 70 = .ok (.iconst (-1), 1) := by decide +kernel
theorem dX6_regret_71 : decode cX6_regret 71 = .ok (.ireturn, 1) := by decide +kernel
theorem dX6_loss_0 : decode cX6_loss 0 = .ok (.aload_n 0, 1) := by decide +kernel
theorem dX6_loss_1 : decode cX6_loss 1 = .ok (.iconst 0, 1) := by decide +kernel
theorem dX6_loss_2 : decode cX6_loss 2 = .ok (.putfield 77, 3) := by decide +kernel
theorem dX6_loss_5 : decode cX6_loss 5 = .ok (.aload_n 0, 1) := by decide +kernel
theorem dX6_loss_6 : decode cX6_loss 6 = .ok (.iload_n 1, 1) := by decide +kernel
theorem dX6_loss_7 : decode cX6_loss 7 = .ok (.iload_n 2, 1) := by decide +kernel
theorem dX6_loss_8 : decode cX6_loss 8 = .ok (.invokevirtual 105, 3) := by decide +kernel
theorem dX6_loss_11 : decode cX6_loss 11 = .ok (.ifCond .ne 9, 3) := by decide +kernel
theorem dX6_loss_14 : decode cX6_loss 14 = .ok (.aload_n 0, 1) := by decide +kernel
theorem dX6_loss_15 : decode cX6_loss 15 = .ok (.iconst 1, 1) := by decide +kernel
theorem dX6_loss_16 : decode cX6_loss 16 = .ok (.invokevirtual 98, 3) := by decide +kernel
theorem dX6_loss_19 : decode cX6_loss 19 = .ok (.ireturn, 1) := by decide +kernel
theorem dX6_loss_20 : decode cX6_loss 20 = .ok (.aload_n 0, 1) := by decide +kernel
theorem dX6_loss_21 : decode cX6_loss 21 = .ok (.invokevirtual 146, 3) := by decide +kernel
theorem dX6_loss_24 : decode cX6_loss 24 = .ok (.aload_n 0, 1) := by decide +kernel
theorem dX6_loss_25 : decode cX6_loss 25 = .ok (.getfield 44, 3) := by decide +kernel
theorem dX6_loss_28 : decode cX6_loss 28 = .ok (.iconst 0, 1) := by decide +kernel
theorem dX6_loss_29 : decode cX6_loss 29 = .ok (.iaload, 1) := by decide +kernel
theorem dX6_loss_30 : decode cX6_loss 30 = .ok (.istore_n 3, 1) := by decide +kernel
theorem dX6_loss_31 : decode cX6_loss 31 = .ok (.aload_n 0, 1) := by decide +kernel
theorem dX6_loss_32 : decode cX6_loss 32 = .ok (.iload_n 1, 1) := by decide +kernel
theorem dX6_loss_33 : decode cX6_loss 33 = .ok (.iconst 1, 1) := by decide +kernel
theorem dX6_loss_34 : decode cX6_loss 34 = .ok (.iload_n 2, 1) := by decide +kernel
theorem dX6_loss_35 : decode cX6_loss 35 = .ok (.ishl, 1) := by decide +kernel
theorem dX6_loss_36 : decode cX6_loss 36 = .ok (.iconst (-1), 1) := by decide +kernel
theorem dX6_loss_37 : decode cX6_loss 37 = .ok (.ixor, 1) := by decide +kernel
theorem dX6_loss_38 : decode cX6_loss 38 = .ok (.invokevirtual 159, 3) := by decide +kernel
theorem dX6_loss_41 : decode cX6_loss 41 = .ok (.aload_n 0, 1) := by decide +kernel
theorem dX6_loss_42 : decode cX6_loss 42 = .ok (.getfield 152, 3) := by decide +kernel
theorem dX6_loss_45 : decode cX6_loss 45 = .ok (.ifCond .eq 12, 3) := by decide +kernel
theorem dX6_loss_48 : decode cX6_loss 48 = .ok (.aload_n 0, 1) := by decide +kernel
theorem dX6_loss_49 : decode cX6_loss 49 = .ok (.getfield 156, 3) := by decide +kernel
theorem dX6_loss_52 : decode cX6_loss 52 = .ok (.iload_n 3, 1) := by decide +kernel
theorem dX6_loss_53 : decode cX6_loss 53 = .ok (.isub, 1) := by decide +kernel
theorem dX6_loss_54 : decode cX6_loss 54 = .ok (.goto 4, 3) := by decide +kernel
theorem dX6_loss_57 : decode cX6_loss 57 = .ok (.iconst (-1), 1) := by decide +kernel
theorem dX6_loss_58 : decode cX6_loss 58 = .ok (.ireturn, 1) := by decide +kernel
theorem dX6_greatestCost_0 : decode cX6_greatestCost 0 = .ok (.aload_n 0, 1) := by decide +kernel
theorem dX6_greatestCost_1 : decode cX6_greatestCost 1 = .ok (.iconst 0, 1) := by decide +kernel
theorem dX6_greatestCost_2 : decode cX6_greatestCost 2 = .ok (.putfield 77, 3) := by decide +kernel
theorem dX6_greatestCost_5 : decode cX6_greatestCost 5 = .ok (.aload_n 0, 1) := by decide +kernel
theorem dX6_greatestCost_6 : decode cX6_greatestCost 6 = .ok (.iload_n 1, 1) := by decide +kernel
theorem dX6_greatestCost_7 : decode cX6_greatestCost 7 = .ok (.iload_n 2, 1) := by decide +kernel
theorem dX6_greatestCost_8 : decode cX6_greatestCost 8 = .ok (.invokevirtual 105, 3) := by decide +kernel
theorem dX6_greatestCost_11 : decode cX6_greatestCost 11 = .ok (.ifCond .ne 9, 3) := by decide +kernel
theorem dX6_greatestCost_14 : decode cX6_greatestCost 14 = .ok (.aload_n 0, 1) := by decide +kernel
theorem dX6_greatestCost_15 : decode cX6_greatestCost 15 = .ok (.iconst 1, 1) := by decide +kernel
theorem dX6_greatestCost_16 : decode cX6_greatestCost 16 = .ok (.invokevirtual 98, 3) := by decide +kernel
theorem dX6_greatestCost_19 : decode cX6_greatestCost 19 = .ok (.ireturn, 1) := by decide +kernel
theorem dX6_greatestCost_20 : decode cX6_greatestCost 20 = .ok (.aload_n 0, 1) := by decide +kernel
theorem dX6_greatestCost_21 : decode cX6_greatestCost 21 = .ok (.iload_n 1, 1) := by decide +kernel
theorem dX6_greatestCost_22 : decode cX6_greatestCost 22 = .ok (.iload_n 2, 1) := by decide +kernel
theorem dX6_greatestCost_23 : decode cX6_greatestCost 23 = .ok (.invokevirtual 123, 3) := by decide +kernel
theorem dX6_greatestCost_26 : decode cX6_greatestCost 26 = .ok (.ifCond .ne 9, 3) := by decide +kernel
theorem dX6_greatestCost_29 : decode cX6_greatestCost 29 = .ok (.aload_n 0, 1) := by decide +kernel
theorem dX6_greatestCost_30 : decode cX6_greatestCost 30 = .ok (.iconst 2, 1) := by decide +kernel
theorem dX6_greatestCost_31 : decode cX6_greatestCost 31 = .ok (.invokevirtual 98, 3) := by decide +kernel
theorem dX6_greatestCost_34 : decode cX6_greatestCost 34 = .ok (.ireturn, 1) := by decide +kernel
theorem dX6_greatestCost_35 : decode cX6_greatestCost 35 = .ok (.aload_n 0, 1) := by decide +kernel
theorem dX6_greatestCost_36 : decode cX6_greatestCost 36 = .ok (.iload_n 1, 1) := by decide +kernel
theorem dX6_greatestCost_37 : decode cX6_greatestCost 37 = .ok (.iconst 1, 1) := by decide +kernel
theorem dX6_greatestCost_38 : decode cX6_greatestCost 38 = .ok (.iload_n 2, 1) := by decide +kernel
theorem dX6_greatestCost_39 : decode cX6_greatestCost 39 = .ok (.ishl, 1) := by decide +kernel
theorem dX6_greatestCost_40 : decode cX6_greatestCost 40 = .ok (.invokevirtual 159, 3) := by decide +kernel
theorem dX6_greatestCost_43 : decode cX6_greatestCost 43 = .ok (.aload_n 0, 1) := by decide +kernel
theorem dX6_greatestCost_44 : decode cX6_greatestCost 44 = .ok (.getfield 152, 3) := by decide +kernel
theorem dX6_greatestCost_47 : decode cX6_greatestCost 47 = .ok (.ifCond .ne 7, 3) := by decide +kernel
theorem dX6_greatestCost_50 : decode cX6_greatestCost 50 = .ok (.sipush (-20000), 3) := by decide +kernel
theorem dX6_greatestCost_53 : decode cX6_greatestCost 53 = .ok (.ireturn, 1) := by decide +kernel
theorem dX6_greatestCost_54 : decode cX6_greatestCost 54 = .ok (.aload_n 0, 1) := by decide +kernel
theorem dX6_greatestCost_55 : decode cX6_greatestCost 55 = .ok (.getfield 156, 3) := by decide +kernel
theorem dX6_greatestCost_58 : decode cX6_greatestCost 58 = .ok (.aload_n 0, 1) := by decide +kernel
theorem dX6_greatestCost_59 : decode cX6_greatestCost 59 = .ok (.getfield 19, 3) := by decide +kernel
theorem dX6_greatestCost_62 : decode cX6_greatestCost 62 = .ok (.bipush 10, 2) := by decide +kernel
theorem dX6_greatestCost_64 : decode cX6_greatestCost 64 = .ok (.iload_n 1, 1) := by decide +kernel
theorem dX6_greatestCost_65 : decode cX6_greatestCost 65 = .ok (.imul, 1) := by decide +kernel
theorem dX6_greatestCost_66 : decode cX6_greatestCost 66 = .ok (.iload_n 2, 1) := by decide +kernel
end
section
theorem dX6_greatestCost_67 : decode cX6_greatestCost 67 = .ok (.iadd, 1) := by decide +kernel
theorem dX6_greatestCost_68 : decode cX6_greatestCost 68 = .ok (.iaload, 1) := by decide +kernel
theorem dX6_greatestCost_69 : decode cX6_greatestCost 69 = .ok (.isub, 1) := by decide +kernel
theorem dX6_greatestCost_70 : decode cX6_greatestCost 70 = .ok (.istore_n 3, 1) := by decide +kernel
theorem dX6_greatestCost_71 : decode cX6_greatestCost 71 = .ok (.aload_n 0, 1) := by decide +kernel
theorem dX6_greatestCost_72 : decode cX6_greatestCost 72 = .ok (.iload_n 1, 1) := by decide +kernel
theorem dX6_greatestCost_73 : decode cX6_greatestCost 73 = .ok (.iconst 1, 1) := by decide +kernel
theorem dX6_greatestCost_74 : decode cX6_greatestCost 74 = .ok (.iload_n 2, 1) := by decide +kernel
theorem dX6_greatestCost_75 : decode cX6_greatestCost 75 = .ok (.ishl, 1) := by decide +kernel
theorem dX6_greatestCost_76 : decode cX6_greatestCost 76 = .ok (.iconst (-1), 1) := by decide +kernel
theorem dX6_greatestCost_77 : decode cX6_greatestCost 77 = .ok (.ixor, 1) := by decide +kernel
theorem dX6_greatestCost_78 : decode cX6_greatestCost 78 = .ok (.invokevirtual 159, 3) := by decide +kernel
theorem dX6_greatestCost_81 : decode cX6_greatestCost 81 = .ok (.aload_n 0, 1) := by decide +kernel
theorem dX6_greatestCost_82 : decode cX6_greatestCost 82 = .ok (.getfield 152, 3) := by decide +kernel
theorem dX6_greatestCost_85 : decode cX6_greatestCost 85 = .ok (.ifCond .eq 18, 3) := by decide +kernel
theorem dX6_greatestCost_88 : decode cX6_greatestCost 88 = .ok (.aload_n 0, 1) := by decide +kernel
theorem dX6_greatestCost_89 : decode cX6_greatestCost 89 = .ok (.getfield 156, 3) := by decide +kernel
theorem dX6_greatestCost_92 : decode cX6_greatestCost 92 = .ok (.iload_n 3, 1) := by decide +kernel
theorem dX6_greatestCost_93 : decode cX6_greatestCost 93 = .ok (.isub, 1) := by decide +kernel
theorem dX6_greatestCost_94 : decode cX6_greatestCost 94 = .ok (.sipush 10000, 3) := by decide +kernel
theorem dX6_greatestCost_97 : decode cX6_greatestCost 97 = .ok (.invokestatic 162, 3) := by decide +kernel
theorem dX6_greatestCost_100 : decode cX6_greatestCost 100 = .ok (.goto 6, 3) := by decide +kernel
theorem dX6_greatestCost_103 : decode cX6_greatestCost 103 = .ok (.sipush 10000, 3) := by decide +kernel
theorem dX6_greatestCost_106 : decode cX6_greatestCost 106 = .ok (.istore 4, 2) := by decide +kernel
theorem dX6_greatestCost_108 : decode cX6_greatestCost 108 = .ok (.iload 4, 2) := by decide +kernel
theorem dX6_greatestCost_110 : decode cX6_greatestCost 110 = .ok (.sipush (-10000), 3) := by decide +kernel
theorem dX6_greatestCost_113 : decode cX6_greatestCost 113 = .ok (.if_icmp .ge 9, 3) := by decide +kernel
theorem dX6_greatestCost_116 : decode cX6_greatestCost 116 = .ok (.sipush (-20000), 3) := by decide +kernel
theorem dX6_greatestCost_119 : decode cX6_greatestCost 119 = .ok (.goto 5, 3) := by decide +kernel
theorem dX6_greatestCost_122 : decode cX6_greatestCost 122 = .ok (.iload 4, 2) := by decide +kernel
theorem dX6_greatestCost_124 : decode cX6_greatestCost 124 = .ok (.ireturn, 1) := by decide +kernel
theorem dX6_addPart_0 : decode cX6_addPart 0 = .ok (.aload_n 0, 1) := by decide +kernel
theorem dX6_addPart_1 : decode cX6_addPart 1 = .ok (.invokevirtual 141, 3) := by decide +kernel
theorem dX6_addPart_4 : decode cX6_addPart 4 = .ok (.iconst 0, 1) := by decide +kernel
theorem dX6_addPart_5 : decode cX6_addPart 5 = .ok (.istore 6, 2) := by decide +kernel
theorem dX6_addPart_7 : decode cX6_addPart 7 = .ok (.iload 6, 2) := by decide +kernel
theorem dX6_addPart_9 : decode cX6_addPart 9 = .ok (.iload_n 3, 1) := by decide +kernel
theorem dX6_addPart_10 : decode cX6_addPart 10 = .ok (.if_icmp .ge 22, 3) := by decide +kernel
theorem dX6_addPart_13 : decode cX6_addPart 13 = .ok (.aload_n 0, 1) := by decide +kernel
theorem dX6_addPart_14 : decode cX6_addPart 14 = .ok (.getfield 50, 3) := by decide +kernel
theorem dX6_addPart_17 : decode cX6_addPart 17 = .ok (.iload 6, 2) := by decide +kernel
theorem dX6_addPart_19 : decode cX6_addPart 19 = .ok (.aload_n 1, 1) := by decide +kernel
theorem dX6_addPart_20 : decode cX6_addPart 20 = .ok (.iload_n 2, 1) := by decide +kernel
theorem dX6_addPart_21 : decode cX6_addPart 21 = .ok (.iload 6, 2) := by decide +kernel
theorem dX6_addPart_23 : decode cX6_addPart 23 = .ok (.iadd, 1) := by decide +kernel
theorem dX6_addPart_24 : decode cX6_addPart 24 = .ok (.iaload, 1) := by decide +kernel
theorem dX6_addPart_25 : decode cX6_addPart 25 = .ok (.iastore, 1) := by decide +kernel
theorem dX6_addPart_26 : decode cX6_addPart 26 = .ok (.iinc 6 1, 3) := by decide +kernel
theorem dX6_addPart_29 : decode cX6_addPart 29 = .ok (.goto (-22), 3) := by decide +kernel
theorem dX6_addPart_32 : decode cX6_addPart 32 = .ok (.iload_n 3, 1) := by decide +kernel
theorem dX6_addPart_33 : decode cX6_addPart 33 = .ok (.aload_n 0, 1) := by decide +kernel
theorem dX6_addPart_34 : decode cX6_addPart 34 = .ok (.getfield 81, 3) := by decide +kernel
theorem dX6_addPart_37 : decode cX6_addPart 37 = .ok (.if_icmp .ge 14, 3) := by decide +kernel
theorem dX6_addPart_40 : decode cX6_addPart 40 = .ok (.aload_n 0, 1) := by decide +kernel
theorem dX6_addPart_41 : decode cX6_addPart 41 = .ok (.getfield 50, 3) := by decide +kernel
theorem dX6_addPart_44 : decode cX6_addPart 44 = .ok (.iload_n 3, 1) := by decide +kernel
theorem dX6_addPart_45 : decode cX6_addPart 45 = .ok (.dup2, 1) := by decide +kernel
theorem dX6_addPart_46 : decode cX6_addPart 46 = .ok (.iaload, 1) := by decide +kernel
theorem dX6_addPart_47 : decode cX6_addPart 47 = .ok (.iload 4, 2) := by decide +kernel
theorem dX6_addPart_49 : decode cX6_addPart 49 = .ok (.iand, 1) := by decide +kernel
theorem dX6_addPart_50 : decode cX6_addPart 50 = .ok (.iastore, 1) := by decide +kernel
theorem dX6_addPart_51 : decode cX6_addPart 51 = .ok (.aload_n 0, 1) := by decide +kernel
theorem dX6_addPart_52 : decode cX6_addPart 52 = .ok (.invokevirtual 144, 3) := by decide +kernel
theorem dX6_addPart_55 : decode cX6_addPart 55 = .ok (.aload_n 0, 1) := by decide +kernel
theorem dX6_addPart_56 : decode cX6_addPart 56 = .ok (.getfield 41, 3) := by decide +kernel
theorem dX6_addPart_59 : decode cX6_addPart 59 = .ok (.iconst 0, 1) := by decide +kernel
theorem dX6_addPart_60 : decode cX6_addPart 60 = .ok (.iaload, 1) := by decide +kernel
theorem dX6_addPart_61 : decode cX6_addPart 61 = .ok (.iload 5, 2) := by decide +kernel
theorem dX6_addPart_63 : decode cX6_addPart 63 = .ok (.if_icmp .eq 4, 3) := by decide +kernel
theorem dX6_addPart_66 : decode cX6_addPart 66 = .ok (.return_, 1) := by decide +kernel
theorem dX6_addPart_67 : decode cX6_addPart 67 = .ok (.aload_n 0, 1) := by decide +kernel
theorem dX6_addPart_68 : decode cX6_addPart 68 = .ok (.invokevirtual 149, 3) := by decide +kernel
theorem dX6_addPart_71 : decode cX6_addPart 71 = .ok (.aload_n 0, 1) := by decide +kernel
theorem dX6_addPart_72 : decode cX6_addPart 72 = .ok (.getfield 62, 3) := by decide +kernel
theorem dX6_addPart_75 : decode cX6_addPart 75 = .ok (.aload_n 0, 1) := by decide +kernel
theorem dX6_addPart_76 : decode cX6_addPart 76 = .ok (.getfield 165, 3) := by decide +kernel
theorem dX6_addPart_79 : decode cX6_addPart 79 = .ok (.aload_n 0, 1) := by decide +kernel
theorem dX6_addPart_80 : decode cX6_addPart 80 = .ok (.getfield 44, 3) := by decide +kernel
theorem dX6_addPart_83 : decode cX6_addPart 83 = .ok (.iconst 0, 1) := by decide +kernel
theorem dX6_addPart_84 : decode cX6_addPart 84 = .ok (.iaload, 1) := by decide +kernel
theorem dX6_addPart_85 : decode cX6_addPart 85 = .ok (.iastore, 1) := by decide +kernel
theorem dX6_addPart_86 : decode cX6_addPart 86 = .ok (.aload_n 0, 1) := by decide +kernel
theorem dX6_addPart_87 : decode cX6_addPart 87 = .ok (.getfield 68, 3) := by decide +kernel
theorem dX6_addPart_90 : decode cX6_addPart 90 = .ok (.aload_n 0, 1) := by decide +kernel
theorem dX6_addPart_91 : decode cX6_addPart 91 = .ok (.getfield 165, 3) := by decide +kernel
theorem dX6_addPart_94 : decode cX6_addPart 94 = .ok (.iload_n 3, 1) := by decide +kernel
theorem dX6_addPart_95 : decode cX6_addPart 95 = .ok (.iastore, 1) := by decide +kernel
theorem dX6_addPart_96 : decode cX6_addPart 96 = .ok (.aload_n 0, 1) := by decide +kernel
theorem dX6_addPart_97 : decode cX6_addPart 97 = .ok (.getfield 71, 3) := by decide +kernel
theorem dX6_addPart_100 : decode cX6_addPart 100 = .ok (.aload_n 0, 1) := by decide +kernel
theorem dX6_addPart_101 : decode cX6_addPart 101 = .ok (.getfield 165, 3) := by decide +kernel
theorem dX6_addPart_104 : decode cX6_addPart 104 = .ok (.iload 4, 2) := by decide +kernel
theorem dX6_addPart_106 : decode cX6_addPart 106 = .ok (.iastore, 1) := by decide +kernel
theorem dX6_addPart_107 : decode cX6_addPart 107 = .ok (.iconst 0, 1) := by decide +kernel
theorem dX6_addPart_108 : decode cX6_addPart 108 = .ok (.istore 6, 2) := by decide +kernel
theorem dX6_addPart_110 : decode cX6_addPart 110 = .ok (.iload 6, 2) := by decide +kernel
theorem dX6_addPart_112 : decode cX6_addPart 112 = .ok (.aload_n 0, 1) := by decide +kernel
theorem dX6_addPart_113 : decode cX6_addPart 113 = .ok (.getfield 81, 3) := by decide +kernel
theorem dX6_addPart_116 : decode cX6_addPart 116 = .ok (.if_icmp .ge 31, 3) := by decide +kernel
theorem dX6_addPart_119 : decode cX6_addPart 119 = .ok (.aload_n 0, 1) := by decide +kernel
theorem dX6_addPart_120 : decode cX6_addPart 120 = .ok (.getfield 65, 3) := by decide +kernel
theorem dX6_addPart_123 : decode cX6_addPart 123 = .ok (.bipush 10, 2) := by decide +kernel
theorem dX6_addPart_125 : decode cX6_addPart 125 = .ok (.aload_n 0, 1) := by decide +kernel
theorem dX6_addPart_126 : decode cX6_addPart 126 = .ok (.getfield 165, 3) := by decide +kernel
theorem dX6_addPart_129 : decode cX6_addPart 129 = .ok (.imul, 1) := by decide +kernel
theorem dX6_addPart_130 : decode cX6_addPart 130 = .ok (.iload 6, 2) := by decide +kernel
theorem dX6_addPart_132 : decode cX6_addPart 132 = .ok (.iadd, 1) := by decide +kernel
theorem dX6_addPart_133 : decode cX6_addPart 133 = .ok (.aload_n 0, 1) := by decide +kernel
theorem dX6_addPart_134 : decode cX6_addPart 134 = .ok (.getfield 53, 3) := by decide +kernel
theorem dX6_addPart_137 : decode cX6_addPart 137 = .ok (.iload 6, 2) := by decide +kernel
theorem dX6_addPart_139 : decode cX6_addPart 139 = .ok (.iaload, 1) := by decide +kernel
theorem dX6_addPart_140 : decode cX6_addPart 140 = .ok (.iastore, 1) := by decide +kernel
theorem dX6_addPart_141 : decode cX6_addPart 141 = .ok (.iinc 6 1, 3) := by decide +kernel
theorem dX6_addPart_144 : decode cX6_addPart 144 = .ok (.goto (-34), 3) := by decide +kernel
theorem dX6_addPart_147 : decode cX6_addPart 147 = .ok (.aload_n 0, 1) := by decide +kernel
theorem dX6_addPart_148 : decode cX6_addPart 148 = .ok (.dup, 1) := by decide +kernel
theorem dX6_addPart_149 : decode cX6_addPart 149 = .ok (.getfield 165, 3) := by decide +kernel
theorem dX6_addPart_152 : decode cX6_addPart 152 = .ok (.iconst 1, 1) := by decide +kernel
theorem dX6_addPart_153 : decode cX6_addPart 153 = .ok (.iadd, 1) := by decide +kernel
theorem dX6_addPart_154 : decode cX6_addPart 154 = .ok (.putfield 165, 3) := by decide +kernel
theorem dX6_addPart_157 : decode cX6_addPart 157 = .ok (.return_, 1) := by decide +kernel
theorem dX6_isAhead_0 : decode cX6_isAhead 0 = .ok (.aload_n 0, 1) := by decide +kernel
theorem dX6_isAhead_1 : decode cX6_isAhead 1 = .ok (.getfield 62, 3) := by decide +kernel
theorem dX6_isAhead_4 : decode cX6_isAhead 4 = .ok (.iload_n 1, 1) := by decide +kernel
theorem dX6_isAhead_5 : decode cX6_isAhead 5 = .ok (.iaload, 1) := by decide +kernel
theorem dX6_isAhead_6 : decode cX6_isAhead 6 = .ok (.aload_n 0, 1) := by decide +kernel
theorem dX6_isAhead_7 : decode cX6_isAhead 7 = .ok (.getfield 62, 3) := by decide +kernel
theorem dX6_isAhead_10 : decode cX6_isAhead 10 = .ok (.iload_n 2, 1) := by decide +kernel
theorem dX6_isAhead_11 : decode cX6_isAhead 11 = .ok (.iaload, 1) := by decide +kernel
theorem dX6_isAhead_12 : decode cX6_isAhead 12 = .ok (.if_icmp .eq 24, 3) := by decide +kernel
theorem dX6_isAhead_15 : decode cX6_isAhead 15 = .ok (.aload_n 0, 1) := by decide +kernel
theorem dX6_isAhead_16 : decode cX6_isAhead 16 = .ok (.getfield 62, 3) := by decide +kernel
theorem dX6_isAhead_19 : decode cX6_isAhead 19 = .ok (.iload_n 1, 1) := by decide +kernel
theorem dX6_isAhead_20 : decode cX6_isAhead 20 = .ok (.iaload, 1) := by decide +kernel
theorem dX6_isAhead_21 : decode cX6_isAhead 21 = .ok (.aload_n 0, 1) := by decide +kernel
theorem dX6_isAhead_22 : decode cX6_isAhead 22 = .ok (.getfield 62, 3) := by decide +kernel
theorem dX6_isAhead_25 : decode cX6_isAhead 25 = .ok (.iload_n 2, 1) := by decide +kernel
theorem dX6_isAhead_26 : decode cX6_isAhead 26 = .ok (.iaload, 1) := by decide +kernel
theorem dX6_isAhead_27 : decode cX6_isAhead 27 = .ok (.if_icmp .ge 7, 3) := by decide +kernel
theorem dX6_isAhead_30 : decode cX6_isAhead 30 = .ok (.iconst 1, 1) := by decide +kernel
theorem dX6_isAhead_31 : decode cX6_isAhead 31 = .ok (.goto 4, 3) := by decide +kernel
theorem dX6_isAhead_34 : decode cX6_isAhead 34 = .ok (.iconst 0, 1) := by decide +kernel
theorem dX6_isAhead_35 : decode cX6_isAhead 35 = .ok (.ireturn, 1) := by decide +kernel
theorem dX6_isAhead_36 : decode cX6_isAhead 36 = .ok (.iconst 0, 1) := by decide +kernel
theorem dX6_isAhead_37 : decode cX6_isAhead 37 = .ok (.istore_n 3, 1) := by decide +kernel
theorem dX6_isAhead_38 : decode cX6_isAhead 38 = .ok (.iload_n 3, 1) := by decide +kernel
theorem dX6_isAhead_39 : decode cX6_isAhead 39 = .ok (.aload_n 0, 1) := by decide +kernel
theorem dX6_isAhead_40 : decode cX6_isAhead 40 = .ok (.getfield 81, 3) := by decide +kernel
theorem dX6_isAhead_43 : decode cX6_isAhead 43 = .ok (.if_icmp .ge 65, 3) := by decide +kernel
theorem dX6_isAhead_46 : decode cX6_isAhead 46 = .ok (.aload_n 0, 1) := by decide +kernel
theorem dX6_isAhead_47 : decode cX6_isAhead 47 = .ok (.getfield 65, 3) := by decide +kernel
theorem dX6_isAhead_50 : decode cX6_isAhead 50 = .ok (.bipush 10, 2) := by decide +kernel
theorem dX6_isAhead_52 : decode cX6_isAhead 52 = .ok (.iload_n 1, 1) := by decide +kernel
theorem dX6_isAhead_53 : decode cX6_isAhead 53 = .ok (.imul, 1) := by decide +kernel
theorem dX6_isAhead_54 : decode cX6_isAhead 54 = .ok (.iload_n 3, 1) := by decide +kernel
theorem dX6_isAhead_55 : decode cX6_isAhead 55 = .ok (.iadd, 1) := by decide +kernel
theorem dX6_isAhead_56 : decode cX6_isAhead 56 = .ok (.iaload, 1) := by decide +kernel
theorem dX6_isAhead_57 : decode cX6_isAhead 57 = .ok (.aload_n 0, 1) := by decide +kernel
theorem dX6_isAhead_58 : decode cX6_isAhead 58 = .ok (.getfield 65, 3) := by decide +kernel
theorem dX6_isAhead_61 : decode cX6_isAhead 61 = .ok (.bipush 10, 2) := by decide +kernel
theorem dX6_isAhead_63 : decode cX6_isAhead 63 = .ok (.iload_n 2, 1) := by decide +kernel
theorem dX6_isAhead_64 : decode cX6_isAhead 64 = .ok (.imul, 1) := by decide +kernel
theorem dX6_isAhead_65 : decode cX6_isAhead 65 = .ok (.iload_n 3, 1) := by decide +kernel
theorem dX6_isAhead_66 : decode cX6_isAhead 66 = .ok (.iadd, 1) := by decide +kernel
theorem dX6_isAhead_67 : decode cX6_isAhead 67 = .ok (.iaload, 1) := by decide +kernel
theorem dX6_isAhead_68 : decode cX6_isAhead 68 = .ok (.if_icmp .eq 34, 3) := by decide +kernel
theorem dX6_isAhead_71 : decode cX6_isAhead 71 = .ok (.aload_n 0, 1) := by decide +kernel
theorem dX6_isAhead_72 : decode cX6_isAhead 72 = .ok (.getfield 65, 3) := by decide +kernel
theorem dX6_isAhead_75 : decode cX6_isAhead 75 = .ok (.bipush 10, 2) := by decide +kernel
theorem dX6_isAhead_77 : decode cX6_isAhead 77 = .ok (.iload_n 1, 1) := by decide +kernel
theorem dX6_isAhead_78 : decode cX6_isAhead 78 = .ok (.imul, 1) := by decide +kernel
theorem dX6_isAhead_79 : decode cX6_isAhead 79 = .ok (.iload_n 3, 1) := by decide +kernel
theorem dX6_isAhead_80 : decode cX6_isAhead 80 = .ok (.iadd, 1) := by decide +kernel
theorem dX6_isAhead_81 : decode cX6_isAhead 81 = .ok (.iaload, 1) := by decide +kernel
theorem dX6_isAhead_82 : decode cX6_isAhead 82 = .ok (.aload_n 0, 1) := by decide +kernel
theorem dX6_isAhead_83 : decode cX6_isAhead 83 = .ok (.getfield 65, 3) := by decide +kernel
theorem dX6_isAhead_86 : decode cX6_isAhead 86 = .ok (.bipush 10, 2) := by decide +kernel
theorem dX6_isAhead_88 : decode cX6_isAhead 88 = .ok (.iload_n 2, 1) := by decide +kernel
theorem dX6_isAhead_89 : decode cX6_isAhead 89 = .ok (.imul, 1) := by decide +kernel
theorem dX6_isAhead_90 : decode cX6_isAhead 90 = .ok (.iload_n 3, 1) := by decide +kernel
theorem dX6_isAhead_91 : decode cX6_isAhead 91 = .ok (.iadd, 1) := by decide +kernel
theorem dX6_isAhead_92 : decode cX6_isAhead 92 = .ok (.iaload, 1) := by decide +kernel
theorem dX6_isAhead_93 : decode cX6_isAhead 93 = .ok (.if_icmp .ge 7, 3) := by decide +kernel
theorem dX6_isAhead_96 : decode cX6_isAhead 96 = .ok (.iconst 1, 1) := by decide +kernel
theorem dX6_isAhead_97 : decode cX6_isAhead 97 = .ok (.goto 4, 3) := by decide +kernel
theorem dX6_isAhead_100 : decode cX6_isAhead 100 = .ok (.iconst 0, 1) := by decide +kernel
theorem dX6_isAhead_101 : decode cX6_isAhead 101 = .ok (.ireturn, 1) := by decide +kernel
theorem dX6_isAhead_102 : decode cX6_isAhead 102 = .ok (.iinc 3 1, 3) := by decide +kernel
theorem dX6_isAhead_105 : decode cX6_isAhead 105 = .ok (.goto (-67), 3) := by decide +kernel
theorem dX6_isAhead_108 : decode cX6_isAhead 108 = .ok (.iconst 0, 1) := by decide +kernel
theorem dX6_isAhead_109 : decode cX6_isAhead 109 = .ok (.ireturn, 1) := by decide +kernel
theorem dX6_remove_0 : decode cX6_remove 0 = .ok (.aload_n 0, 1) := by decide +kernel
theorem dX6_remove_1 : decode cX6_remove 1 = .ok (.dup, 1) := by decide +kernel
theorem dX6_remove_2 : decode cX6_remove 2 = .ok (.getfield 165, 3) := by decide +kernel
theorem dX6_remove_5 : decode cX6_remove 5 = .ok (.iconst 1, 1) := by decide +kernel
theorem dX6_remove_6 : decode cX6_remove 6 = .ok (.isub, 1) := by decide +kernel
theorem dX6_remove_7 : decode cX6_remove 7 = .ok (.putfield 165, 3) := by decide +kernel
theorem dX6_remove_10 : decode cX6_remove 10 = .ok (.aload_n 0, 1) := by decide +kernel
theorem dX6_remove_11 : decode cX6_remove 11 = .ok (.getfield 62, 3) := by decide +kernel
theorem dX6_remove_14 : decode cX6_remove 14 = .ok (.iload_n 1, 1) := by decide +kernel
theorem dX6_remove_15 : decode cX6_remove 15 = .ok (.aload_n 0, 1) := by decide +kernel
theorem dX6_remove_16 : decode cX6_remove 16 = .ok (.getfield 62, 3) := by decide +kernel
theorem dX6_remove_19 : decode cX6_remove 19 = .ok (.aload_n 0, 1) := by decide +kernel
theorem dX6_remove_20 : decode cX6_remove 20 = .ok (.getfield 165, 3) := by decide +kernel
theorem dX6_remove_23 : decode cX6_remove 23 = .ok (.iaload, 1) := by decide +kernel
theorem dX6_remove_24 : decode cX6_remove 24 = .ok (.iastore, 1) := by decide +kernel
theorem dX6_remove_25 : decode cX6_remove 25 = .ok (.aload_n 0, 1) := by decide +kernel
theorem dX6_remove_26 : decode cX6_remove 26 = .ok (.getfield 68, 3) := by decide +kernel
theorem dX6_remove_29 : decode cX6_remove 29 = .ok (.iload_n 1, 1) := by decide +kernel
theorem dX6_remove_30 : decode cX6_remove 30 = .ok (.aload_n 0, 1) := by decide +kernel
theorem dX6_remove_31 : decode cX6_remove 31 = .ok (.getfield 68, 3) := by decide +kernel
theorem dX6_remove_34 : decode cX6_remove 34 = .ok (.aload_n 0, 1) := by decide +kernel
theorem dX6_remove_35 : decode cX6_remove 35 = .ok (.getfield 165, 3) := by decide +kernel
theorem dX6_remove_38 : decode cX6_remove 38 = .ok (.iaload, 1) := by decide +kernel
theorem dX6_remove_39 : decode cX6_remove 39 = .ok (.iastore, 1) := by decide +kernel
theorem dX6_remove_40 : decode cX6_remove 40 = .ok (.aload_n 0, 1) := by decide +kernel
theorem dX6_remove_41 : decode cX6_remove 41 = .ok (.getfield 71, 3) := by decide +kernel
theorem dX6_remove_44 : decode cX6_remove 44 = .ok (.iload_n 1, 1) := by decide +kernel
theorem dX6_remove_45 : decode cX6_remove 45 = .ok (.aload_n 0, 1) := by decide +kernel
theorem dX6_remove_46 : decode cX6_remove 46 = .ok (.getfield 71, 3) := by decide +kernel
theorem dX6_remove_49 : decode cX6_remove 49 = .ok (.aload_n 0, 1) := by decide +kernel
theorem dX6_remove_50 : decode cX6_remove 50 = .ok (.getfield 165, 3) := by decide +kernel
theorem dX6_remove_53 : decode cX6_remove 53 = .ok (.iaload, 1) := by decide +kernel
theorem dX6_remove_54 : decode cX6_remove 54 = .ok (.iastore, 1) := by decide +kernel
theorem dX6_remove_55 : decode cX6_remove 55 = .ok (.iconst 0, 1) := by decide +kernel
theorem dX6_remove_56 : decode cX6_remove 56 = .ok (.istore_n 2, 1) := by decide +kernel
theorem dX6_remove_57 : decode cX6_remove 57 = .ok (.iload_n 2, 1) := by decide +kernel
theorem dX6_remove_58 : decode cX6_remove 58 = .ok (.bipush 10, 2) := by decide +kernel
theorem dX6_remove_60 : decode cX6_remove 60 = .ok (.if_icmp .ge 34, 3) := by decide +kernel
theorem dX6_remove_63 : decode cX6_remove 63 = .ok (.aload_n 0, 1) := by decide +kernel
theorem dX6_remove_64 : decode cX6_remove 64 = .ok (.getfield 65, 3) := by decide +kernel
theorem dX6_remove_67 : decode cX6_remove 67 = .ok (.bipush 10, 2) := by decide +kernel
theorem dX6_remove_69 : decode cX6_remove 69 = .ok (.iload_n 1, 1) := by decide +kernel
theorem dX6_remove_70 : decode cX6_remove 70 = .ok (.imul, 1) := by decide +kernel
theorem dX6_remove_71 : decode cX6_remove 71 = .ok (.iload_n 2, 1) := by decide +kernel
theorem dX6_remove_72 : decode cX6_remove 72 = .ok (.iadd, 1) := by decide +kernel
theorem dX6_remove_73 : decode cX6_remove 73 = .ok (.aload_n 0, 1) := by decide +kernel
theorem dX6_remove_74 : decode cX6_remove 74 = .ok (.getfield 65, 3) := by decide +kernel
theorem dX6_remove_77 : decode cX6_remove 77 = .ok (.bipush 10, 2) := by decide +kernel
theorem dX6_remove_79 : decode cX6_remove 79 = .ok (.aload_n 0, 1) := by decide +kernel
theorem dX6_remove_80 : decode cX6_remove 80 = .ok (.getfield 165, 3) := by decide +kernel
theorem dX6_remove_83 : decode cX6_remove 83 = .ok (.imul, 1) := by decide +kernel
theorem dX6_remove_84 : decode cX6_remove 84 = .ok (.iload_n 2, 1) := by decide +kernel
theorem dX6_remove_85 : decode cX6_remove 85 = .ok (.iadd, 1) := by decide +kernel
theorem dX6_remove_86 : decode cX6_remove 86 = .ok (.iaload, 1) := by decide +kernel
theorem dX6_remove_87 : decode cX6_remove 87 = .ok (.iastore, 1) := by decide +kernel
theorem dX6_remove_88 : decode cX6_remove 88 = .ok (.iinc 2 1, 3) := by decide +kernel
theorem dX6_remove_91 : decode cX6_remove 91 = .ok (.goto (-34), 3) := by decide +kernel
theorem dX6_remove_94 : decode cX6_remove 94 = .ok (.return_, 1) := by decide +kernel
theorem dX6_rank_0 : decode cX6_rank 0 = .ok (.aload_n 0, 1) := by decide +kernel
theorem dX6_rank_1 : decode cX6_rank 1 = .ok (.iconst 0, 1) := by decide +kernel
theorem dX6_rank_2 : decode cX6_rank 2 = .ok (.putfield 77, 3) := by decide +kernel
theorem dX6_rank_5 : decode cX6_rank 5 = .ok (.iload_n 1, 1) := by decide +kernel
theorem dX6_rank_6 : decode cX6_rank 6 = .ok (.iconst 1, 1) := by decide +kernel
theorem dX6_rank_7 : decode cX6_rank 7 = .ok (.if_icmp .lt 9, 3) := by decide +kernel
theorem dX6_rank_10 : decode cX6_rank 10 = .ok (.iload_n 1, 1) := by decide +kernel
theorem dX6_rank_11 : decode cX6_rank 11 = .ok (.bipush 30, 2) := by decide +kernel
theorem dX6_rank_13 : decode cX6_rank 13 = .ok (.if_icmp .le 9, 3) := by decide +kernel
theorem dX6_rank_16 : decode cX6_rank 16 = .ok (.aload_n 0, 1) := by decide +kernel
theorem dX6_rank_17 : decode cX6_rank 17 = .ok (.iconst 1, 1) := by decide +kernel
theorem dX6_rank_18 : decode cX6_rank 18 = .ok (.invokevirtual 98, 3) := by decide +kernel
theorem dX6_rank_21 : decode cX6_rank 21 = .ok (.ireturn, 1) := by decide +kernel
theorem dX6_rank_22 : decode cX6_rank 22 = .ok (.aload_n 0, 1) := by decide +kernel
theorem dX6_rank_23 : decode cX6_rank 23 = .ok (.invokevirtual 146, 3) := by decide +kernel
theorem dX6_rank_26 : decode cX6_rank 26 = .ok (.aload_n 0, 1) := by decide +kernel
theorem dX6_rank_27 : decode cX6_rank 27 = .ok (.getfield 41, 3) := by decide +kernel
theorem dX6_rank_30 : decode cX6_rank 30 = .ok (.iconst 0, 1) := by decide +kernel
theorem dX6_rank_31 : decode cX6_rank 31 = .ok (.iaload, 1) := by decide +kernel
theorem dX6_rank_32 : decode cX6_rank 32 = .ok (.istore_n 2, 1) := by decide +kernel
theorem dX6_rank_33 : decode cX6_rank 33 = .ok (.aload_n 0, 1) := by decide +kernel
theorem dX6_rank_34 : decode cX6_rank 34 = .ok (.iconst 0, 1) := by decide +kernel
theorem dX6_rank_35 : decode cX6_rank 35 = .ok (.putfield 165, 3) := by decide +kernel
theorem dX6_rank_38 : decode cX6_rank 38 = .ok (.aload_n 0, 1) := by decide +kernel
theorem dX6_rank_39 : decode cX6_rank 39 = .ok (.aload_n 0, 1) := by decide +kernel
theorem dX6_rank_40 : decode cX6_rank 40 = .ok (.getfield 74, 3) := by decide +kernel
theorem dX6_rank_43 : decode cX6_rank 43 = .ok (.iconst 0, 1) := by decide +kernel
theorem dX6_rank_44 : decode cX6_rank 44 = .ok (.iconst 0, 1) := by decide +kernel
theorem dX6_rank_45 : decode cX6_rank 45 = .ok (.iconst (-1), 1) := by decide +kernel
theorem dX6_rank_46 : decode cX6_rank 46 = .ok (.iload_n 2, 1) := by decide +kernel
theorem dX6_rank_47 : decode cX6_rank 47 = .ok (.invokevirtual 168, 3) := by decide +kernel
theorem dX6_rank_50 : decode cX6_rank 50 = .ok (.aload_n 0, 1) := by decide +kernel
theorem dX6_rank_51 : decode cX6_rank 51 = .ok (.iconst 0, 1) := by decide +kernel
theorem dX6_rank_52 : decode cX6_rank 52 = .ok (.putfield 172, 3) := by decide +kernel
theorem dX6_rank_55 : decode cX6_rank 55 = .ok (.aload_n 0, 1) := by decide +kernel
theorem dX6_rank_56 : decode cX6_rank 56 = .ok (.getfield 172, 3) := by decide +kernel
theorem dX6_rank_59 : decode cX6_rank 59 = .ok (.iload_n 1, 1) := by decide +kernel
theorem dX6_rank_60 : decode cX6_rank 60 = .ok (.if_icmp .ge 221, 3) := by decide +kernel
theorem dX6_rank_63 : decode cX6_rank 63 = .ok (.aload_n 0, 1) := by decide +kernel
theorem dX6_rank_64 : decode cX6_rank 64 = .ok (.getfield 165, 3) := by decide +kernel
theorem dX6_rank_67 : decode cX6_rank 67 = .ok (.ifCond .le 214, 3) := by decide +kernel
theorem dX6_rank_70 : decode cX6_rank 70 = .ok (.iconst 0, 1) := by decide +kernel
theorem dX6_rank_71 : decode cX6_rank 71 = .ok (.istore_n 3, 1) := by decide +kernel
theorem dX6_rank_72 : decode cX6_rank 72 = .ok (.iconst 1, 1) := by decide +kernel
theorem dX6_rank_73 : decode cX6_rank 73 = .ok (.istore 4, 2) := by decide +kernel
theorem dX6_rank_75 : decode cX6_rank 75 = .ok (.iload 4, 2) := by decide +kernel
theorem dX6_rank_77 : decode cX6_rank 77 = .ok (.aload_n 0, 1) := by decide +kernel
theorem dX6_rank_78 : decode cX6_rank 78 = .ok (.getfield 165, 3) := by decide +kernel
theorem dX6_rank_81 : decode cX6_rank 81 = .ok (.if_icmp .ge 22, 3) := by decide +kernel
theorem dX6_rank_84 : decode cX6_rank 84 = .ok (.aload_n 0, 1) := by decide +kernel
theorem dX6_rank_85 : decode cX6_rank 85 = .ok (.iload 4, 2) := by decide +kernel
theorem dX6_rank_87 : decode cX6_rank 87 = .ok (.iload_n 3, 1) := by decide +kernel
theorem dX6_rank_88 : decode cX6_rank 88 = .ok (.invokevirtual 175, 3) := by decide +kernel
theorem dX6_rank_91 : decode cX6_rank 91 = .ok (.ifCond .eq 6, 3) := by decide +kernel
theorem dX6_rank_94 : decode cX6_rank 94 = .ok (.iload 4, 2) := by decide +kernel
theorem dX6_rank_96 : decode cX6_rank 96 = .ok (.istore_n 3, 1) := by decide +kernel
theorem dX6_rank_97 : decode cX6_rank 97 = .ok (.iinc 4 1, 3) := by decide +kernel
theorem dX6_rank_100 : decode cX6_rank 100 = .ok (.goto (-25), 3) := by decide +kernel
theorem dX6_rank_103 : decode cX6_rank 103 = .ok (.aload_n 0, 1) := by decide +kernel
theorem dX6_rank_104 : decode cX6_rank 104 = .ok (.getfield 56, 3) := by decide +kernel
theorem dX6_rank_107 : decode cX6_rank 107 = .ok (.aload_n 0, 1) := by decide +kernel
theorem dX6_rank_108 : decode cX6_rank 108 = .ok (.getfield 172, 3) := by decide +kernel
theorem dX6_rank_111 : decode cX6_rank 111 = .ok (.aload_n 0, 1) := by decide +kernel
theorem dX6_rank_112 : decode cX6_rank 112 = .ok (.getfield 62, 3) := by decide +kernel
theorem dX6_rank_115 : decode cX6_rank 115 = .ok (.iload_n 3, 1) := by decide +kernel
theorem dX6_rank_116 : decode cX6_rank 116 = .ok (.iaload, 1) := by decide +kernel
theorem dX6_rank_117 : decode cX6_rank 117 = .ok (.iastore, 1) := by decide +kernel
theorem dX6_rank_118 : decode cX6_rank 118 = .ok (.iconst 0, 1) := by decide +kernel
theorem dX6_rank_119 : decode cX6_rank 119 = .ok (.istore 4, 2) := by decide +kernel
theorem dX6_rank_121 : decode cX6_rank 121 = .ok (.iload 4, 2) := by decide +kernel
theorem dX6_rank_123 : decode cX6_rank 123 = .ok (.bipush 10, 2) := by decide +kernel
theorem dX6_rank_125 : decode cX6_rank 125 = .ok (.if_icmp .ge 68, 3) := by decide +kernel
theorem dX6_rank_128 : decode cX6_rank 128 = .ok (.aload_n 0, 1) := by decide +kernel
theorem dX6_rank_129 : decode cX6_rank 129 = .ok (.getfield 74, 3) := by decide +kernel
theorem dX6_rank_132 : decode cX6_rank 132 = .ok (.iload 4, 2) := by decide +kernel
theorem dX6_rank_134 : decode cX6_rank 134 = .ok (.iload 4, 2) := by decide +kernel
theorem dX6_rank_136 : decode cX6_rank 136 = .ok (.aload_n 0, 1) := by decide +kernel
theorem dX6_rank_137 : decode cX6_rank 137 = .ok (.getfield 81, 3) := by decide +kernel
theorem dX6_rank_140 : decode cX6_rank 140 = .ok (.if_icmp .ge 18, 3) := by decide +kernel
theorem dX6_rank_143 : decode cX6_rank 143 = .ok (.aload_n 0, 1) := by decide +kernel
theorem dX6_rank_144 : decode cX6_rank 144 = .ok (.getfield 65, 3) := by decide +kernel
theorem dX6_rank_147 : decode cX6_rank 147 = .ok (.bipush 10, 2) := by decide +kernel
theorem dX6_rank_149 : decode cX6_rank 149 = .ok (.iload_n 3, 1) := by decide +kernel
theorem dX6_rank_150 : decode cX6_rank 150 = .ok (.imul, 1) := by decide +kernel
theorem dX6_rank_151 : decode cX6_rank 151 = .ok (.iload 4, 2) := by decide +kernel
theorem dX6_rank_153 : decode cX6_rank 153 = .ok (.iadd, 1) := by decide +kernel
theorem dX6_rank_154 : decode cX6_rank 154 = .ok (.iaload, 1) := by decide +kernel
theorem dX6_rank_155 : decode cX6_rank 155 = .ok (.goto 6, 3) := by decide +kernel
theorem dX6_rank_158 : decode cX6_rank 158 = .ok (.sipush 1024, 3) := by decide +kernel
theorem dX6_rank_161 : decode cX6_rank 161 = .ok (.iastore, 1) := by decide +kernel
theorem dX6_rank_162 : decode cX6_rank 162 = .ok (.aload_n 0, 1) := by decide +kernel
theorem dX6_rank_163 : decode cX6_rank 163 = .ok (.getfield 59, 3) := by decide +kernel
theorem dX6_rank_166 : decode cX6_rank 166 = .ok (.bipush 10, 2) := by decide +kernel
theorem dX6_rank_168 : decode cX6_rank 168 = .ok (.aload_n 0, 1) := by decide +kernel
theorem dX6_rank_169 : decode cX6_rank 169 = .ok (.getfield 172, 3) := by decide +kernel
theorem dX6_rank_172 : decode cX6_rank 172 = .ok (.imul, 1) := by decide +kernel
theorem dX6_rank_173 : decode cX6_rank 173 = .ok (.iload 4, 2) := by decide +kernel
theorem dX6_rank_175 : decode cX6_rank 175 = .ok (.iadd, 1) := by decide +kernel
theorem dX6_rank_176 : decode cX6_rank 176 = .ok (.aload_n 0, 1) := by decide +kernel
theorem dX6_rank_177 : decode cX6_rank 177 = .ok (.getfield 74, 3) := by decide +kernel
theorem dX6_rank_180 : decode cX6_rank 180 = .ok (.iload 4, 2) := by decide +kernel
theorem dX6_rank_182 : decode cX6_rank 182 = .ok (.iaload, 1) := by decide +kernel
theorem dX6_rank_183 : decode cX6_rank 183 = .ok (.invokestatic 134, 3) := by decide +kernel
theorem dX6_rank_186 : decode cX6_rank 186 = .ok (.iastore, 1) := by decide +kernel
theorem dX6_rank_187 : decode cX6_rank 187 = .ok (.iinc 4 1, 3) := by decide +kernel
theorem dX6_rank_190 : decode cX6_rank 190 = .ok (.goto (-69), 3) := by decide +kernel
theorem dX6_rank_193 : decode cX6_rank 193 = .ok (.aload_n 0, 1) := by decide +kernel
theorem dX6_rank_194 : decode cX6_rank 194 = .ok (.dup, 1) := by decide +kernel
theorem dX6_rank_195 : decode cX6_rank 195 = .ok (.getfield 172, 3) := by decide +kernel
theorem dX6_rank_198 : decode cX6_rank 198 = .ok (.iconst 1, 1) := by decide +kernel
theorem dX6_rank_199 : decode cX6_rank 199 = .ok (.iadd, 1) := by decide +kernel
theorem dX6_rank_200 : decode cX6_rank 200 = .ok (.putfield 172, 3) := by decide +kernel
theorem dX6_rank_203 : decode cX6_rank 203 = .ok (.aload_n 0, 1) := by decide +kernel
theorem dX6_rank_204 : decode cX6_rank 204 = .ok (.getfield 68, 3) := by decide +kernel
theorem dX6_rank_207 : decode cX6_rank 207 = .ok (.iload_n 3, 1) := by decide +kernel
theorem dX6_rank_208 : decode cX6_rank 208 = .ok (.iaload, 1) := by decide +kernel
theorem dX6_rank_209 : decode cX6_rank 209 = .ok (.istore 4, 2) := by decide +kernel
theorem dX6_rank_211 : decode cX6_rank 211 = .ok (.aload_n 0, 1) := by decide +kernel
theorem dX6_rank_212 : decode cX6_rank 212 = .ok (.getfield 71, 3) := by decide +kernel
theorem dX6_rank_215 : decode cX6_rank 215 = .ok (.iload_n 3, 1) := by decide +kernel
theorem dX6_rank_216 : decode cX6_rank 216 = .ok (.iaload, 1) := by decide +kernel
theorem dX6_rank_217 : decode cX6_rank 217 = .ok (.istore 5, 2) := by decide +kernel
theorem dX6_rank_219 : decode cX6_rank 219 = .ok (.aload_n 0, 1) := by decide +kernel
theorem dX6_rank_220 : decode cX6_rank 220 = .ok (.iload_n 3, 1) := by decide +kernel
theorem dX6_rank_221 : decode cX6_rank 221 = .ok (.invokevirtual 178, 3) := by decide +kernel
theorem dX6_rank_224 : decode cX6_rank 224 = .ok (.iload 4, 2) := by decide +kernel
theorem dX6_rank_226 : decode cX6_rank 226 = .ok (.istore 6, 2) := by decide +kernel
theorem dX6_rank_228 : decode cX6_rank 228 = .ok (.iload 6, 2) := by decide +kernel
theorem dX6_rank_230 : decode cX6_rank 230 = .ok (.aload_n 0, 1) := by decide +kernel
theorem dX6_rank_231 : decode cX6_rank 231 = .ok (.getfield 81, 3) := by decide +kernel
theorem dX6_rank_234 : decode cX6_rank 234 = .ok (.if_icmp .ge 44, 3) := by decide +kernel
theorem dX6_rank_237 : decode cX6_rank 237 = .ok (.aload_n 0, 1) := by decide +kernel
theorem dX6_rank_238 : decode cX6_rank 238 = .ok (.aload_n 0, 1) := by decide +kernel
theorem dX6_rank_239 : decode cX6_rank 239 = .ok (.getfield 74, 3) := by decide +kernel
theorem dX6_rank_242 : decode cX6_rank 242 = .ok (.iconst 0, 1) := by decide +kernel
theorem dX6_rank_243 : decode cX6_rank 243 = .ok (.iload 6, 2) := by decide +kernel
theorem dX6_rank_245 : decode cX6_rank 245 = .ok (.iload 6, 2) := by decide +kernel
theorem dX6_rank_247 : decode cX6_rank 247 = .ok (.iload 4, 2) := by decide +kernel
theorem dX6_rank_249 : decode cX6_rank 249 = .ok (.if_icmp .ne 8, 3) := by decide +kernel
theorem dX6_rank_252 : decode cX6_rank 252 = .ok (.iload 5, 2) := by decide +kernel
theorem dX6_rank_254 : decode cX6_rank 254 = .ok (.goto 4, 3) := by decide +kernel
theorem dX6_rank_257 : decode cX6_rank 257 = .ok (.iconst (-1), 1) := by decide +kernel
theorem dX6_rank_258 : decode cX6_rank 258 = .ok (.aload_n 0, 1) := by decide +kernel
theorem dX6_rank_259 : decode cX6_rank 259 = .ok (.getfield 74, 3) := by decide +kernel
theorem dX6_rank_262 : decode cX6_rank 262 = .ok (.iload 6, 2) := by decide +kernel
theorem dX6_rank_264 : decode cX6_rank 264 = .ok (.iaload, 1) := by decide +kernel
theorem dX6_rank_265 : decode cX6_rank 265 = .ok (.iconst (-1), 1) := by decide +kernel
theorem dX6_rank_266 : decode cX6_rank 266 = .ok (.ixor, 1) := by decide +kernel
theorem dX6_rank_267 : decode cX6_rank 267 = .ok (.iand, 1) := by decide +kernel
theorem dX6_rank_268 : decode cX6_rank 268 = .ok (.iload_n 2, 1) := by decide +kernel
theorem dX6_rank_269 : decode cX6_rank 269 = .ok (.invokevirtual 168, 3) := by decide +kernel
theorem dX6_rank_272 : decode cX6_rank 272 = .ok (.iinc 6 1, 3) := by decide +kernel
theorem dX6_rank_275 : decode cX6_rank 275 = .ok (.goto (-47), 3) := by decide +kernel
theorem dX6_rank_278 : decode cX6_rank 278 = .ok (.goto (-223), 3) := by decide +kernel
theorem dX6_rank_281 : decode cX6_rank 281 = .ok (.aload_n 0, 1) := by decide +kernel
theorem dX6_rank_282 : decode cX6_rank 282 = .ok (.getfield 172, 3) := by decide +kernel
theorem dX6_rank_285 : decode cX6_rank 285 = .ok (.ireturn, 1) := by decide +kernel
theorem dX6_rankedCost_0 : decode cX6_rankedCost 0 = .ok (.aload_n 0, 1) := by decide +kernel
theorem dX6_rankedCost_1 : decode cX6_rankedCost 1 = .ok (.iconst 0, 1) := by decide +kernel
theorem dX6_rankedCost_2 : decode cX6_rankedCost 2 = .ok (.putfield 77, 3) := by decide +kernel
theorem dX6_rankedCost_5 : decode cX6_rankedCost 5 = .ok (.iload_n 1, 1) := by decide +kernel
theorem dX6_rankedCost_6 : decode cX6_rankedCost 6 = .ok (.ifCond .lt 20, 3) := by decide +kernel
theorem dX6_rankedCost_9 : decode cX6_rankedCost 9 = .ok (.iload_n 1, 1) := by decide +kernel
theorem dX6_rankedCost_10 : decode cX6_rankedCost 10 = .ok (.aload_n 0, 1) := by decide +kernel
theorem dX6_rankedCost_11 : decode cX6_rankedCost 11 = .ok (.getfield 172, 3) := by decide +kernel
theorem dX6_rankedCost_14 : decode cX6_rankedCost 14 = .ok (.if_icmp .ge 12, 3) := by decide +kernel
theorem dX6_rankedCost_17 : decode cX6_rankedCost 17 = .ok (.aload_n 0, 1) := by decide +kernel
theorem dX6_rankedCost_18 : decode cX6_rankedCost 18 = .ok (.getfield 56, 3) := by decide +kernel
theorem dX6_rankedCost_21 : decode cX6_rankedCost 21 = .ok (.iload_n 1, 1) := by decide +kernel
theorem dX6_rankedCost_22 : decode cX6_rankedCost 22 = .ok (.iaload, 1) := by decide +kernel
theorem dX6_rankedCost_23 : decode cX6_rankedCost 23 = .ok (.goto 8, 3) := by decide +kernel
theorem dX6_rankedCost_26 : decode cX6_rankedCost 26 = .ok (.aload_n 0, 1) := by decide +kernel
theorem dX6_rankedCost_27 : decode cX6_rankedCost 27 = .ok (.iconst 1, 1) := by decide +kernel
theorem dX6_rankedCost_28 : decode cX6_rankedCost 28 = .ok (.invokevirtual 98, 3) := by decide +kernel
theorem dX6_rankedCost_31 : decode cX6_rankedCost 31 = .ok (.ireturn, 1) := by decide +kernel
theorem dX6_rankedColumn_0 : decode cX6_rankedColumn 0 = .ok (.aload_n 0, 1) := by decide +kernel
theorem dX6_rankedColumn_1 : decode cX6_rankedColumn 1 = .ok (.iconst 0, 1) := by decide +kernel
theorem dX6_rankedColumn_2 : decode cX6_rankedColumn 2 = .ok (.putfield 77, 3) := by decide +kernel
theorem dX6_rankedColumn_5 : decode cX6_rankedColumn 5 = .ok (.iload_n 1, 1) := by decide +kernel
theorem dX6_rankedColumn_6 : decode cX6_rankedColumn 6 = .ok (.ifCond .lt 33, 3) := by decide +kernel
theorem dX6_rankedColumn_9 : decode cX6_rankedColumn 9 = .ok (.iload_n 1, 1) := by decide +kernel
theorem dX6_rankedColumn_10 : decode cX6_rankedColumn 10 = .ok (.aload_n 0, 1) := by decide +kernel
theorem dX6_rankedColumn_11 : decode cX6_rankedColumn 11 = .ok (.getfield 172, 3) := by decide +kernel
theorem dX6_rankedColumn_14 : decode cX6_rankedColumn 14 = .ok (.if_icmp .ge 25, 3) := by decide +kernel
theorem dX6_rankedColumn_17 : decode cX6_rankedColumn 17 = .ok (.aload_n 0, 1) := by decide +kernel
theorem dX6_rankedColumn_18 : decode cX6_rankedColumn 18 = .ok (.iload_n 2, 1) := by decide +kernel
theorem dX6_rankedColumn_19 : decode cX6_rankedColumn 19 = .ok (.invokevirtual 87, 3) := by decide +kernel
theorem dX6_rankedColumn_22 : decode cX6_rankedColumn 22 = .ok (.ifCond .eq 17, 3) := by decide +kernel
theorem dX6_rankedColumn_25 : decode cX6_rankedColumn 25 = .ok (.aload_n 0, 1) := by decide +kernel
theorem dX6_rankedColumn_26 : decode cX6_rankedColumn 26 = .ok (.getfield 59, 3) := by decide +kernel
theorem dX6_rankedColumn_29 : decode cX6_rankedColumn 29 = .ok (.bipush 10, 2) := by decide +kernel
theorem dX6_rankedColumn_31 : decode cX6_rankedColumn 31 = .ok (.iload_n 1, 1) := by decide +kernel
theorem dX6_rankedColumn_32 : decode cX6_rankedColumn 32 = .ok (.imul, 1) := by decide +kernel
theorem dX6_rankedColumn_33 : decode cX6_rankedColumn 33 = .ok (.iload_n 2, 1) := by decide +kernel
theorem dX6_rankedColumn_34 : decode cX6_rankedColumn 34 = .ok (.iadd, 1) := by decide +kernel
theorem dX6_rankedColumn_35 : decode cX6_rankedColumn 35 = .ok (.iaload, 1) := by decide +kernel
theorem dX6_rankedColumn_36 : decode cX6_rankedColumn 36 = .ok (.goto 8, 3) := by decide +kernel
theorem dX6_rankedColumn_39 : decode cX6_rankedColumn 39 = .ok (.aload_n 0, 1) := by decide +kernel
theorem dX6_rankedColumn_40 : decode cX6_rankedColumn 40 = .ok (.iconst 1, 1) := by decide +kernel
theorem dX6_rankedColumn_41 : decode cX6_rankedColumn 41 = .ok (.invokevirtual 98, 3) := by decide +kernel
theorem dX6_rankedColumn_44 : decode cX6_rankedColumn 44 = .ok (.ireturn, 1) := by decide +kernel
theorem dX6_push_0 : decode cX6_push 0 = .ok (.aload_n 0, 1) := by decide +kernel
theorem dX6_push_1 : decode cX6_push 1 = .ok (.iconst 0, 1) := by decide +kernel
theorem dX6_push_2 : decode cX6_push 2 = .ok (.putfield 77, 3) := by decide +kernel
theorem dX6_push_5 : decode cX6_push 5 = .ok (.aload_n 0, 1) := by decide +kernel
theorem dX6_push_6 : decode cX6_push 6 = .ok (.getfield 182, 3) := by decide +kernel
theorem dX6_push_9 : decode cX6_push 9 = .ok (.bipush 8, 2) := by decide +kernel
theorem dX6_push_11 : decode cX6_push 11 = .ok (.if_icmp .ne 9, 3) := by decide +kernel
theorem dX6_push_14 : decode cX6_push 14 = .ok (.aload_n 0, 1) := by decide +kernel
theorem dX6_push_15 : decode cX6_push 15 = .ok (.iconst 1, 1) := by decide +kernel
theorem dX6_push_16 : decode cX6_push 16 = .ok (.invokevirtual 98, 3) := by decide +kernel
theorem dX6_push_19 : decode cX6_push 19 = .ok (.ireturn, 1) := by decide +kernel
theorem dX6_push_20 : decode cX6_push 20 = .ok (.aload_n 0, 1) := by decide +kernel
theorem dX6_push_21 : decode cX6_push 21 = .ok (.getfield 23, 3) := by decide +kernel
theorem dX6_push_24 : decode cX6_push 24 = .ok (.aload_n 0, 1) := by decide +kernel
theorem dX6_push_25 : decode cX6_push 25 = .ok (.getfield 182, 3) := by decide +kernel
theorem dX6_push_28 : decode cX6_push 28 = .ok (.aload_n 0, 1) := by decide +kernel
theorem dX6_push_29 : decode cX6_push 29 = .ok (.getfield 81, 3) := by decide +kernel
theorem dX6_push_32 : decode cX6_push 32 = .ok (.iastore, 1) := by decide +kernel
theorem dX6_push_33 : decode cX6_push 33 = .ok (.aload_n 0, 1) := by decide +kernel
theorem dX6_push_34 : decode cX6_push 34 = .ok (.getfield 26, 3) := by decide +kernel
theorem dX6_push_37 : decode cX6_push 37 = .ok (.aload_n 0, 1) := by decide +kernel
theorem dX6_push_38 : decode cX6_push 38 = .ok (.getfield 182, 3) := by decide +kernel
theorem dX6_push_41 : decode cX6_push 41 = .ok (.aload_n 0, 1) := by decide +kernel
theorem dX6_push_42 : decode cX6_push 42 = .ok (.getfield 84, 3) := by decide +kernel
theorem dX6_push_45 : decode cX6_push 45 = .ok (.iastore, 1) := by decide +kernel
theorem dX6_push_46 : decode cX6_push 46 = .ok (.iconst 0, 1) := by decide +kernel
theorem dX6_push_47 : decode cX6_push 47 = .ok (.istore_n 1, 1) := by decide +kernel
theorem dX6_push_48 : decode cX6_push 48 = .ok (.iload_n 1, 1) := by decide +kernel
theorem dX6_push_49 : decode cX6_push 49 = .ok (.bipush 10, 2) := by decide +kernel
theorem dX6_push_51 : decode cX6_push 51 = .ok (.if_icmp .ge 49, 3) := by decide +kernel
theorem dX6_push_54 : decode cX6_push 54 = .ok (.aload_n 0, 1) := by decide +kernel
theorem dX6_push_55 : decode cX6_push 55 = .ok (.getfield 29, 3) := by decide +kernel
theorem dX6_push_58 : decode cX6_push 58 = .ok (.bipush 10, 2) := by decide +kernel
theorem dX6_push_60 : decode cX6_push 60 = .ok (.aload_n 0, 1) := by decide +kernel
theorem dX6_push_61 : decode cX6_push 61 = .ok (.getfield 182, 3) := by decide +kernel
theorem dX6_push_64 : decode cX6_push 64 = .ok (.imul, 1) := by decide +kernel
theorem dX6_push_65 : decode cX6_push 65 = .ok (.iload_n 1, 1) := by decide +kernel
theorem dX6_push_66 : decode cX6_push 66 = .ok (.iadd, 1) := by decide +kernel
theorem dX6_push_67 : decode cX6_push 67 = .ok (.aload_n 0, 1) := by decide +kernel
theorem dX6_push_68 : decode cX6_push 68 = .ok (.getfield 9, 3) := by decide +kernel
theorem dX6_push_71 : decode cX6_push 71 = .ok (.iload_n 1, 1) := by decide +kernel
theorem dX6_push_72 : decode cX6_push 72 = .ok (.baload, 1) := by decide +kernel
theorem dX6_push_73 : decode cX6_push 73 = .ok (.bastore, 1) := by decide +kernel
theorem dX6_push_74 : decode cX6_push 74 = .ok (.aload_n 0, 1) := by decide +kernel
theorem dX6_push_75 : decode cX6_push 75 = .ok (.getfield 32, 3) := by decide +kernel
theorem dX6_push_78 : decode cX6_push 78 = .ok (.bipush 10, 2) := by decide +kernel
theorem dX6_push_80 : decode cX6_push 80 = .ok (.aload_n 0, 1) := by decide +kernel
theorem dX6_push_81 : decode cX6_push 81 = .ok (.getfield 182, 3) := by decide +kernel
theorem dX6_push_84 : decode cX6_push 84 = .ok (.imul, 1) := by decide +kernel
theorem dX6_push_85 : decode cX6_push 85 = .ok (.iload_n 1, 1) := by decide +kernel
theorem dX6_push_86 : decode cX6_push 86 = .ok (.iadd, 1) := by decide +kernel
theorem dX6_push_87 : decode cX6_push 87 = .ok (.aload_n 0, 1) := by decide +kernel
theorem dX6_push_88 : decode cX6_push 88 = .ok (.getfield 13, 3) := by decide +kernel
theorem dX6_push_91 : decode cX6_push 91 = .ok (.iload_n 1, 1) := by decide +kernel
theorem dX6_push_92 : decode cX6_push 92 = .ok (.baload, 1) := by decide +kernel
theorem dX6_push_93 : decode cX6_push 93 = .ok (.bastore, 1) := by decide +kernel
theorem dX6_push_94 : decode cX6_push 94 = .ok (.iinc 1 1, 3) := by decide +kernel
theorem dX6_push_97 : decode cX6_push 97 = .ok (.goto (-49), 3) := by decide +kernel
theorem dX6_push_100 : decode cX6_push 100 = .ok (.iconst 0, 1) := by decide +kernel
theorem dX6_push_101 : decode cX6_push 101 = .ok (.istore_n 1, 1) := by decide +kernel
theorem dX6_push_102 : decode cX6_push 102 = .ok (.iload_n 1, 1) := by decide +kernel
theorem dX6_push_103 : decode cX6_push 103 = .ok (.bipush 100, 2) := by decide +kernel
theorem dX6_push_105 : decode cX6_push 105 = .ok (.if_icmp .ge 49, 3) := by decide +kernel
theorem dX6_push_108 : decode cX6_push 108 = .ok (.aload_n 0, 1) := by decide +kernel
theorem dX6_push_109 : decode cX6_push 109 = .ok (.getfield 35, 3) := by decide +kernel
theorem dX6_push_112 : decode cX6_push 112 = .ok (.bipush 100, 2) := by decide +kernel
theorem dX6_push_114 : decode cX6_push 114 = .ok (.aload_n 0, 1) := by decide +kernel
theorem dX6_push_115 : decode cX6_push 115 = .ok (.getfield 182, 3) := by decide +kernel
theorem dX6_push_118 : decode cX6_push 118 = .ok (.imul, 1) := by decide +kernel
theorem dX6_push_119 : decode cX6_push 119 = .ok (.iload_n 1, 1) := by decide +kernel
theorem dX6_push_120 : decode cX6_push 120 = .ok (.iadd, 1) := by decide +kernel
theorem dX6_push_121 : decode cX6_push 121 = .ok (.aload_n 0, 1) := by decide +kernel
theorem dX6_push_122 : decode cX6_push 122 = .ok (.getfield 16, 3) := by decide +kernel
theorem dX6_push_125 : decode cX6_push 125 = .ok (.iload_n 1, 1) := by decide +kernel
theorem dX6_push_126 : decode cX6_push 126 = .ok (.baload, 1) := by decide +kernel
theorem dX6_push_127 : decode cX6_push 127 = .ok (.bastore, 1) := by decide +kernel
theorem dX6_push_128 : decode cX6_push 128 = .ok (.aload_n 0, 1) := by decide +kernel
theorem dX6_push_129 : decode cX6_push 129 = .ok (.getfield 38, 3) := by decide +kernel
theorem dX6_push_132 : decode cX6_push 132 = .ok (.bipush 100, 2) := by decide +kernel
theorem dX6_push_134 : decode cX6_push 134 = .ok (.aload_n 0, 1) := by decide +kernel
theorem dX6_push_135 : decode cX6_push 135 = .ok (.getfield 182, 3) := by decide +kernel
theorem dX6_push_138 : decode cX6_push 138 = .ok (.imul, 1) := by decide +kernel
theorem dX6_push_139 : decode cX6_push 139 = .ok (.iload_n 1, 1) := by decide +kernel
theorem dX6_push_140 : decode cX6_push 140 = .ok (.iadd, 1) := by decide +kernel
theorem dX6_push_141 : decode cX6_push 141 = .ok (.aload_n 0, 1) := by decide +kernel
theorem dX6_push_142 : decode cX6_push 142 = .ok (.getfield 19, 3) := by decide +kernel
theorem dX6_push_145 : decode cX6_push 145 = .ok (.iload_n 1, 1) := by decide +kernel
theorem dX6_push_146 : decode cX6_push 146 = .ok (.iaload, 1) := by decide +kernel
theorem dX6_push_147 : decode cX6_push 147 = .ok (.iastore, 1) := by decide +kernel
theorem dX6_push_148 : decode cX6_push 148 = .ok (.iinc 1 1, 3) := by decide +kernel
theorem dX6_push_151 : decode cX6_push 151 = .ok (.goto (-49), 3) := by decide +kernel
theorem dX6_push_154 : decode cX6_push 154 = .ok (.aload_n 0, 1) := by decide +kernel
theorem dX6_push_155 : decode cX6_push 155 = .ok (.dup, 1) := by decide +kernel
theorem dX6_push_156 : decode cX6_push 156 = .ok (.getfield 182, 3) := by decide +kernel
theorem dX6_push_159 : decode cX6_push 159 = .ok (.iconst 1, 1) := by decide +kernel
theorem dX6_push_160 : decode cX6_push 160 = .ok (.iadd, 1) := by decide +kernel
theorem dX6_push_161 : decode cX6_push 161 = .ok (.putfield 182, 3) := by decide +kernel
theorem dX6_push_164 : decode cX6_push 164 = .ok (.aload_n 0, 1) := by decide +kernel
theorem dX6_push_165 : decode cX6_push 165 = .ok (.getfield 182, 3) := by decide +kernel
theorem dX6_push_168 : decode cX6_push 168 = .ok (.ireturn, 1) := by decide +kernel
theorem dX6_pop_0 : decode cX6_pop 0 = .ok (.aload_n 0, 1) := by decide +kernel
theorem dX6_pop_1 : decode cX6_pop 1 = .ok (.iconst 0, 1) := by decide +kernel
theorem dX6_pop_2 : decode cX6_pop 2 = .ok (.putfield 77, 3) := by decide +kernel
theorem dX6_pop_5 : decode cX6_pop 5 = .ok (.aload_n 0, 1) := by decide +kernel
theorem dX6_pop_6 : decode cX6_pop 6 = .ok (.getfield 182, 3) := by decide +kernel
theorem dX6_pop_9 : decode cX6_pop 9 = .ok (.ifCond .ne 9, 3) := by decide +kernel
theorem dX6_pop_12 : decode cX6_pop 12 = .ok (.aload_n 0, 1) := by decide +kernel
theorem dX6_pop_13 : decode cX6_pop 13 = .ok (.iconst 1, 1) := by decide +kernel
theorem dX6_pop_14 : decode cX6_pop 14 = .ok (.invokevirtual 98, 3) := by decide +kernel
theorem dX6_pop_17 : decode cX6_pop 17 = .ok (.ireturn, 1) := by decide +kernel
theorem dX6_pop_18 : decode cX6_pop 18 = .ok (.aload_n 0, 1) := by decide +kernel
theorem dX6_pop_19 : decode cX6_pop 19 = .ok (.dup, 1) := by decide +kernel
theorem dX6_pop_20 : decode cX6_pop 20 = .ok (.getfield 182, 3) := by decide +kernel
theorem dX6_pop_23 : decode cX6_pop 23 = .ok (.iconst 1, 1) := by decide +kernel
theorem dX6_pop_24 : decode cX6_pop 24 = .ok (.isub, 1) := by decide +kernel
theorem dX6_pop_25 : decode cX6_pop 25 = .ok (.putfield 182, 3) := by decide +kernel
theorem dX6_pop_28 : decode cX6_pop 28 = .ok (.iconst 0, 1) := by decide +kernel
theorem dX6_pop_29 : decode cX6_pop 29 = .ok (.istore_n 1, 1) := by decide +kernel
theorem dX6_pop_30 : decode cX6_pop 30 = .ok (.iload_n 1, 1) := by decide +kernel
theorem dX6_pop_31 : decode cX6_pop 31 = .ok (.bipush 10, 2) := by decide +kernel
theorem dX6_pop_33 : decode cX6_pop 33 = .ok (.if_icmp .ge 91, 3) := by decide +kernel
theorem dX6_pop_36 : decode cX6_pop 36 = .ok (.aload_n 0, 1) := by decide +kernel
theorem dX6_pop_37 : decode cX6_pop 37 = .ok (.getfield 9, 3) := by decide +kernel
theorem dX6_pop_40 : decode cX6_pop 40 = .ok (.iload_n 1, 1) := by decide +kernel
theorem dX6_pop_41 : decode cX6_pop 41 = .ok (.iload_n 1, 1) := by decide +kernel
theorem dX6_pop_42 : decode cX6_pop 42 = .ok (.aload_n 0, 1) := by decide +kernel
theorem dX6_pop_43 : decode cX6_pop 43 = .ok (.getfield 23, 3) := by decide +kernel
theorem dX6_pop_46 : decode cX6_pop 46 = .ok (.aload_n 0, 1) := by decide +kernel
theorem dX6_pop_47 : decode cX6_pop 47 = .ok (.getfield 182, 3) := by decide +kernel
theorem dX6_pop_50 : decode cX6_pop 50 = .ok (.iaload, 1) := by decide +kernel
theorem dX6_pop_51 : decode cX6_pop 51 = .ok (.if_icmp .ge 24, 3) := by decide +kernel
theorem dX6_pop_54 : decode cX6_pop 54 = .ok (.aload_n 0, 1) := by decide +kernel
theorem dX6_pop_55 : decode cX6_pop 55 = .ok (.getfield 29, 3) := by decide +kernel
theorem dX6_pop_58 : decode cX6_pop 58 = .ok (.bipush 10, 2) := by decide +kernel
theorem dX6_pop_60 : decode cX6_pop 60 = .ok (.aload_n 0, 1) := by decide +kernel
theorem dX6_pop_61 : decode cX6_pop 61 = .ok (.getfield 182, 3) := by decide +kernel
theorem dX6_pop_64 : decode cX6_pop 64 = .ok (.imul, 1) := by decide +kernel
theorem dX6_pop_65 : decode cX6_pop 65 = .ok (.iload_n 1, 1) := by decide +kernel
theorem dX6_pop_66 : decode cX6_pop 66 = .ok (.iadd, 1) := by decide +kernel
theorem dX6_pop_67 : decode cX6_pop 67 = .ok (.baload, 1) := by decide +kernel
theorem dX6_pop_68 : decode cX6_pop 68 = .ok (.ifCond .eq 7, 3) := by decide +kernel
theorem dX6_pop_71 : decode cX6_pop 71 = .ok (.iconst 1, 1) := by decide +kernel
theorem dX6_pop_72 : decode cX6_pop 72 = .ok (.goto 4, 3) := by decide +kernel
theorem dX6_pop_75 : decode cX6_pop 75 = .ok (.iconst 0, 1) := by decide +kernel
theorem dX6_pop_76 : decode cX6_pop 76 = .ok (.bastore, 1) := by decide +kernel
theorem dX6_pop_77 : decode cX6_pop 77 = .ok (.aload_n 0, 1) := by decide +kernel
theorem dX6_pop_78 : decode cX6_pop 78 = .ok (.getfield 13, 3) := by decide +kernel
theorem dX6_pop_81 : decode cX6_pop 81 = .ok (.iload_n 1, 1) := by decide +kernel
theorem dX6_pop_82 : decode cX6_pop 82 = .ok (.iload_n 1, 1) := by decide +kernel
theorem dX6_pop_83 : decode cX6_pop 83 = .ok (.aload_n 0, 1) := by decide +kernel
theorem dX6_pop_84 : decode cX6_pop 84 = .ok (.getfield 26, 3) := by decide +kernel
theorem dX6_pop_87 : decode cX6_pop 87 = .ok (.aload_n 0, 1) := by decide +kernel
theorem dX6_pop_88 : decode cX6_pop 88 = .ok (.getfield 182, 3) := by decide +kernel
theorem dX6_pop_91 : decode cX6_pop 91 = .ok (.iaload, 1) := by decide +kernel
theorem dX6_pop_92 : decode cX6_pop 92 = .ok (.if_icmp .ge 24, 3) := by decide +kernel
theorem dX6_pop_95 : decode cX6_pop 95 = .ok (.aload_n 0, 1) := by decide +kernel
theorem dX6_pop_96 : decode cX6_pop 96 = .ok (.getfield 32, 3) := by decide +kernel
theorem dX6_pop_99 : decode cX6_pop 99 = .ok (.bipush 10, 2) := by decide +kernel
theorem dX6_pop_101 : decode cX6_pop 101 = .ok (.aload_n 0, 1) := by decide +kernel
theorem dX6_pop_102 : decode cX6_pop 102 = .ok (.getfield 182, 3) := by decide +kernel
theorem dX6_pop_105 : decode cX6_pop 105 = .ok (.imul, 1) := by decide +kernel
theorem dX6_pop_106 : decode cX6_pop 106 = .ok (.iload_n 1, 1) := by decide +kernel
theorem dX6_pop_107 : decode cX6_pop 107 = .ok (.iadd, 1) := by decide +kernel
theorem dX6_pop_108 : decode cX6_pop 108 = .ok (.baload, 1) := by decide +kernel
theorem dX6_pop_109 : decode cX6_pop 109 = .ok (.ifCond .eq 7, 3) := by decide +kernel
theorem dX6_pop_112 : decode cX6_pop 112 = .ok (.iconst 1, 1) := by decide +kernel
theorem dX6_pop_113 : decode cX6_pop 113 = .ok (.goto 4, 3) := by decide +kernel
theorem dX6_pop_116 : decode cX6_pop 116 = .ok (.iconst 0, 1) := by decide +kernel
theorem dX6_pop_117 : decode cX6_pop 117 = .ok (.bastore, 1) := by decide +kernel
theorem dX6_pop_118 : decode cX6_pop 118 = .ok (.iinc 1 1, 3) := by decide +kernel
theorem dX6_pop_121 : decode cX6_pop 121 = .ok (.goto (-91), 3) := by decide +kernel
theorem dX6_pop_124 : decode cX6_pop 124 = .ok (.iconst 0, 1) := by decide +kernel
theorem dX6_pop_125 : decode cX6_pop 125 = .ok (.istore_n 1, 1) := by decide +kernel
theorem dX6_pop_126 : decode cX6_pop 126 = .ok (.iload_n 1, 1) := by decide +kernel
theorem dX6_pop_127 : decode cX6_pop 127 = .ok (.bipush 100, 2) := by decide +kernel
theorem dX6_pop_129 : decode cX6_pop 129 = .ok (.if_icmp .ge 49, 3) := by decide +kernel
theorem dX6_pop_132 : decode cX6_pop 132 = .ok (.aload_n 0, 1) := by decide +kernel
theorem dX6_pop_133 : decode cX6_pop 133 = .ok (.getfield 16, 3) := by decide +kernel
theorem dX6_pop_136 : decode cX6_pop 136 = .ok (.iload_n 1, 1) := by decide +kernel
theorem dX6_pop_137 : decode cX6_pop 137 = .ok (.aload_n 0, 1) := by decide +kernel
theorem dX6_pop_138 : decode cX6_pop 138 = .ok (.getfield 35, 3) := by decide +kernel
theorem dX6_pop_141 : decode cX6_pop 141 = .ok (.bipush 100, 2) := by decide +kernel
theorem dX6_pop_143 : decode cX6_pop 143 = .ok (.aload_n 0, 1) := by decide +kernel
theorem dX6_pop_144 : decode cX6_pop 144 = .ok (.getfield 182, 3) := by decide +kernel
theorem dX6_pop_147 : decode cX6_pop 147 = .ok (.imul, 1) := by decide +kernel
theorem dX6_pop_148 : decode cX6_pop 148 = .ok (.iload_n 1, 1) := by decide +kernel
theorem dX6_pop_149 : decode cX6_pop 149 = .ok (.iadd, 1) := by decide +kernel
theorem dX6_pop_150 : decode cX6_pop 150 = .ok (.baload, 1) := by decide +kernel
theorem dX6_pop_151 : decode cX6_pop 151 = .ok (.bastore, 1) := by decide +kernel
theorem dX6_pop_152 : decode cX6_pop 152 = .ok (.aload_n 0, 1) := by decide +kernel
theorem dX6_pop_153 : decode cX6_pop 153 = .ok (.getfield 19, 3) := by decide +kernel
theorem dX6_pop_156 : decode cX6_pop 156 = .ok (.iload_n 1, 1) := by decide +kernel
theorem dX6_pop_157 : decode cX6_pop 157 = .ok (.aload_n 0, 1) := by decide +kernel
theorem dX6_pop_158 : decode cX6_pop 158 = .ok (.getfield 38, 3) := by decide +kernel
theorem dX6_pop_161 : decode cX6_pop 161 = .ok (.bipush 100, 2) := by decide +kernel
theorem dX6_pop_163 : decode cX6_pop 163 = .ok (.aload_n 0, 1) := by decide +kernel
theorem dX6_pop_164 : decode cX6_pop 164 = .ok (.getfield 182, 3) := by decide +kernel
theorem dX6_pop_167 : decode cX6_pop 167 = .ok (.imul, 1) := by decide +kernel
theorem dX6_pop_168 : decode cX6_pop 168 = .ok (.iload_n 1, 1) := by decide +kernel
theorem dX6_pop_169 : decode cX6_pop 169 = .ok (.iadd, 1) := by decide +kernel
theorem dX6_pop_170 : decode cX6_pop 170 = .ok (.iaload, 1) := by decide +kernel
theorem dX6_pop_171 : decode cX6_pop 171 = .ok (.iastore, 1) := by decide +kernel
theorem dX6_pop_172 : decode cX6_pop 172 = .ok (.iinc 1 1, 3) := by decide +kernel
theorem dX6_pop_175 : decode cX6_pop 175 = .ok (.goto (-49), 3) := by decide +kernel
theorem dX6_pop_178 : decode cX6_pop 178 = .ok (.aload_n 0, 1) := by decide +kernel
theorem dX6_pop_179 : decode cX6_pop 179 = .ok (.getfield 182, 3) := by decide +kernel
theorem dX6_pop_182 : decode cX6_pop 182 = .ok (.ireturn, 1) := by decide +kernel
theorem dX6_digest_0 : decode cX6_digest 0 = .ok (.aload_n 0, 1) := by decide +kernel
theorem dX6_digest_1 : decode cX6_digest 1 = .ok (.iconst 0, 1) := by decide +kernel
theorem dX6_digest_2 : decode cX6_digest 2 = .ok (.putfield 77, 3) := by decide +kernel
theorem dX6_digest_5 : decode cX6_digest 5 = .ok (.ldc2_w 185, 3) := by decide +kernel
theorem dX6_digest_8 : decode cX6_digest 8 = .ok (.aload_n 0, 1) := by decide +kernel
theorem dX6_digest_9 : decode cX6_digest 9 = .ok (.getfield 81, 3) := by decide +kernel
theorem dX6_digest_12 : decode cX6_digest 12 = .ok (.i2l, 1) := by decide +kernel
theorem dX6_digest_13 : decode cX6_digest 13 = .ok (.ladd, 1) := by decide +kernel
theorem dX6_digest_14 : decode cX6_digest 14 = .ok (.ldc2_w 187, 3) := by decide +kernel
theorem dX6_digest_17 : decode cX6_digest 17 = .ok (.lmul, 1) := by decide +kernel
theorem dX6_digest_18 : decode cX6_digest 18 = .ok (.aload_n 0, 1) := by decide +kernel
theorem dX6_digest_19 : decode cX6_digest 19 = .ok (.getfield 84, 3) := by decide +kernel
theorem dX6_digest_22 : decode cX6_digest 22 = .ok (.i2l, 1) := by decide +kernel
theorem dX6_digest_23 : decode cX6_digest 23 = .ok (.ladd, 1) := by decide +kernel
theorem dX6_digest_24 : decode cX6_digest 24 = .ok (.ldc2_w 187, 3) := by decide +kernel
theorem dX6_digest_27 : decode cX6_digest 27 = .ok (.lmul, 1) := by decide +kernel
theorem dX6_digest_28 : decode cX6_digest 28 = .ok (.aload_n 0, 1) := by decide +kernel
theorem dX6_digest_29 : decode cX6_digest 29 = .ok (.getfield 182, 3) := by decide +kernel
theorem dX6_digest_32 : decode cX6_digest 32 = .ok (.i2l, 1) := by decide +kernel
theorem dX6_digest_33 : decode cX6_digest 33 = .ok (.ladd, 1) := by decide +kernel
theorem dX6_digest_34 : decode cX6_digest 34 = .ok (.lstore_n 1, 1) := by decide +kernel
theorem dX6_digest_35 : decode cX6_digest 35 = .ok (.iconst 0, 1) := by decide +kernel
theorem dX6_digest_36 : decode cX6_digest 36 = .ok (.istore_n 3, 1) := by decide +kernel
theorem dX6_digest_37 : decode cX6_digest 37 = .ok (.iload_n 3, 1) := by decide +kernel
theorem dX6_digest_38 : decode cX6_digest 38 = .ok (.aload_n 0, 1) := by decide +kernel
theorem dX6_digest_39 : decode cX6_digest 39 = .ok (.getfield 81, 3) := by decide +kernel
theorem dX6_digest_42 : decode cX6_digest 42 = .ok (.if_icmp .ge 30, 3) := by decide +kernel
theorem dX6_digest_45 : decode cX6_digest 45 = .ok (.lload_n 1, 1) := by decide +kernel
theorem dX6_digest_46 : decode cX6_digest 46 = .ok (.ldc2_w 187, 3) := by decide +kernel
theorem dX6_digest_49 : decode cX6_digest 49 = .ok (.lmul, 1) := by decide +kernel
theorem dX6_digest_50 : decode cX6_digest 50 = .ok (.aload_n 0, 1) := by decide +kernel
theorem dX6_digest_51 : decode cX6_digest 51 = .ok (.getfield 9, 3) := by decide +kernel
theorem dX6_digest_54 : decode cX6_digest 54 = .ok (.iload_n 3, 1) := by decide +kernel
theorem dX6_digest_55 : decode cX6_digest 55 = .ok (.baload, 1) := by decide +kernel
theorem dX6_digest_56 : decode cX6_digest 56 = .ok (.ifCond .eq 7, 3) := by decide +kernel
theorem dX6_digest_59 : decode cX6_digest 59 = .ok (.lconst 1, 1) := by decide +kernel
theorem dX6_digest_60 : decode cX6_digest 60 = .ok (.goto 4, 3) := by decide +kernel
theorem dX6_digest_63 : decode cX6_digest 63 = .ok (.lconst 0, 1) := by decide +kernel
theorem dX6_digest_64 : decode cX6_digest 64 = .ok (.ladd, 1) := by decide +kernel
theorem dX6_digest_65 : decode cX6_digest 65 = .ok (.lstore_n 1, 1) := by decide +kernel
theorem dX6_digest_66 : decode cX6_digest 66 = .ok (.iinc 3 1, 3) := by decide +kernel
theorem dX6_digest_69 : decode cX6_digest 69 = .ok (.goto (-32), 3) := by decide +kernel
theorem dX6_digest_72 : decode cX6_digest 72 = .ok (.iconst 0, 1) := by decide +kernel
theorem dX6_digest_73 : decode cX6_digest 73 = .ok (.istore_n 3, 1) := by decide +kernel
theorem dX6_digest_74 : decode cX6_digest 74 = .ok (.iload_n 3, 1) := by decide +kernel
theorem dX6_digest_75 : decode cX6_digest 75 = .ok (.aload_n 0, 1) := by decide +kernel
theorem dX6_digest_76 : decode cX6_digest 76 = .ok (.getfield 84, 3) := by decide +kernel
theorem dX6_digest_79 : decode cX6_digest 79 = .ok (.if_icmp .ge 30, 3) := by decide +kernel
theorem dX6_digest_82 : decode cX6_digest 82 = .ok (.lload_n 1, 1) := by decide +kernel
theorem dX6_digest_83 : decode cX6_digest 83 = .ok (.ldc2_w 187, 3) := by decide +kernel
theorem dX6_digest_86 : decode cX6_digest 86 = .ok (.lmul, 1) := by decide +kernel
theorem dX6_digest_87 : decode cX6_digest 87 = .ok (.aload_n 0, 1) := by decide +kernel
theorem dX6_digest_88 : decode cX6_digest 88 = .ok (.getfield 13, 3) := by decide +kernel
theorem dX6_digest_91 : decode cX6_digest 91 = .ok (.iload_n 3, 1) := by decide +kernel
theorem dX6_digest_92 : decode cX6_digest 92 = .ok (.baload, 1) := by decide +kernel
theorem dX6_digest_93 : decode cX6_digest 93 = .ok (.ifCond .eq 7, 3) := by decide +kernel
theorem dX6_digest_96 : decode cX6_digest 96 = .ok (.lconst 1, 1) := by decide +kernel
theorem dX6_digest_97 : decode cX6_digest 97 = .ok (.goto 4, 3) := by decide +kernel
theorem dX6_digest_100 : decode cX6_digest 100 = .ok (.lconst 0, 1) := by decide +kernel
theorem dX6_digest_101 : decode cX6_digest 101 = .ok (.ladd, 1) := by decide +kernel
theorem dX6_digest_102 : decode cX6_digest 102 = .ok (.lstore_n 1, 1) := by decide +kernel
theorem dX6_digest_103 : decode cX6_digest 103 = .ok (.iinc 3 1, 3) := by decide +kernel
theorem dX6_digest_106 : decode cX6_digest 106 = .ok (.goto (-32), 3) := by decide +kernel
theorem dX6_digest_109 : decode cX6_digest 109 = .ok (.iconst 0, 1) := by decide +kernel
theorem dX6_digest_110 : decode cX6_digest 110 = .ok (.istore_n 3, 1) := by decide +kernel
theorem dX6_digest_111 : decode cX6_digest 111 = .ok (.iload_n 3, 1) := by decide +kernel
theorem dX6_digest_112 : decode cX6_digest 112 = .ok (.aload_n 0, 1) := by decide +kernel
theorem dX6_digest_113 : decode cX6_digest 113 = .ok (.getfield 81, 3) := by decide +kernel
theorem dX6_digest_116 : decode cX6_digest 116 = .ok (.if_icmp .ge 68, 3) := by decide +kernel
theorem dX6_digest_119 : decode cX6_digest 119 = .ok (.iconst 0, 1) := by decide +kernel
theorem dX6_digest_120 : decode cX6_digest 120 = .ok (.istore 4, 2) := by decide +kernel
theorem dX6_digest_122 : decode cX6_digest 122 = .ok (.iload 4, 2) := by decide +kernel
theorem dX6_digest_124 : decode cX6_digest 124 = .ok (.aload_n 0, 1) := by decide +kernel
theorem dX6_digest_125 : decode cX6_digest 125 = .ok (.getfield 84, 3) := by decide +kernel
theorem dX6_digest_128 : decode cX6_digest 128 = .ok (.if_icmp .ge 50, 3) := by decide +kernel
theorem dX6_digest_131 : decode cX6_digest 131 = .ok (.lload_n 1, 1) := by decide +kernel
theorem dX6_digest_132 : decode cX6_digest 132 = .ok (.ldc2_w 187, 3) := by decide +kernel
theorem dX6_digest_135 : decode cX6_digest 135 = .ok (.lmul, 1) := by decide +kernel
theorem dX6_digest_136 : decode cX6_digest 136 = .ok (.aload_n 0, 1) := by decide +kernel
theorem dX6_digest_137 : decode cX6_digest 137 = .ok (.getfield 16, 3) := by decide +kernel
theorem dX6_digest_140 : decode cX6_digest 140 = .ok (.bipush 10, 2) := by decide +kernel
theorem dX6_digest_142 : decode cX6_digest 142 = .ok (.iload_n 3, 1) := by decide +kernel
theorem dX6_digest_143 : decode cX6_digest 143 = .ok (.imul, 1) := by decide +kernel
theorem dX6_digest_144 : decode cX6_digest 144 = .ok (.iload 4, 2) := by decide +kernel
theorem dX6_digest_146 : decode cX6_digest 146 = .ok (.iadd, 1) := by decide +kernel
theorem dX6_digest_147 : decode cX6_digest 147 = .ok (.baload, 1) := by decide +kernel
theorem dX6_digest_148 : decode cX6_digest 148 = .ok (.ifCond .eq 18, 3) := by decide +kernel
theorem dX6_digest_151 : decode cX6_digest 151 = .ok (.aload_n 0, 1) := by decide +kernel
theorem dX6_digest_152 : decode cX6_digest 152 = .ok (.getfield 19, 3) := by decide +kernel
theorem dX6_digest_155 : decode cX6_digest 155 = .ok (.bipush 10, 2) := by decide +kernel
theorem dX6_digest_157 : decode cX6_digest 157 = .ok (.iload_n 3, 1) := by decide +kernel
theorem dX6_digest_158 : decode cX6_digest 158 = .ok (.imul, 1) := by decide +kernel
theorem dX6_digest_159 : decode cX6_digest 159 = .ok (.iload 4, 2) := by decide +kernel
theorem dX6_digest_161 : decode cX6_digest 161 = .ok (.iadd, 1) := by decide +kernel
theorem dX6_digest_162 : decode cX6_digest 162 = .ok (.iaload, 1) := by decide +kernel
theorem dX6_digest_163 : decode cX6_digest 163 = .ok (.goto 6, 3) := by decide +kernel
theorem dX6_digest_166 : decode cX6_digest 166 = .ok (.sipush 20000, 3) := by decide +kernel
theorem dX6_digest_169 : decode cX6_digest 169 = .ok (.i2l, 1) := by decide +kernel
theorem dX6_digest_170 : decode cX6_digest 170 = .ok (.ladd, 1) := by decide +kernel
theorem dX6_digest_171 : decode cX6_digest 171 = .ok (.lstore_n 1, 1) := by decide +kernel
theorem dX6_digest_172 : decode cX6_digest 172 = .ok (.iinc 4 1, 3) := by decide +kernel
theorem dX6_digest_175 : decode cX6_digest 175 = .ok (.goto (-53), 3) := by decide +kernel
theorem dX6_digest_178 : decode cX6_digest 178 = .ok (.iinc 3 1, 3) := by decide +kernel
theorem dX6_digest_181 : decode cX6_digest 181 = .ok (.goto (-70), 3) := by decide +kernel
theorem dX6_digest_184 : decode cX6_digest 184 = .ok (.aload_n 0, 1) := by decide +kernel
theorem dX6_digest_185 : decode cX6_digest 185 = .ok (.invokevirtual 146, 3) := by decide +kernel
theorem dX6_digest_188 : decode cX6_digest 188 = .ok (.aload_n 0, 1) := by decide +kernel
theorem dX6_digest_189 : decode cX6_digest 189 = .ok (.invokevirtual 149, 3) := by decide +kernel
theorem dX6_digest_192 : decode cX6_digest 192 = .ok (.lload_n 1, 1) := by decide +kernel
theorem dX6_digest_193 : decode cX6_digest 193 = .ok (.ldc2_w 187, 3) := by decide +kernel
theorem dX6_digest_196 : decode cX6_digest 196 = .ok (.lmul, 1) := by decide +kernel
theorem dX6_digest_197 : decode cX6_digest 197 = .ok (.aload_n 0, 1) := by decide +kernel
theorem dX6_digest_198 : decode cX6_digest 198 = .ok (.getfield 41, 3) := by decide +kernel
theorem dX6_digest_201 : decode cX6_digest 201 = .ok (.iconst 0, 1) := by decide +kernel
theorem dX6_digest_202 : decode cX6_digest 202 = .ok (.iaload, 1) := by decide +kernel
theorem dX6_digest_203 : decode cX6_digest 203 = .ok (.i2l, 1) := by decide +kernel
theorem dX6_digest_204 : decode cX6_digest 204 = .ok (.ladd, 1) := by decide +kernel
theorem dX6_digest_205 : decode cX6_digest 205 = .ok (.ldc2_w 187, 3) := by decide +kernel
theorem dX6_digest_208 : decode cX6_digest 208 = .ok (.lmul, 1) := by decide +kernel
theorem dX6_digest_209 : decode cX6_digest 209 = .ok (.aload_n 0, 1) := by decide +kernel
theorem dX6_digest_210 : decode cX6_digest 210 = .ok (.getfield 44, 3) := by decide +kernel
theorem dX6_digest_213 : decode cX6_digest 213 = .ok (.iconst 0, 1) := by decide +kernel
theorem dX6_digest_214 : decode cX6_digest 214 = .ok (.iaload, 1) := by decide +kernel
theorem dX6_digest_215 : decode cX6_digest 215 = .ok (.i2l, 1) := by decide +kernel
theorem dX6_digest_216 : decode cX6_digest 216 = .ok (.ladd, 1) := by decide +kernel
theorem dX6_digest_217 : decode cX6_digest 217 = .ok (.lstore_n 1, 1) := by decide +kernel
theorem dX6_digest_218 : decode cX6_digest 218 = .ok (.iconst 0, 1) := by decide +kernel
theorem dX6_digest_219 : decode cX6_digest 219 = .ok (.istore_n 3, 1) := by decide +kernel
theorem dX6_digest_220 : decode cX6_digest 220 = .ok (.iload_n 3, 1) := by decide +kernel
theorem dX6_digest_221 : decode cX6_digest 221 = .ok (.aload_n 0, 1) := by decide +kernel
theorem dX6_digest_222 : decode cX6_digest 222 = .ok (.getfield 81, 3) := by decide +kernel
theorem dX6_digest_225 : decode cX6_digest 225 = .ok (.if_icmp .ge 26, 3) := by decide +kernel
theorem dX6_digest_228 : decode cX6_digest 228 = .ok (.lload_n 1, 1) := by decide +kernel
theorem dX6_digest_229 : decode cX6_digest 229 = .ok (.ldc2_w 187, 3) := by decide +kernel
theorem dX6_digest_232 : decode cX6_digest 232 = .ok (.lmul, 1) := by decide +kernel
theorem dX6_digest_233 : decode cX6_digest 233 = .ok (.aload_n 0, 1) := by decide +kernel
theorem dX6_digest_234 : decode cX6_digest 234 = .ok (.getfield 53, 3) := by decide +kernel
theorem dX6_digest_237 : decode cX6_digest 237 = .ok (.iload_n 3, 1) := by decide +kernel
theorem dX6_digest_238 : decode cX6_digest 238 = .ok (.iaload, 1) := by decide +kernel
theorem dX6_digest_239 : decode cX6_digest 239 = .ok (.invokestatic 134, 3) := by decide +kernel
theorem dX6_digest_242 : decode cX6_digest 242 = .ok (.i2l, 1) := by decide +kernel
theorem dX6_digest_243 : decode cX6_digest 243 = .ok (.ladd, 1) := by decide +kernel
theorem dX6_digest_244 : decode cX6_digest 244 = .ok (.lstore_n 1, 1) := by decide +kernel
theorem dX6_digest_245 : decode cX6_digest 245 = .ok (.iinc 3 1, 3) := by decide +kernel
theorem dX6_digest_248 : decode cX6_digest 248 = .ok (.goto (-28), 3) := by decide +kernel
theorem dX6_digest_251 : decode cX6_digest 251 = .ok (.lload_n 1, 1) := by decide +kernel
theorem dX6_digest_252 : decode cX6_digest 252 = .ok (.lreturn, 1) := by decide +kernel
theorem dJx00060_init_a7421_0 : decode cJx00060_init_a7421 0 = .ok (.aload_n 0, 1) := by decide +kernel
theorem dJx00060_init_a7421_1 : decode cJx00060_init_a7421 1 = .ok (.aload_n 1, 1) := by decide +kernel
theorem dJx00060_init_a7421_2 : decode cJx00060_init_a7421 2 = .ok (.invokespecial 7, 3) := by decide +kernel
theorem dJx00060_init_a7421_5 : decode cJx00060_init_a7421 5 = .ok (.return_, 1) := by decide +kernel
theorem dJ6_bitCount_0f7a4_0 : decode cJ6_bitCount_0f7a4 0 = .ok (.iload_n 0, 1) := by decide +kernel
theorem dJ6_bitCount_0f7a4_1 : decode cJ6_bitCount_0f7a4 1 = .ok (.iload_n 0, 1) := by decide +kernel
theorem dJ6_bitCount_0f7a4_2 : decode cJ6_bitCount_0f7a4 2 = .ok (.iconst 1, 1) := by decide +kernel
theorem dJ6_bitCount_0f7a4_3 : decode cJ6_bitCount_0f7a4 3 = .ok (.iushr, 1) := by decide +kernel
theorem dJ6_bitCount_0f7a4_4 : decode cJ6_bitCount_0f7a4 4 = .ok (.ldc_w 265, 3) := by decide +kernel
theorem dJ6_bitCount_0f7a4_7 : decode cJ6_bitCount_0f7a4 7 = .ok (.iand, 1) := by decide +kernel
theorem dJ6_bitCount_0f7a4_8 : decode cJ6_bitCount_0f7a4 8 = .ok (.isub, 1) := by decide +kernel
theorem dJ6_bitCount_0f7a4_9 : decode cJ6_bitCount_0f7a4 9 = .ok (.istore_n 0, 1) := by decide +kernel
theorem dJ6_bitCount_0f7a4_10 : decode cJ6_bitCount_0f7a4 10 = .ok (.iload_n 0, 1) := by decide +kernel
theorem dJ6_bitCount_0f7a4_11 : decode cJ6_bitCount_0f7a4 11 = .ok (.ldc_w 266, 3) := by decide +kernel
theorem dJ6_bitCount_0f7a4_14 : decode cJ6_bitCount_0f7a4 14 = .ok (.iand, 1) := by decide +kernel
theorem dJ6_bitCount_0f7a4_15 : decode cJ6_bitCount_0f7a4 15 = .ok (.iload_n 0, 1) := by decide +kernel
theorem dJ6_bitCount_0f7a4_16 : decode cJ6_bitCount_0f7a4 16 = .ok (.iconst 2, 1) := by decide +kernel
theorem dJ6_bitCount_0f7a4_17 : decode cJ6_bitCount_0f7a4 17 = .ok (.iushr, 1) := by decide +kernel
theorem dJ6_bitCount_0f7a4_18 : decode cJ6_bitCount_0f7a4 18 = .ok (.ldc_w 266, 3) := by decide +kernel
theorem dJ6_bitCount_0f7a4_21 : decode cJ6_bitCount_0f7a4 21 = .ok (.iand, 1) := by decide +kernel
theorem dJ6_bitCount_0f7a4_22 : decode cJ6_bitCount_0f7a4 22 = .ok (.iadd, 1) := by decide +kernel
theorem dJ6_bitCount_0f7a4_23 : decode cJ6_bitCount_0f7a4 23 = .ok (.istore_n 0, 1) := by decide +kernel
theorem dJ6_bitCount_0f7a4_24 : decode cJ6_bitCount_0f7a4 24 = .ok (.iload_n 0, 1) := by decide +kernel
theorem dJ6_bitCount_0f7a4_25 : decode cJ6_bitCount_0f7a4 25 = .ok (.iload_n 0, 1) := by decide +kernel
theorem dJ6_bitCount_0f7a4_26 : decode cJ6_bitCount_0f7a4 26 = .ok (.iconst 4, 1) := by decide +kernel
theorem dJ6_bitCount_0f7a4_27 : decode cJ6_bitCount_0f7a4 27 = .ok (.iushr, 1) := by decide +kernel
theorem dJ6_bitCount_0f7a4_28 : decode cJ6_bitCount_0f7a4 28 = .ok (.iadd, 1) := by decide +kernel
theorem dJ6_bitCount_0f7a4_29 : decode cJ6_bitCount_0f7a4 29 = .ok (.ldc_w 267, 3) := by decide +kernel
theorem dJ6_bitCount_0f7a4_32 : decode cJ6_bitCount_0f7a4 32 = .ok (.iand, 1) := by decide +kernel
theorem dJ6_bitCount_0f7a4_33 : decode cJ6_bitCount_0f7a4 33 = .ok (.istore_n 0, 1) := by decide +kernel
theorem dJ6_bitCount_0f7a4_34 : decode cJ6_bitCount_0f7a4 34 = .ok (.iload_n 0, 1) := by decide +kernel
theorem dJ6_bitCount_0f7a4_35 : decode cJ6_bitCount_0f7a4 35 = .ok (.iload_n 0, 1) := by decide +kernel
theorem dJ6_bitCount_0f7a4_36 : decode cJ6_bitCount_0f7a4 36 = .ok (.bipush 8, 2) := by decide +kernel
theorem dJ6_bitCount_0f7a4_38 : decode cJ6_bitCount_0f7a4 38 = .ok (.iushr, 1) := by decide +kernel
theorem dJ6_bitCount_0f7a4_39 : decode cJ6_bitCount_0f7a4 39 = .ok (.iadd, 1) := by decide +kernel
theorem dJ6_bitCount_0f7a4_40 : decode cJ6_bitCount_0f7a4 40 = .ok (.istore_n 0, 1) := by decide +kernel
theorem dJ6_bitCount_0f7a4_41 : decode cJ6_bitCount_0f7a4 41 = .ok (.iload_n 0, 1) := by decide +kernel
theorem dJ6_bitCount_0f7a4_42 : decode cJ6_bitCount_0f7a4 42 = .ok (.iload_n 0, 1) := by decide +kernel
theorem dJ6_bitCount_0f7a4_43 : decode cJ6_bitCount_0f7a4 43 = .ok (.bipush 16, 2) := by decide +kernel
theorem dJ6_bitCount_0f7a4_45 : decode cJ6_bitCount_0f7a4 45 = .ok (.iushr, 1) := by decide +kernel
theorem dJ6_bitCount_0f7a4_46 : decode cJ6_bitCount_0f7a4 46 = .ok (.iadd, 1) := by decide +kernel
theorem dJ6_bitCount_0f7a4_47 : decode cJ6_bitCount_0f7a4 47 = .ok (.istore_n 0, 1) := by decide +kernel
theorem dJ6_bitCount_0f7a4_48 : decode cJ6_bitCount_0f7a4 48 = .ok (.iload_n 0, 1) := by decide +kernel
theorem dJ6_bitCount_0f7a4_49 : decode cJ6_bitCount_0f7a4 49 = .ok (.bipush 63, 2) := by decide +kernel
theorem dJ6_bitCount_0f7a4_51 : decode cJ6_bitCount_0f7a4 51 = .ok (.iand, 1) := by decide +kernel
theorem dJ6_bitCount_0f7a4_52 : decode cJ6_bitCount_0f7a4 52 = .ok (.ireturn, 1) := by decide +kernel
theorem dJ9_rint_294c1_0 : decode cJ9_rint_294c1 0 = .ok (.dload_n 0, 1) := by decide +kernel
theorem dJ9_rint_294c1_1 : decode cJ9_rint_294c1 1 = .ok (.invokestatic 59, 3) := by decide +kernel
theorem dJ9_rint_294c1_4 : decode cJ9_rint_294c1 4 = .ok (.dreturn, 1) := by decide +kernel
theorem dJ9_abs_294c1_0 : decode cJ9_abs_294c1 0 = .ok (.dload_n 0, 1) := by decide +kernel
theorem dJ9_abs_294c1_1 : decode cJ9_abs_294c1 1 = .ok (.invokestatic 79, 3) := by decide +kernel
theorem dJ9_abs_294c1_4 : decode cJ9_abs_294c1 4 = .ok (.ldc2_w 135, 3) := by decide +kernel
theorem dJ9_abs_294c1_7 : decode cJ9_abs_294c1 7 = .ok (.land, 1) := by decide +kernel
theorem dJ9_abs_294c1_8 : decode cJ9_abs_294c1 8 = .ok (.invokestatic 166, 3) := by decide +kernel
theorem dJ9_abs_294c1_11 : decode cJ9_abs_294c1 11 = .ok (.dreturn, 1) := by decide +kernel
theorem dJ9_min_7cf53_0 : decode cJ9_min_7cf53 0 = .ok (.iload_n 0, 1) := by decide +kernel
theorem dJ9_min_7cf53_1 : decode cJ9_min_7cf53 1 = .ok (.iload_n 1, 1) := by decide +kernel
theorem dJ9_min_7cf53_2 : decode cJ9_min_7cf53 2 = .ok (.if_icmp .gt 7, 3) := by decide +kernel
theorem dJ9_min_7cf53_5 : decode cJ9_min_7cf53 5 = .ok (.iload_n 0, 1) := by decide +kernel
theorem dJ9_min_7cf53_6 : decode cJ9_min_7cf53 6 = .ok (.goto 4, 3) := by decide +kernel
theorem dJ9_min_7cf53_9 : decode cJ9_min_7cf53 9 = .ok (.iload_n 1, 1) := by decide +kernel
theorem dJ9_min_7cf53_10 : decode cJ9_min_7cf53 10 = .ok (.ireturn, 1) := by decide +kernel
theorem dJ9_copySign_eb370_0 : decode cJ9_copySign_eb370 0 = .ok (.dload_n 2, 1) := by decide +kernel
theorem dJ9_copySign_eb370_1 : decode cJ9_copySign_eb370 1 = .ok (.invokestatic 79, 3) := by decide +kernel
theorem dJ9_copySign_eb370_4 : decode cJ9_copySign_eb370 4 = .ok (.ldc2_w 128, 3) := by decide +kernel
theorem dJ9_copySign_eb370_7 : decode cJ9_copySign_eb370 7 = .ok (.land, 1) := by decide +kernel
theorem dJ9_copySign_eb370_8 : decode cJ9_copySign_eb370 8 = .ok (.dload_n 0, 1) := by decide +kernel
theorem dJ9_copySign_eb370_9 : decode cJ9_copySign_eb370 9 = .ok (.invokestatic 79, 3) := by decide +kernel
theorem dJ9_copySign_eb370_12 : decode cJ9_copySign_eb370 12 = .ok (.ldc2_w 135, 3) := by decide +kernel
theorem dJ9_copySign_eb370_15 : decode cJ9_copySign_eb370 15 = .ok (.land, 1) := by decide +kernel
theorem dJ9_copySign_eb370_16 : decode cJ9_copySign_eb370 16 = .ok (.lor, 1) := by decide +kernel
theorem dJ9_copySign_eb370_17 : decode cJ9_copySign_eb370 17 = .ok (.invokestatic 166, 3) := by decide +kernel
theorem dJ9_copySign_eb370_20 : decode cJ9_copySign_eb370 20 = .ok (.dreturn, 1) := by decide +kernel
theorem dJxfc994_rint_294c1_0 : decode cJxfc994_rint_294c1 0 = .ok (.ldc2_w 93, 3) := by decide +kernel
theorem dJxfc994_rint_294c1_3 : decode cJxfc994_rint_294c1 3 = .ok (.dstore_n 2, 1) := by decide +kernel
theorem dJxfc994_rint_294c1_4 : decode cJxfc994_rint_294c1 4 = .ok (.dconst 1, 1) := by decide +kernel
theorem dJxfc994_rint_294c1_5 : decode cJxfc994_rint_294c1 5 = .ok (.dload_n 0, 1) := by decide +kernel
theorem dJxfc994_rint_294c1_6 : decode cJxfc994_rint_294c1 6 = .ok (.invokestatic 95, 3) := by decide +kernel
theorem dJxfc994_rint_294c1_9 : decode cJxfc994_rint_294c1 9 = .ok (.dstore 4, 2) := by decide +kernel
theorem dJxfc994_rint_294c1_11 : decode cJxfc994_rint_294c1 11 = .ok (.dload_n 0, 1) := by decide +kernel
theorem dJxfc994_rint_294c1_12 : decode cJxfc994_rint_294c1 12 = .ok (.invokestatic 98, 3) := by decide +kernel
theorem dJxfc994_rint_294c1_15 : decode cJxfc994_rint_294c1 15 = .ok (.dstore_n 0, 1) := by decide +kernel
theorem dJxfc994_rint_294c1_16 : decode cJxfc994_rint_294c1 16 = .ok (.dload_n 0, 1) := by decide +kernel
theorem dJxfc994_rint_294c1_17 : decode cJxfc994_rint_294c1 17 = .ok (.dload_n 2, 1) := by decide +kernel
theorem dJxfc994_rint_294c1_18 : decode cJxfc994_rint_294c1 18 = .ok (.dcmp .g, 1) := by decide +kernel
theorem dJxfc994_rint_294c1_19 : decode cJxfc994_rint_294c1 19 = .ok (.ifCond .ge 9, 3) := by decide +kernel
theorem dJxfc994_rint_294c1_22 : decode cJxfc994_rint_294c1 22 = .ok (.dload_n 2, 1) := by decide +kernel
theorem dJxfc994_rint_294c1_23 : decode cJxfc994_rint_294c1 23 = .ok (.dload_n 0, 1) := by decide +kernel
theorem dJxfc994_rint_294c1_24 : decode cJxfc994_rint_294c1 24 = .ok (.dadd, 1) := by decide +kernel
theorem dJxfc994_rint_294c1_25 : decode cJxfc994_rint_294c1 25 = .ok (.dload_n 2, 1) := by decide +kernel
theorem dJxfc994_rint_294c1_26 : decode cJxfc994_rint_294c1 26 = .ok (.dsub, 1) := by decide +kernel
theorem dJxfc994_rint_294c1_27 : decode cJxfc994_rint_294c1 27 = .ok (.dstore_n 0, 1) := by decide +kernel
theorem dJxfc994_rint_294c1_28 : decode cJxfc994_rint_294c1 28 = .ok (.dload 4, 2) := by decide +kernel
theorem dJxfc994_rint_294c1_30 : decode cJxfc994_rint_294c1 30 = .ok (.dload_n 0, 1) := by decide +kernel
theorem dJxfc994_rint_294c1_31 : decode cJxfc994_rint_294c1 31 = .ok (.dmul, 1) := by decide +kernel
theorem dJxfc994_rint_294c1_32 : decode cJxfc994_rint_294c1 32 = .ok (.dreturn, 1) := by decide +kernel
theorem dJ7_fill_53178_0 : decode cJ7_fill_53178 0 = .ok (.iconst 0, 1) := by decide +kernel
theorem dJ7_fill_53178_1 : decode cJ7_fill_53178 1 = .ok (.istore_n 2, 1) := by decide +kernel
theorem dJ7_fill_53178_2 : decode cJ7_fill_53178 2 = .ok (.aload_n 0, 1) := by decide +kernel
theorem dJ7_fill_53178_3 : decode cJ7_fill_53178 3 = .ok (.arraylength, 1) := by decide +kernel
theorem dJ7_fill_53178_4 : decode cJ7_fill_53178 4 = .ok (.istore_n 3, 1) := by decide +kernel
theorem dJ7_fill_53178_5 : decode cJ7_fill_53178 5 = .ok (.iload_n 2, 1) := by decide +kernel
theorem dJ7_fill_53178_6 : decode cJ7_fill_53178 6 = .ok (.iload_n 3, 1) := by decide +kernel
theorem dJ7_fill_53178_7 : decode cJ7_fill_53178 7 = .ok (.if_icmp .ge 13, 3) := by decide +kernel
theorem dJ7_fill_53178_10 : decode cJ7_fill_53178 10 = .ok (.aload_n 0, 1) := by decide +kernel
theorem dJ7_fill_53178_11 : decode cJ7_fill_53178 11 = .ok (.iload_n 2, 1) := by decide +kernel
theorem dJ7_fill_53178_12 : decode cJ7_fill_53178 12 = .ok (.iload_n 1, 1) := by decide +kernel
theorem dJ7_fill_53178_13 : decode cJ7_fill_53178 13 = .ok (.iastore, 1) := by decide +kernel
theorem dJ7_fill_53178_14 : decode cJ7_fill_53178 14 = .ok (.iinc 2 1, 3) := by decide +kernel
theorem dJ7_fill_53178_17 : decode cJ7_fill_53178 17 = .ok (.goto (-12), 3) := by decide +kernel
theorem dJ7_fill_53178_20 : decode cJ7_fill_53178 20 = .ok (.return_, 1) := by decide +kernel
theorem dL_addRow_0 : decode cL_addRow 0 = .ok (.aload_n 1, 1) := by decide +kernel
theorem dL_addRow_1 : decode cL_addRow 1 = .ok (.iconst 0, 1) := by decide +kernel
theorem dL_addRow_2 : decode cL_addRow 2 = .ok (.aload_n 0, 1) := by decide +kernel
theorem dL_addRow_3 : decode cL_addRow 3 = .ok (.invokevirtual 7, 3) := by decide +kernel
theorem dL_addRow_6 : decode cL_addRow 6 = .ok (.i2l, 1) := by decide +kernel
theorem dL_addRow_7 : decode cL_addRow 7 = .ok (.lastore, 1) := by decide +kernel
theorem dL_addRow_8 : decode cL_addRow 8 = .ok (.goto 6, 3) := by decide +kernel
theorem dL_addRow_11 : decode cL_addRow 11 = .ok (.astore_n 2, 1) := by decide +kernel
theorem dL_addRow_12 : decode cL_addRow 12 = .ok (.iconst 1, 1) := by decide +kernel
theorem dL_addRow_13 : decode cL_addRow 13 = .ok (.ireturn, 1) := by decide +kernel
theorem dL_addRow_14 : decode cL_addRow 14 = .ok (.iconst 0, 1) := by decide +kernel
theorem dL_addRow_15 : decode cL_addRow 15 = .ok (.ireturn, 1) := by decide +kernel
theorem dL_addColumn_0 : decode cL_addColumn 0 = .ok (.aload_n 1, 1) := by decide +kernel
theorem dL_addColumn_1 : decode cL_addColumn 1 = .ok (.iconst 0, 1) := by decide +kernel
theorem dL_addColumn_2 : decode cL_addColumn 2 = .ok (.aload_n 0, 1) := by decide +kernel
theorem dL_addColumn_3 : decode cL_addColumn 3 = .ok (.invokevirtual 15, 3) := by decide +kernel
theorem dL_addColumn_6 : decode cL_addColumn 6 = .ok (.i2l, 1) := by decide +kernel
theorem dL_addColumn_7 : decode cL_addColumn 7 = .ok (.lastore, 1) := by decide +kernel
theorem dL_addColumn_8 : decode cL_addColumn 8 = .ok (.goto 6, 3) := by decide +kernel
theorem dL_addColumn_11 : decode cL_addColumn 11 = .ok (.astore_n 2, 1) := by decide +kernel
theorem dL_addColumn_12 : decode cL_addColumn 12 = .ok (.iconst 1, 1) := by decide +kernel
theorem dL_addColumn_13 : decode cL_addColumn 13 = .ok (.ireturn, 1) := by decide +kernel
theorem dL_addColumn_14 : decode cL_addColumn 14 = .ok (.iconst 0, 1) := by decide +kernel
theorem dL_addColumn_15 : decode cL_addColumn 15 = .ok (.ireturn, 1) := by decide +kernel
theorem dL_setRow_0 : decode cL_setRow 0 = .ok (.aload_n 3, 1) := by decide +kernel
theorem dL_setRow_1 : decode cL_setRow 1 = .ok (.iconst 0, 1) := by decide +kernel
theorem dL_setRow_2 : decode cL_setRow 2 = .ok (.aload_n 0, 1) := by decide +kernel
theorem dL_setRow_3 : decode cL_setRow 3 = .ok (.iload_n 1, 1) := by decide +kernel
theorem dL_setRow_4 : decode cL_setRow 4 = .ok (.iload_n 2, 1) := by decide +kernel
theorem dL_setRow_5 : decode cL_setRow 5 = .ok (.invokevirtual 18, 3) := by decide +kernel
theorem dL_setRow_8 : decode cL_setRow 8 = .ok (.ifCond .eq 7, 3) := by decide +kernel
theorem dL_setRow_11 : decode cL_setRow 11 = .ok (.lconst 1, 1) := by decide +kernel
theorem dL_setRow_12 : decode cL_setRow 12 = .ok (.goto 4, 3) := by decide +kernel
theorem dL_setRow_15 : decode cL_setRow 15 = .ok (.lconst 0, 1) := by decide +kernel
theorem dL_setRow_16 : decode cL_setRow 16 = .ok (.lastore, 1) := by decide +kernel
theorem dL_setRow_17 : decode cL_setRow 17 = .ok (.goto 7, 3) := by decide +kernel
theorem dL_setRow_20 : decode cL_setRow 20 = .ok (.astore 4, 2) := by decide +kernel
theorem dL_setRow_22 : decode cL_setRow 22 = .ok (.iconst 1, 1) := by decide +kernel
theorem dL_setRow_23 : decode cL_setRow 23 = .ok (.ireturn, 1) := by decide +kernel
theorem dL_setRow_24 : decode cL_setRow 24 = .ok (.iconst 0, 1) := by decide +kernel
theorem dL_setRow_25 : decode cL_setRow 25 = .ok (.ireturn, 1) := by decide +kernel
theorem dL_setColumn_0 : decode cL_setColumn 0 = .ok (.aload_n 3, 1) := by decide +kernel
theorem dL_setColumn_1 : decode cL_setColumn 1 = .ok (.iconst 0, 1) := by decide +kernel
theorem dL_setColumn_2 : decode cL_setColumn 2 = .ok (.aload_n 0, 1) := by decide +kernel
theorem dL_setColumn_3 : decode cL_setColumn 3 = .ok (.iload_n 1, 1) := by decide +kernel
theorem dL_setColumn_4 : decode cL_setColumn 4 = .ok (.iload_n 2, 1) := by decide +kernel
theorem dL_setColumn_5 : decode cL_setColumn 5 = .ok (.invokevirtual 24, 3) := by decide +kernel
theorem dL_setColumn_8 : decode cL_setColumn 8 = .ok (.ifCond .eq 7, 3) := by decide +kernel
theorem dL_setColumn_11 : decode cL_setColumn 11 = .ok (.lconst 1, 1) := by decide +kernel
theorem dL_setColumn_12 : decode cL_setColumn 12 = .ok (.goto 4, 3) := by decide +kernel
theorem dL_setColumn_15 : decode cL_setColumn 15 = .ok (.lconst 0, 1) := by decide +kernel
theorem dL_setColumn_16 : decode cL_setColumn 16 = .ok (.lastore, 1) := by decide +kernel
theorem dL_setColumn_17 : decode cL_setColumn 17 = .ok (.goto 7, 3) := by decide +kernel
theorem dL_setColumn_20 : decode cL_setColumn 20 = .ok (.astore 4, 2) := by decide +kernel
theorem dL_setColumn_22 : decode cL_setColumn 22 = .ok (.iconst 1, 1) := by decide +kernel
theorem dL_setColumn_23 : decode cL_setColumn 23 = .ok (.ireturn, 1) := by decide +kernel
theorem dL_setColumn_24 : decode cL_setColumn 24 = .ok (.iconst 0, 1) := by decide +kernel
theorem dL_setColumn_25 : decode cL_setColumn 25 = .ok (.ireturn, 1) := by decide +kernel
theorem dL_setCost_0 : decode cL_setCost 0 = .ok (.aload 4, 2) := by decide +kernel
theorem dL_setCost_2 : decode cL_setCost 2 = .ok (.iconst 0, 1) := by decide +kernel
theorem dL_setCost_3 : decode cL_setCost 3 = .ok (.aload_n 0, 1) := by decide +kernel
theorem dL_setCost_4 : decode cL_setCost 4 = .ok (.iload_n 1, 1) := by decide +kernel
theorem dL_setCost_5 : decode cL_setCost 5 = .ok (.iload_n 2, 1) := by decide +kernel
theorem dL_setCost_6 : decode cL_setCost 6 = .ok (.iload_n 3, 1) := by decide +kernel
theorem dL_setCost_7 : decode cL_setCost 7 = .ok (.invokevirtual 27, 3) := by decide +kernel
theorem dL_setCost_10 : decode cL_setCost 10 = .ok (.ifCond .eq 7, 3) := by decide +kernel
theorem dL_setCost_13 : decode cL_setCost 13 = .ok (.lconst 1, 1) := by decide +kernel
theorem dL_setCost_14 : decode cL_setCost 14 = .ok (.goto 4, 3) := by decide +kernel
theorem dL_setCost_17 : decode cL_setCost 17 = .ok (.lconst 0, 1) := by decide +kernel
theorem dL_setCost_18 : decode cL_setCost 18 = .ok (.lastore, 1) := by decide +kernel
theorem dL_setCost_19 : decode cL_setCost 19 = .ok (.goto 11, 3) := by decide +kernel
theorem dL_setCost_22 : decode cL_setCost 22 = .ok (.astore 5, 2) := by decide +kernel
theorem dL_setCost_24 : decode cL_setCost 24 = .ok (.iconst 1, 1) := by decide +kernel
theorem dL_setCost_25 : decode cL_setCost 25 = .ok (.ireturn, 1) := by decide +kernel
theorem dL_setCost_26 : decode cL_setCost 26 = .ok (.astore 5, 2) := by decide +kernel
theorem dL_setCost_28 : decode cL_setCost 28 = .ok (.iconst 2, 1) := by decide +kernel
theorem dL_setCost_29 : decode cL_setCost 29 = .ok (.ireturn, 1) := by decide +kernel
theorem dL_setCost_30 : decode cL_setCost 30 = .ok (.iconst 0, 1) := by decide +kernel
theorem dL_setCost_31 : decode cL_setCost 31 = .ok (.ireturn, 1) := by decide +kernel
theorem dL_forbid_0 : decode cL_forbid 0 = .ok (.aload_n 3, 1) := by decide +kernel
theorem dL_forbid_1 : decode cL_forbid 1 = .ok (.iconst 0, 1) := by decide +kernel
theorem dL_forbid_2 : decode cL_forbid 2 = .ok (.aload_n 0, 1) := by decide +kernel
theorem dL_forbid_3 : decode cL_forbid 3 = .ok (.iload_n 1, 1) := by decide +kernel
theorem dL_forbid_4 : decode cL_forbid 4 = .ok (.iload_n 2, 1) := by decide +kernel
theorem dL_forbid_5 : decode cL_forbid 5 = .ok (.invokevirtual 33, 3) := by decide +kernel
theorem dL_forbid_8 : decode cL_forbid 8 = .ok (.ifCond .eq 7, 3) := by decide +kernel
theorem dL_forbid_11 : decode cL_forbid 11 = .ok (.lconst 1, 1) := by decide +kernel
theorem dL_forbid_12 : decode cL_forbid 12 = .ok (.goto 4, 3) := by decide +kernel
theorem dL_forbid_15 : decode cL_forbid 15 = .ok (.lconst 0, 1) := by decide +kernel
theorem dL_forbid_16 : decode cL_forbid 16 = .ok (.lastore, 1) := by decide +kernel
theorem dL_forbid_17 : decode cL_forbid 17 = .ok (.goto 7, 3) := by decide +kernel
theorem dL_forbid_20 : decode cL_forbid 20 = .ok (.astore 4, 2) := by decide +kernel
theorem dL_forbid_22 : decode cL_forbid 22 = .ok (.iconst 1, 1) := by decide +kernel
theorem dL_forbid_23 : decode cL_forbid 23 = .ok (.ireturn, 1) := by decide +kernel
theorem dL_forbid_24 : decode cL_forbid 24 = .ok (.iconst 0, 1) := by decide +kernel
theorem dL_forbid_25 : decode cL_forbid 25 = .ok (.ireturn, 1) := by decide +kernel
theorem dL_addToRow_0 : decode cL_addToRow 0 = .ok (.aload_n 3, 1) := by decide +kernel
theorem dL_addToRow_1 : decode cL_addToRow 1 = .ok (.iconst 0, 1) := by decide +kernel
theorem dL_addToRow_2 : decode cL_addToRow 2 = .ok (.aload_n 0, 1) := by decide +kernel
theorem dL_addToRow_3 : decode cL_addToRow 3 = .ok (.iload_n 1, 1) := by decide +kernel
theorem dL_addToRow_4 : decode cL_addToRow 4 = .ok (.iload_n 2, 1) := by decide +kernel
theorem dL_addToRow_5 : decode cL_addToRow 5 = .ok (.invokevirtual 37, 3) := by decide +kernel
theorem dL_addToRow_8 : decode cL_addToRow 8 = .ok (.i2l, 1) := by decide +kernel
theorem dL_addToRow_9 : decode cL_addToRow 9 = .ok (.lastore, 1) := by decide +kernel
theorem dL_addToRow_10 : decode cL_addToRow 10 = .ok (.goto 11, 3) := by decide +kernel
theorem dL_addToRow_13 : decode cL_addToRow 13 = .ok (.astore 4, 2) := by decide +kernel
theorem dL_addToRow_15 : decode cL_addToRow 15 = .ok (.iconst 1, 1) := by decide +kernel
theorem dL_addToRow_16 : decode cL_addToRow 16 = .ok (.ireturn, 1) := by decide +kernel
theorem dL_addToRow_17 : decode cL_addToRow 17 = .ok (.astore 4, 2) := by decide +kernel
theorem dL_addToRow_19 : decode cL_addToRow 19 = .ok (.iconst 2, 1) := by decide +kernel
theorem dL_addToRow_20 : decode cL_addToRow 20 = .ok (.ireturn, 1) := by decide +kernel
theorem dL_addToRow_21 : decode cL_addToRow 21 = .ok (.iconst 0, 1) := by decide +kernel
theorem dL_addToRow_22 : decode cL_addToRow 22 = .ok (.ireturn, 1) := by decide +kernel
theorem dL_scaleColumn_0 : decode cL_scaleColumn 0 = .ok (.aload 4, 2) := by decide +kernel
theorem dL_scaleColumn_2 : decode cL_scaleColumn 2 = .ok (.iconst 0, 1) := by decide +kernel
theorem dL_scaleColumn_3 : decode cL_scaleColumn 3 = .ok (.aload_n 0, 1) := by decide +kernel
theorem dL_scaleColumn_4 : decode cL_scaleColumn 4 = .ok (.iload_n 1, 1) := by decide +kernel
theorem dL_scaleColumn_5 : decode cL_scaleColumn 5 = .ok (.dload_n 2, 1) := by decide +kernel
theorem dL_scaleColumn_6 : decode cL_scaleColumn 6 = .ok (.invokevirtual 43, 3) := by decide +kernel
theorem dL_scaleColumn_9 : decode cL_scaleColumn 9 = .ok (.i2l, 1) := by decide +kernel
theorem dL_scaleColumn_10 : decode cL_scaleColumn 10 = .ok (.lastore, 1) := by decide +kernel
theorem dL_scaleColumn_11 : decode cL_scaleColumn 11 = .ok (.goto 15, 3) := by decide +kernel
theorem dL_scaleColumn_14 : decode cL_scaleColumn 14 = .ok (.astore 5, 2) := by decide +kernel
theorem dL_scaleColumn_16 : decode cL_scaleColumn 16 = .ok (.iconst 1, 1) := by decide +kernel
theorem dL_scaleColumn_17 : decode cL_scaleColumn 17 = .ok (.ireturn, 1) := by decide +kernel
theorem dL_scaleColumn_18 : decode cL_scaleColumn 18 = .ok (.astore 5, 2) := by decide +kernel
theorem dL_scaleColumn_20 : decode cL_scaleColumn 20 = .ok (.iconst 2, 1) := by decide +kernel
theorem dL_scaleColumn_21 : decode cL_scaleColumn 21 = .ok (.ireturn, 1) := by decide +kernel
theorem dL_scaleColumn_22 : decode cL_scaleColumn 22 = .ok (.astore 5, 2) := by decide +kernel
theorem dL_scaleColumn_24 : decode cL_scaleColumn 24 = .ok (.iconst 3, 1) := by decide +kernel
theorem dL_scaleColumn_25 : decode cL_scaleColumn 25 = .ok (.ireturn, 1) := by decide +kernel
theorem dL_scaleColumn_26 : decode cL_scaleColumn 26 = .ok (.iconst 0, 1) := by decide +kernel
theorem dL_scaleColumn_27 : decode cL_scaleColumn 27 = .ok (.ireturn, 1) := by decide +kernel
theorem dL_isAllowed_0 : decode cL_isAllowed 0 = .ok (.aload_n 3, 1) := by decide +kernel
theorem dL_isAllowed_1 : decode cL_isAllowed 1 = .ok (.iconst 0, 1) := by decide +kernel
theorem dL_isAllowed_2 : decode cL_isAllowed 2 = .ok (.aload_n 0, 1) := by decide +kernel
theorem dL_isAllowed_3 : decode cL_isAllowed 3 = .ok (.iload_n 1, 1) := by decide +kernel
theorem dL_isAllowed_4 : decode cL_isAllowed 4 = .ok (.iload_n 2, 1) := by decide +kernel
theorem dL_isAllowed_5 : decode cL_isAllowed 5 = .ok (.invokevirtual 47, 3) := by decide +kernel
theorem dL_isAllowed_8 : decode cL_isAllowed 8 = .ok (.ifCond .eq 7, 3) := by decide +kernel
theorem dL_isAllowed_11 : decode cL_isAllowed 11 = .ok (.lconst 1, 1) := by decide +kernel
theorem dL_isAllowed_12 : decode cL_isAllowed 12 = .ok (.goto 4, 3) := by decide +kernel
theorem dL_isAllowed_15 : decode cL_isAllowed 15 = .ok (.lconst 0, 1) := by decide +kernel
theorem dL_isAllowed_16 : decode cL_isAllowed 16 = .ok (.lastore, 1) := by decide +kernel
theorem dL_isAllowed_17 : decode cL_isAllowed 17 = .ok (.goto 7, 3) := by decide +kernel
theorem dL_isAllowed_20 : decode cL_isAllowed 20 = .ok (.astore 4, 2) := by decide +kernel
theorem dL_isAllowed_22 : decode cL_isAllowed 22 = .ok (.iconst 1, 1) := by decide +kernel
theorem dL_isAllowed_23 : decode cL_isAllowed 23 = .ok (.ireturn, 1) := by decide +kernel
theorem dL_isAllowed_24 : decode cL_isAllowed 24 = .ok (.iconst 0, 1) := by decide +kernel
theorem dL_isAllowed_25 : decode cL_isAllowed 25 = .ok (.ireturn, 1) := by decide +kernel
theorem dL_cost_0 : decode cL_cost 0 = .ok (.aload_n 3, 1) := by decide +kernel
theorem dL_cost_1 : decode cL_cost 1 = .ok (.iconst 0, 1) := by decide +kernel
theorem dL_cost_2 : decode cL_cost 2 = .ok (.aload_n 0, 1) := by decide +kernel
theorem dL_cost_3 : decode cL_cost 3 = .ok (.iload_n 1, 1) := by decide +kernel
theorem dL_cost_4 : decode cL_cost 4 = .ok (.iload_n 2, 1) := by decide +kernel
theorem dL_cost_5 : decode cL_cost 5 = .ok (.invokevirtual 50, 3) := by decide +kernel
theorem dL_cost_8 : decode cL_cost 8 = .ok (.i2l, 1) := by decide +kernel
theorem dL_cost_9 : decode cL_cost 9 = .ok (.lastore, 1) := by decide +kernel
theorem dL_cost_10 : decode cL_cost 10 = .ok (.goto 11, 3) := by decide +kernel
theorem dL_cost_13 : decode cL_cost 13 = .ok (.astore 4, 2) := by decide +kernel
theorem dL_cost_15 : decode cL_cost 15 = .ok (.iconst 1, 1) := by decide +kernel
theorem dL_cost_16 : decode cL_cost 16 = .ok (.ireturn, 1) := by decide +kernel
theorem dL_cost_17 : decode cL_cost 17 = .ok (.astore 4, 2) := by decide +kernel
theorem dL_cost_19 : decode cL_cost 19 = .ok (.iconst 2, 1) := by decide +kernel
theorem dL_cost_20 : decode cL_cost 20 = .ok (.ireturn, 1) := by decide +kernel
theorem dL_cost_21 : decode cL_cost 21 = .ok (.iconst 0, 1) := by decide +kernel
theorem dL_cost_22 : decode cL_cost 22 = .ok (.ireturn, 1) := by decide +kernel
theorem dL_columnOf_0 : decode cL_columnOf 0 = .ok (.aload_n 2, 1) := by decide +kernel
theorem dL_columnOf_1 : decode cL_columnOf 1 = .ok (.iconst 0, 1) := by decide +kernel
theorem dL_columnOf_2 : decode cL_columnOf 2 = .ok (.aload_n 0, 1) := by decide +kernel
theorem dL_columnOf_3 : decode cL_columnOf 3 = .ok (.iload_n 1, 1) := by decide +kernel
theorem dL_columnOf_4 : decode cL_columnOf 4 = .ok (.invokevirtual 55, 3) := by decide +kernel
theorem dL_columnOf_7 : decode cL_columnOf 7 = .ok (.i2l, 1) := by decide +kernel
theorem dL_columnOf_8 : decode cL_columnOf 8 = .ok (.lastore, 1) := by decide +kernel
theorem dL_columnOf_9 : decode cL_columnOf 9 = .ok (.goto 6, 3) := by decide +kernel
theorem dL_columnOf_12 : decode cL_columnOf 12 = .ok (.astore_n 3, 1) := by decide +kernel
theorem dL_columnOf_13 : decode cL_columnOf 13 = .ok (.iconst 1, 1) := by decide +kernel
theorem dL_columnOf_14 : decode cL_columnOf 14 = .ok (.ireturn, 1) := by decide +kernel
theorem dL_columnOf_15 : decode cL_columnOf 15 = .ok (.iconst 0, 1) := by decide +kernel
theorem dL_columnOf_16 : decode cL_columnOf 16 = .ok (.ireturn, 1) := by decide +kernel
theorem dL_rowOf_0 : decode cL_rowOf 0 = .ok (.aload_n 2, 1) := by decide +kernel
theorem dL_rowOf_1 : decode cL_rowOf 1 = .ok (.iconst 0, 1) := by decide +kernel
theorem dL_rowOf_2 : decode cL_rowOf 2 = .ok (.aload_n 0, 1) := by decide +kernel
theorem dL_rowOf_3 : decode cL_rowOf 3 = .ok (.iload_n 1, 1) := by decide +kernel
theorem dL_rowOf_4 : decode cL_rowOf 4 = .ok (.invokevirtual 59, 3) := by decide +kernel
end
section
theorem dL_rowOf_7 : decode cL_rowOf 7 = .ok (.i2l, 1) := by decide +kernel
theorem dL_rowOf_8 : decode cL_rowOf 8 = .ok (.lastore, 1) := by decide +kernel
theorem dL_rowOf_9 : decode cL_rowOf 9 = .ok (.goto 6, 3) := by decide +kernel
theorem dL_rowOf_12 : decode cL_rowOf 12 = .ok (.astore_n 3, 1) := by decide +kernel
theorem dL_rowOf_13 : decode cL_rowOf 13 = .ok (.iconst 1, 1) := by decide +kernel
theorem dL_rowOf_14 : decode cL_rowOf 14 = .ok (.ireturn, 1) := by decide +kernel
theorem dL_rowOf_15 : decode cL_rowOf 15 = .ok (.iconst 0, 1) := by decide +kernel
theorem dL_rowOf_16 : decode cL_rowOf 16 = .ok (.ireturn, 1) := by decide +kernel
theorem dL_isPossible_0 : decode cL_isPossible 0 = .ok (.aload_n 3, 1) := by decide +kernel
theorem dL_isPossible_1 : decode cL_isPossible 1 = .ok (.iconst 0, 1) := by decide +kernel
theorem dL_isPossible_2 : decode cL_isPossible 2 = .ok (.aload_n 0, 1) := by decide +kernel
theorem dL_isPossible_3 : decode cL_isPossible 3 = .ok (.iload_n 1, 1) := by decide +kernel
theorem dL_isPossible_4 : decode cL_isPossible 4 = .ok (.iload_n 2, 1) := by decide +kernel
theorem dL_isPossible_5 : decode cL_isPossible 5 = .ok (.invokevirtual 62, 3) := by decide +kernel
theorem dL_isPossible_8 : decode cL_isPossible 8 = .ok (.ifCond .eq 7, 3) := by decide +kernel
theorem dL_isPossible_11 : decode cL_isPossible 11 = .ok (.lconst 1, 1) := by decide +kernel
theorem dL_isPossible_12 : decode cL_isPossible 12 = .ok (.goto 4, 3) := by decide +kernel
theorem dL_isPossible_15 : decode cL_isPossible 15 = .ok (.lconst 0, 1) := by decide +kernel
theorem dL_isPossible_16 : decode cL_isPossible 16 = .ok (.lastore, 1) := by decide +kernel
theorem dL_isPossible_17 : decode cL_isPossible 17 = .ok (.goto 7, 3) := by decide +kernel
theorem dL_isPossible_20 : decode cL_isPossible 20 = .ok (.astore 4, 2) := by decide +kernel
theorem dL_isPossible_22 : decode cL_isPossible 22 = .ok (.iconst 1, 1) := by decide +kernel
theorem dL_isPossible_23 : decode cL_isPossible 23 = .ok (.ireturn, 1) := by decide +kernel
theorem dL_isPossible_24 : decode cL_isPossible 24 = .ok (.iconst 0, 1) := by decide +kernel
theorem dL_isPossible_25 : decode cL_isPossible 25 = .ok (.ireturn, 1) := by decide +kernel
theorem dL_isCertain_0 : decode cL_isCertain 0 = .ok (.aload_n 3, 1) := by decide +kernel
theorem dL_isCertain_1 : decode cL_isCertain 1 = .ok (.iconst 0, 1) := by decide +kernel
theorem dL_isCertain_2 : decode cL_isCertain 2 = .ok (.aload_n 0, 1) := by decide +kernel
theorem dL_isCertain_3 : decode cL_isCertain 3 = .ok (.iload_n 1, 1) := by decide +kernel
theorem dL_isCertain_4 : decode cL_isCertain 4 = .ok (.iload_n 2, 1) := by decide +kernel
theorem dL_isCertain_5 : decode cL_isCertain 5 = .ok (.invokevirtual 65, 3) := by decide +kernel
theorem dL_isCertain_8 : decode cL_isCertain 8 = .ok (.ifCond .eq 7, 3) := by decide +kernel
theorem dL_isCertain_11 : decode cL_isCertain 11 = .ok (.lconst 1, 1) := by decide +kernel
theorem dL_isCertain_12 : decode cL_isCertain 12 = .ok (.goto 4, 3) := by decide +kernel
theorem dL_isCertain_15 : decode cL_isCertain 15 = .ok (.lconst 0, 1) := by decide +kernel
theorem dL_isCertain_16 : decode cL_isCertain 16 = .ok (.lastore, 1) := by decide +kernel
theorem dL_isCertain_17 : decode cL_isCertain 17 = .ok (.goto 7, 3) := by decide +kernel
theorem dL_isCertain_20 : decode cL_isCertain 20 = .ok (.astore 4, 2) := by decide +kernel
theorem dL_isCertain_22 : decode cL_isCertain 22 = .ok (.iconst 1, 1) := by decide +kernel
theorem dL_isCertain_23 : decode cL_isCertain 23 = .ok (.ireturn, 1) := by decide +kernel
theorem dL_isCertain_24 : decode cL_isCertain 24 = .ok (.iconst 0, 1) := by decide +kernel
theorem dL_isCertain_25 : decode cL_isCertain 25 = .ok (.ireturn, 1) := by decide +kernel
theorem dL_regret_0 : decode cL_regret 0 = .ok (.aload_n 3, 1) := by decide +kernel
theorem dL_regret_1 : decode cL_regret 1 = .ok (.iconst 0, 1) := by decide +kernel
theorem dL_regret_2 : decode cL_regret 2 = .ok (.aload_n 0, 1) := by decide +kernel
theorem dL_regret_3 : decode cL_regret 3 = .ok (.iload_n 1, 1) := by decide +kernel
theorem dL_regret_4 : decode cL_regret 4 = .ok (.iload_n 2, 1) := by decide +kernel
theorem dL_regret_5 : decode cL_regret 5 = .ok (.invokevirtual 68, 3) := by decide +kernel
theorem dL_regret_8 : decode cL_regret 8 = .ok (.i2l, 1) := by decide +kernel
theorem dL_regret_9 : decode cL_regret 9 = .ok (.lastore, 1) := by decide +kernel
theorem dL_regret_10 : decode cL_regret 10 = .ok (.goto 11, 3) := by decide +kernel
theorem dL_regret_13 : decode cL_regret 13 = .ok (.astore 4, 2) := by decide +kernel
theorem dL_regret_15 : decode cL_regret 15 = .ok (.iconst 1, 1) := by decide +kernel
theorem dL_regret_16 : decode cL_regret 16 = .ok (.ireturn, 1) := by decide +kernel
theorem dL_regret_17 : decode cL_regret 17 = .ok (.astore 4, 2) := by decide +kernel
theorem dL_regret_19 : decode cL_regret 19 = .ok (.iconst 2, 1) := by decide +kernel
theorem dL_regret_20 : decode cL_regret 20 = .ok (.ireturn, 1) := by decide +kernel
theorem dL_regret_21 : decode cL_regret 21 = .ok (.iconst 0, 1) := by decide +kernel
theorem dL_regret_22 : decode cL_regret 22 = .ok (.ireturn, 1) := by decide +kernel
theorem dL_loss_0 : decode cL_loss 0 = .ok (.aload_n 3, 1) := by decide +kernel
theorem dL_loss_1 : decode cL_loss 1 = .ok (.iconst 0, 1) := by decide +kernel
theorem dL_loss_2 : decode cL_loss 2 = .ok (.aload_n 0, 1) := by decide +kernel
theorem dL_loss_3 : decode cL_loss 3 = .ok (.iload_n 1, 1) := by decide +kernel
theorem dL_loss_4 : decode cL_loss 4 = .ok (.iload_n 2, 1) := by decide +kernel
theorem dL_loss_5 : decode cL_loss 5 = .ok (.invokevirtual 71, 3) := by decide +kernel
theorem dL_loss_8 : decode cL_loss 8 = .ok (.i2l, 1) := by decide +kernel
theorem dL_loss_9 : decode cL_loss 9 = .ok (.lastore, 1) := by decide +kernel
theorem dL_loss_10 : decode cL_loss 10 = .ok (.goto 7, 3) := by decide +kernel
theorem dL_loss_13 : decode cL_loss 13 = .ok (.astore 4, 2) := by decide +kernel
theorem dL_loss_15 : decode cL_loss 15 = .ok (.iconst 1, 1) := by decide +kernel
theorem dL_loss_16 : decode cL_loss 16 = .ok (.ireturn, 1) := by decide +kernel
theorem dL_loss_17 : decode cL_loss 17 = .ok (.iconst 0, 1) := by decide +kernel
theorem dL_loss_18 : decode cL_loss 18 = .ok (.ireturn, 1) := by decide +kernel
theorem dL_greatestCost_0 : decode cL_greatestCost 0 = .ok (.aload_n 3, 1) := by decide +kernel
theorem dL_greatestCost_1 : decode cL_greatestCost 1 = .ok (.iconst 0, 1) := by decide +kernel
theorem dL_greatestCost_2 : decode cL_greatestCost 2 = .ok (.aload_n 0, 1) := by decide +kernel
theorem dL_greatestCost_3 : decode cL_greatestCost 3 = .ok (.iload_n 1, 1) := by decide +kernel
theorem dL_greatestCost_4 : decode cL_greatestCost 4 = .ok (.iload_n 2, 1) := by decide +kernel
theorem dL_greatestCost_5 : decode cL_greatestCost 5 = .ok (.invokevirtual 74, 3) := by decide +kernel
theorem dL_greatestCost_8 : decode cL_greatestCost 8 = .ok (.i2l, 1) := by decide +kernel
theorem dL_greatestCost_9 : decode cL_greatestCost 9 = .ok (.lastore, 1) := by decide +kernel
theorem dL_greatestCost_10 : decode cL_greatestCost 10 = .ok (.goto 11, 3) := by decide +kernel
theorem dL_greatestCost_13 : decode cL_greatestCost 13 = .ok (.astore 4, 2) := by decide +kernel
theorem dL_greatestCost_15 : decode cL_greatestCost 15 = .ok (.iconst 1, 1) := by decide +kernel
theorem dL_greatestCost_16 : decode cL_greatestCost 16 = .ok (.ireturn, 1) := by decide +kernel
theorem dL_greatestCost_17 : decode cL_greatestCost 17 = .ok (.astore 4, 2) := by decide +kernel
theorem dL_greatestCost_19 : decode cL_greatestCost 19 = .ok (.iconst 2, 1) := by decide +kernel
theorem dL_greatestCost_20 : decode cL_greatestCost 20 = .ok (.ireturn, 1) := by decide +kernel
theorem dL_greatestCost_21 : decode cL_greatestCost 21 = .ok (.iconst 0, 1) := by decide +kernel
theorem dL_greatestCost_22 : decode cL_greatestCost 22 = .ok (.ireturn, 1) := by decide +kernel
theorem dL_rank_0 : decode cL_rank 0 = .ok (.aload_n 2, 1) := by decide +kernel
theorem dL_rank_1 : decode cL_rank 1 = .ok (.iconst 0, 1) := by decide +kernel
theorem dL_rank_2 : decode cL_rank 2 = .ok (.aload_n 0, 1) := by decide +kernel
theorem dL_rank_3 : decode cL_rank 3 = .ok (.iload_n 1, 1) := by decide +kernel
theorem dL_rank_4 : decode cL_rank 4 = .ok (.invokevirtual 77, 3) := by decide +kernel
theorem dL_rank_7 : decode cL_rank 7 = .ok (.i2l, 1) := by decide +kernel
theorem dL_rank_8 : decode cL_rank 8 = .ok (.lastore, 1) := by decide +kernel
theorem dL_rank_9 : decode cL_rank 9 = .ok (.goto 6, 3) := by decide +kernel
theorem dL_rank_12 : decode cL_rank 12 = .ok (.astore_n 3, 1) := by decide +kernel
theorem dL_rank_13 : decode cL_rank 13 = .ok (.iconst 1, 1) := by decide +kernel
theorem dL_rank_14 : decode cL_rank 14 = .ok (.ireturn, 1) := by decide +kernel
theorem dL_rank_15 : decode cL_rank 15 = .ok (.iconst 0, 1) := by decide +kernel
theorem dL_rank_16 : decode cL_rank 16 = .ok (.ireturn, 1) := by decide +kernel
theorem dL_rankedCost_0 : decode cL_rankedCost 0 = .ok (.aload_n 2, 1) := by decide +kernel
theorem dL_rankedCost_1 : decode cL_rankedCost 1 = .ok (.iconst 0, 1) := by decide +kernel
theorem dL_rankedCost_2 : decode cL_rankedCost 2 = .ok (.aload_n 0, 1) := by decide +kernel
theorem dL_rankedCost_3 : decode cL_rankedCost 3 = .ok (.iload_n 1, 1) := by decide +kernel
theorem dL_rankedCost_4 : decode cL_rankedCost 4 = .ok (.invokevirtual 80, 3) := by decide +kernel
theorem dL_rankedCost_7 : decode cL_rankedCost 7 = .ok (.i2l, 1) := by decide +kernel
theorem dL_rankedCost_8 : decode cL_rankedCost 8 = .ok (.lastore, 1) := by decide +kernel
theorem dL_rankedCost_9 : decode cL_rankedCost 9 = .ok (.goto 6, 3) := by decide +kernel
theorem dL_rankedCost_12 : decode cL_rankedCost 12 = .ok (.astore_n 3, 1) := by decide +kernel
theorem dL_rankedCost_13 : decode cL_rankedCost 13 = .ok (.iconst 1, 1) := by decide +kernel
theorem dL_rankedCost_14 : decode cL_rankedCost 14 = .ok (.ireturn, 1) := by decide +kernel
theorem dL_rankedCost_15 : decode cL_rankedCost 15 = .ok (.iconst 0, 1) := by decide +kernel
theorem dL_rankedCost_16 : decode cL_rankedCost 16 = .ok (.ireturn, 1) := by decide +kernel
theorem dL_rankedColumn_0 : decode cL_rankedColumn 0 = .ok (.aload_n 3, 1) := by decide +kernel
theorem dL_rankedColumn_1 : decode cL_rankedColumn 1 = .ok (.iconst 0, 1) := by decide +kernel
theorem dL_rankedColumn_2 : decode cL_rankedColumn 2 = .ok (.aload_n 0, 1) := by decide +kernel
theorem dL_rankedColumn_3 : decode cL_rankedColumn 3 = .ok (.iload_n 1, 1) := by decide +kernel
theorem dL_rankedColumn_4 : decode cL_rankedColumn 4 = .ok (.iload_n 2, 1) := by decide +kernel
theorem dL_rankedColumn_5 : decode cL_rankedColumn 5 = .ok (.invokevirtual 83, 3) := by decide +kernel
theorem dL_rankedColumn_8 : decode cL_rankedColumn 8 = .ok (.i2l, 1) := by decide +kernel
theorem dL_rankedColumn_9 : decode cL_rankedColumn 9 = .ok (.lastore, 1) := by decide +kernel
theorem dL_rankedColumn_10 : decode cL_rankedColumn 10 = .ok (.goto 7, 3) := by decide +kernel
theorem dL_rankedColumn_13 : decode cL_rankedColumn 13 = .ok (.astore 4, 2) := by decide +kernel
theorem dL_rankedColumn_15 : decode cL_rankedColumn 15 = .ok (.iconst 1, 1) := by decide +kernel
theorem dL_rankedColumn_16 : decode cL_rankedColumn 16 = .ok (.ireturn, 1) := by decide +kernel
theorem dL_rankedColumn_17 : decode cL_rankedColumn 17 = .ok (.iconst 0, 1) := by decide +kernel
theorem dL_rankedColumn_18 : decode cL_rankedColumn 18 = .ok (.ireturn, 1) := by decide +kernel
theorem dL_push_0 : decode cL_push 0 = .ok (.aload_n 1, 1) := by decide +kernel
theorem dL_push_1 : decode cL_push 1 = .ok (.iconst 0, 1) := by decide +kernel
theorem dL_push_2 : decode cL_push 2 = .ok (.aload_n 0, 1) := by decide +kernel
theorem dL_push_3 : decode cL_push 3 = .ok (.invokevirtual 86, 3) := by decide +kernel
theorem dL_push_6 : decode cL_push 6 = .ok (.i2l, 1) := by decide +kernel
theorem dL_push_7 : decode cL_push 7 = .ok (.lastore, 1) := by decide +kernel
theorem dL_push_8 : decode cL_push 8 = .ok (.goto 6, 3) := by decide +kernel
theorem dL_push_11 : decode cL_push 11 = .ok (.astore_n 2, 1) := by decide +kernel
theorem dL_push_12 : decode cL_push 12 = .ok (.iconst 1, 1) := by decide +kernel
theorem dL_push_13 : decode cL_push 13 = .ok (.ireturn, 1) := by decide +kernel
theorem dL_push_14 : decode cL_push 14 = .ok (.iconst 0, 1) := by decide +kernel
theorem dL_push_15 : decode cL_push 15 = .ok (.ireturn, 1) := by decide +kernel
theorem dL_pop_0 : decode cL_pop 0 = .ok (.aload_n 1, 1) := by decide +kernel
theorem dL_pop_1 : decode cL_pop 1 = .ok (.iconst 0, 1) := by decide +kernel
theorem dL_pop_2 : decode cL_pop 2 = .ok (.aload_n 0, 1) := by decide +kernel
theorem dL_pop_3 : decode cL_pop 3 = .ok (.invokevirtual 89, 3) := by decide +kernel
theorem dL_pop_6 : decode cL_pop 6 = .ok (.i2l, 1) := by decide +kernel
theorem dL_pop_7 : decode cL_pop 7 = .ok (.lastore, 1) := by decide +kernel
theorem dL_pop_8 : decode cL_pop 8 = .ok (.goto 6, 3) := by decide +kernel
theorem dL_pop_11 : decode cL_pop 11 = .ok (.astore_n 2, 1) := by decide +kernel
theorem dL_pop_12 : decode cL_pop 12 = .ok (.iconst 1, 1) := by decide +kernel
theorem dL_pop_13 : decode cL_pop 13 = .ok (.ireturn, 1) := by decide +kernel
theorem dL_pop_14 : decode cL_pop 14 = .ok (.iconst 0, 1) := by decide +kernel
theorem dL_pop_15 : decode cL_pop 15 = .ok (.ireturn, 1) := by decide +kernel
theorem dL_law_0 : decode cL_law 0 = .ok (.new 8, 3) := by decide +kernel
theorem dL_law_3 : decode cL_law 3 = .ok (.dup, 1) := by decide +kernel
theorem dL_law_4 : decode cL_law 4 = .ok (.invokespecial 92, 3) := by decide +kernel
theorem dL_law_7 : decode cL_law 7 = .ok (.astore_n 1, 1) := by decide +kernel
theorem dL_law_8 : decode cL_law 8 = .ok (.new 93, 3) := by decide +kernel
theorem dL_law_11 : decode cL_law 11 = .ok (.dup, 1) := by decide +kernel
theorem dL_law_12 : decode cL_law 12 = .ok (.invokespecial 95, 3) := by decide +kernel
theorem dL_law_15 : decode cL_law 15 = .ok (.astore_n 2, 1) := by decide +kernel
theorem dL_law_16 : decode cL_law 16 = .ok (.iconst 1, 1) := by decide +kernel
theorem dL_law_17 : decode cL_law 17 = .ok (.newarray .long, 2) := by decide +kernel
theorem dL_law_19 : decode cL_law 19 = .ok (.astore_n 3, 1) := by decide +kernel
theorem dL_law_20 : decode cL_law 20 = .ok (.iconst 0, 1) := by decide +kernel
theorem dL_law_21 : decode cL_law 21 = .ok (.istore 4, 2) := by decide +kernel
theorem dL_law_23 : decode cL_law 23 = .ok (.iload 4, 2) := by decide +kernel
theorem dL_law_25 : decode cL_law 25 = .ok (.aload_n 0, 1) := by decide +kernel
theorem dL_law_26 : decode cL_law 26 = .ok (.arraylength, 1) := by decide +kernel
theorem dL_law_27 : decode cL_law 27 = .ok (.iconst 4, 1) := by decide +kernel
theorem dL_law_28 : decode cL_law 28 = .ok (.isub, 1) := by decide +kernel
theorem dL_law_29 : decode cL_law 29 = .ok (.if_icmp .gt 1720, 3) := by decide +kernel
theorem dL_law_32 : decode cL_law 32 = .ok (.aload_n 0, 1) := by decide +kernel
theorem dL_law_33 : decode cL_law 33 = .ok (.iload 4, 2) := by decide +kernel
theorem dL_law_35 : decode cL_law 35 = .ok (.iaload, 1) := by decide +kernel
theorem dL_law_36 : decode cL_law 36 = .ok (.bipush 31, 2) := by decide +kernel
theorem dL_law_38 : decode cL_law 38 = .ok (.iand, 1) := by decide +kernel
theorem dL_law_39 : decode cL_law 39 = .ok (.tableswitch 1704 0 28 #[129, 173, 217, 308, 399, 486, 561, 629, 707, 720, 733, 808, 876, 889, 902, 943, 999, 1055, 1068, 1143, 1218, 1286, 1354, 1422, 1478, 1534, 1602, 1646, 1690], 129) := by decide +kernel
theorem dL_law_168 : decode cL_law 168 = .ok (.aload_n 1, 1) := by decide +kernel
theorem dL_law_169 : decode cL_law 169 = .ok (.aload_n 3, 1) := by decide +kernel
theorem dL_law_170 : decode cL_law 170 = .ok (.invokestatic 96, 3) := by decide +kernel
theorem dL_law_173 : decode cL_law 173 = .ok (.istore 5, 2) := by decide +kernel
theorem dL_law_175 : decode cL_law 175 = .ok (.aload_n 2, 1) := by decide +kernel
theorem dL_law_176 : decode cL_law 176 = .ok (.invokevirtual 101, 3) := by decide +kernel
theorem dL_law_179 : decode cL_law 179 = .ok (.istore 6, 2) := by decide +kernel
theorem dL_law_181 : decode cL_law 181 = .ok (.aload_n 2, 1) := by decide +kernel
theorem dL_law_182 : decode cL_law 182 = .ok (.invokevirtual 102, 3) := by decide +kernel
theorem dL_law_185 : decode cL_law 185 = .ok (.iload 5, 2) := by decide +kernel
theorem dL_law_187 : decode cL_law 187 = .ok (.if_icmp .eq 5, 3) := by decide +kernel
theorem dL_law_190 : decode cL_law 190 = .ok (.iconst 0, 1) := by decide +kernel
theorem dL_law_191 : decode cL_law 191 = .ok (.ireturn, 1) := by decide +kernel
theorem dL_law_192 : decode cL_law 192 = .ok (.iload 5, 2) := by decide +kernel
theorem dL_law_194 : decode cL_law 194 = .ok (.ifCond .ne 15, 3) := by decide +kernel
theorem dL_law_197 : decode cL_law 197 = .ok (.aload_n 3, 1) := by decide +kernel
theorem dL_law_198 : decode cL_law 198 = .ok (.iconst 0, 1) := by decide +kernel
theorem dL_law_199 : decode cL_law 199 = .ok (.laload, 1) := by decide +kernel
theorem dL_law_200 : decode cL_law 200 = .ok (.iload 6, 2) := by decide +kernel
theorem dL_law_202 : decode cL_law 202 = .ok (.i2l, 1) := by decide +kernel
theorem dL_law_203 : decode cL_law 203 = .ok (.lcmp, 1) := by decide +kernel
theorem dL_law_204 : decode cL_law 204 = .ok (.ifCond .eq 5, 3) := by decide +kernel
theorem dL_law_207 : decode cL_law 207 = .ok (.iconst 0, 1) := by decide +kernel
theorem dL_law_208 : decode cL_law 208 = .ok (.ireturn, 1) := by decide +kernel
theorem dL_law_209 : decode cL_law 209 = .ok (.goto 1534, 3) := by decide +kernel
theorem dL_law_212 : decode cL_law 212 = .ok (.aload_n 1, 1) := by decide +kernel
theorem dL_law_213 : decode cL_law 213 = .ok (.aload_n 3, 1) := by decide +kernel
theorem dL_law_214 : decode cL_law 214 = .ok (.invokestatic 105, 3) := by decide +kernel
theorem dL_law_217 : decode cL_law 217 = .ok (.istore 5, 2) := by decide +kernel
theorem dL_law_219 : decode cL_law 219 = .ok (.aload_n 2, 1) := by decide +kernel
theorem dL_law_220 : decode cL_law 220 = .ok (.invokevirtual 107, 3) := by decide +kernel
theorem dL_law_223 : decode cL_law 223 = .ok (.istore 6, 2) := by decide +kernel
theorem dL_law_225 : decode cL_law 225 = .ok (.aload_n 2, 1) := by decide +kernel
theorem dL_law_226 : decode cL_law 226 = .ok (.invokevirtual 102, 3) := by decide +kernel
theorem dL_law_229 : decode cL_law 229 = .ok (.iload 5, 2) := by decide +kernel
theorem dL_law_231 : decode cL_law 231 = .ok (.if_icmp .eq 5, 3) := by decide +kernel
theorem dL_law_234 : decode cL_law 234 = .ok (.iconst 0, 1) := by decide +kernel
theorem dL_law_235 : decode cL_law 235 = .ok (.ireturn, 1) := by decide +kernel
theorem dL_law_236 : decode cL_law 236 = .ok (.iload 5, 2) := by decide +kernel
theorem dL_law_238 : decode cL_law 238 = .ok (.ifCond .ne 15, 3) := by decide +kernel
theorem dL_law_241 : decode cL_law 241 = .ok (.aload_n 3, 1) := by decide +kernel
theorem dL_law_242 : decode cL_law 242 = .ok (.iconst 0, 1) := by decide +kernel
theorem dL_law_243 : decode cL_law 243 = .ok (.laload, 1) := by decide +kernel
theorem dL_law_244 : decode cL_law 244 = .ok (.iload 6, 2) := by decide +kernel
theorem dL_law_246 : decode cL_law 246 = .ok (.i2l, 1) := by decide +kernel
theorem dL_law_247 : decode cL_law 247 = .ok (.lcmp, 1) := by decide +kernel
theorem dL_law_248 : decode cL_law 248 = .ok (.ifCond .eq 5, 3) := by decide +kernel
theorem dL_law_251 : decode cL_law 251 = .ok (.iconst 0, 1) := by decide +kernel
theorem dL_law_252 : decode cL_law 252 = .ok (.ireturn, 1) := by decide +kernel
theorem dL_law_253 : decode cL_law 253 = .ok (.goto 1490, 3) := by decide +kernel
theorem dL_law_256 : decode cL_law 256 = .ok (.aload_n 1, 1) := by decide +kernel
theorem dL_law_257 : decode cL_law 257 = .ok (.aload_n 0, 1) := by decide +kernel
theorem dL_law_258 : decode cL_law 258 = .ok (.iload 4, 2) := by decide +kernel
theorem dL_law_260 : decode cL_law 260 = .ok (.iconst 1, 1) := by decide +kernel
theorem dL_law_261 : decode cL_law 261 = .ok (.iadd, 1) := by decide +kernel
theorem dL_law_262 : decode cL_law 262 = .ok (.iaload, 1) := by decide +kernel
theorem dL_law_263 : decode cL_law 263 = .ok (.aload_n 0, 1) := by decide +kernel
theorem dL_law_264 : decode cL_law 264 = .ok (.iload 4, 2) := by decide +kernel
theorem dL_law_266 : decode cL_law 266 = .ok (.iconst 2, 1) := by decide +kernel
theorem dL_law_267 : decode cL_law 267 = .ok (.iadd, 1) := by decide +kernel
theorem dL_law_268 : decode cL_law 268 = .ok (.iaload, 1) := by decide +kernel
theorem dL_law_269 : decode cL_law 269 = .ok (.ifCond .eq 7, 3) := by decide +kernel
theorem dL_law_272 : decode cL_law 272 = .ok (.iconst 1, 1) := by decide +kernel
theorem dL_law_273 : decode cL_law 273 = .ok (.goto 4, 3) := by decide +kernel
theorem dL_law_276 : decode cL_law 276 = .ok (.iconst 0, 1) := by decide +kernel
theorem dL_law_277 : decode cL_law 277 = .ok (.aload_n 3, 1) := by decide +kernel
theorem dL_law_278 : decode cL_law 278 = .ok (.invokestatic 108, 3) := by decide +kernel
theorem dL_law_281 : decode cL_law 281 = .ok (.istore 5, 2) := by decide +kernel
theorem dL_law_283 : decode cL_law 283 = .ok (.aload_n 2, 1) := by decide +kernel
theorem dL_law_284 : decode cL_law 284 = .ok (.aload_n 0, 1) := by decide +kernel
theorem dL_law_285 : decode cL_law 285 = .ok (.iload 4, 2) := by decide +kernel
theorem dL_law_287 : decode cL_law 287 = .ok (.iconst 1, 1) := by decide +kernel
theorem dL_law_288 : decode cL_law 288 = .ok (.iadd, 1) := by decide +kernel
theorem dL_law_289 : decode cL_law 289 = .ok (.iaload, 1) := by decide +kernel
theorem dL_law_290 : decode cL_law 290 = .ok (.aload_n 0, 1) := by decide +kernel
theorem dL_law_291 : decode cL_law 291 = .ok (.iload 4, 2) := by decide +kernel
theorem dL_law_293 : decode cL_law 293 = .ok (.iconst 2, 1) := by decide +kernel
theorem dL_law_294 : decode cL_law 294 = .ok (.iadd, 1) := by decide +kernel
theorem dL_law_295 : decode cL_law 295 = .ok (.iaload, 1) := by decide +kernel
theorem dL_law_296 : decode cL_law 296 = .ok (.ifCond .eq 7, 3) := by decide +kernel
theorem dL_law_299 : decode cL_law 299 = .ok (.iconst 1, 1) := by decide +kernel
theorem dL_law_300 : decode cL_law 300 = .ok (.goto 4, 3) := by decide +kernel
theorem dL_law_303 : decode cL_law 303 = .ok (.iconst 0, 1) := by decide +kernel
theorem dL_law_304 : decode cL_law 304 = .ok (.invokevirtual 111, 3) := by decide +kernel
theorem dL_law_307 : decode cL_law 307 = .ok (.istore 6, 2) := by decide +kernel
theorem dL_law_309 : decode cL_law 309 = .ok (.aload_n 2, 1) := by decide +kernel
theorem dL_law_310 : decode cL_law 310 = .ok (.invokevirtual 102, 3) := by decide +kernel
theorem dL_law_313 : decode cL_law 313 = .ok (.iload 5, 2) := by decide +kernel
theorem dL_law_315 : decode cL_law 315 = .ok (.if_icmp .eq 5, 3) := by decide +kernel
theorem dL_law_318 : decode cL_law 318 = .ok (.iconst 0, 1) := by decide +kernel
theorem dL_law_319 : decode cL_law 319 = .ok (.ireturn, 1) := by decide +kernel
theorem dL_law_320 : decode cL_law 320 = .ok (.iload 5, 2) := by decide +kernel
theorem dL_law_322 : decode cL_law 322 = .ok (.ifCond .ne 22, 3) := by decide +kernel
theorem dL_law_325 : decode cL_law 325 = .ok (.aload_n 3, 1) := by decide +kernel
theorem dL_law_326 : decode cL_law 326 = .ok (.iconst 0, 1) := by decide +kernel
theorem dL_law_327 : decode cL_law 327 = .ok (.laload, 1) := by decide +kernel
theorem dL_law_328 : decode cL_law 328 = .ok (.iload 6, 2) := by decide +kernel
theorem dL_law_330 : decode cL_law 330 = .ok (.ifCond .eq 7, 3) := by decide +kernel
theorem dL_law_333 : decode cL_law 333 = .ok (.lconst 1, 1) := by decide +kernel
theorem dL_law_334 : decode cL_law 334 = .ok (.goto 4, 3) := by decide +kernel
theorem dL_law_337 : decode cL_law 337 = .ok (.lconst 0, 1) := by decide +kernel
theorem dL_law_338 : decode cL_law 338 = .ok (.lcmp, 1) := by decide +kernel
theorem dL_law_339 : decode cL_law 339 = .ok (.ifCond .eq 5, 3) := by decide +kernel
theorem dL_law_342 : decode cL_law 342 = .ok (.iconst 0, 1) := by decide +kernel
theorem dL_law_343 : decode cL_law 343 = .ok (.ireturn, 1) := by decide +kernel
theorem dL_law_344 : decode cL_law 344 = .ok (.goto 1399, 3) := by decide +kernel
theorem dL_law_347 : decode cL_law 347 = .ok (.aload_n 1, 1) := by decide +kernel
theorem dL_law_348 : decode cL_law 348 = .ok (.aload_n 0, 1) := by decide +kernel
theorem dL_law_349 : decode cL_law 349 = .ok (.iload 4, 2) := by decide +kernel
theorem dL_law_351 : decode cL_law 351 = .ok (.iconst 1, 1) := by decide +kernel
theorem dL_law_352 : decode cL_law 352 = .ok (.iadd, 1) := by decide +kernel
theorem dL_law_353 : decode cL_law 353 = .ok (.iaload, 1) := by decide +kernel
theorem dL_law_354 : decode cL_law 354 = .ok (.aload_n 0, 1) := by decide +kernel
theorem dL_law_355 : decode cL_law 355 = .ok (.iload 4, 2) := by decide +kernel
theorem dL_law_357 : decode cL_law 357 = .ok (.iconst 2, 1) := by decide +kernel
theorem dL_law_358 : decode cL_law 358 = .ok (.iadd, 1) := by decide +kernel
theorem dL_law_359 : decode cL_law 359 = .ok (.iaload, 1) := by decide +kernel
theorem dL_law_360 : decode cL_law 360 = .ok (.ifCond .eq 7, 3) := by decide +kernel
theorem dL_law_363 : decode cL_law 363 = .ok (.iconst 1, 1) := by decide +kernel
theorem dL_law_364 : decode cL_law 364 = .ok (.goto 4, 3) := by decide +kernel
theorem dL_law_367 : decode cL_law 367 = .ok (.iconst 0, 1) := by decide +kernel
theorem dL_law_368 : decode cL_law 368 = .ok (.aload_n 3, 1) := by decide +kernel
theorem dL_law_369 : decode cL_law 369 = .ok (.invokestatic 112, 3) := by decide +kernel
theorem dL_law_372 : decode cL_law 372 = .ok (.istore 5, 2) := by decide +kernel
theorem dL_law_374 : decode cL_law 374 = .ok (.aload_n 2, 1) := by decide +kernel
theorem dL_law_375 : decode cL_law 375 = .ok (.aload_n 0, 1) := by decide +kernel
theorem dL_law_376 : decode cL_law 376 = .ok (.iload 4, 2) := by decide +kernel
theorem dL_law_378 : decode cL_law 378 = .ok (.iconst 1, 1) := by decide +kernel
theorem dL_law_379 : decode cL_law 379 = .ok (.iadd, 1) := by decide +kernel
theorem dL_law_380 : decode cL_law 380 = .ok (.iaload, 1) := by decide +kernel
theorem dL_law_381 : decode cL_law 381 = .ok (.aload_n 0, 1) := by decide +kernel
theorem dL_law_382 : decode cL_law 382 = .ok (.iload 4, 2) := by decide +kernel
theorem dL_law_384 : decode cL_law 384 = .ok (.iconst 2, 1) := by decide +kernel
theorem dL_law_385 : decode cL_law 385 = .ok (.iadd, 1) := by decide +kernel
theorem dL_law_386 : decode cL_law 386 = .ok (.iaload, 1) := by decide +kernel
theorem dL_law_387 : decode cL_law 387 = .ok (.ifCond .eq 7, 3) := by decide +kernel
theorem dL_law_390 : decode cL_law 390 = .ok (.iconst 1, 1) := by decide +kernel
theorem dL_law_391 : decode cL_law 391 = .ok (.goto 4, 3) := by decide +kernel
theorem dL_law_394 : decode cL_law 394 = .ok (.iconst 0, 1) := by decide +kernel
theorem dL_law_395 : decode cL_law 395 = .ok (.invokevirtual 114, 3) := by decide +kernel
theorem dL_law_398 : decode cL_law 398 = .ok (.istore 6, 2) := by decide +kernel
theorem dL_law_400 : decode cL_law 400 = .ok (.aload_n 2, 1) := by decide +kernel
theorem dL_law_401 : decode cL_law 401 = .ok (.invokevirtual 102, 3) := by decide +kernel
theorem dL_law_404 : decode cL_law 404 = .ok (.iload 5, 2) := by decide +kernel
theorem dL_law_406 : decode cL_law 406 = .ok (.if_icmp .eq 5, 3) := by decide +kernel
theorem dL_law_409 : decode cL_law 409 = .ok (.iconst 0, 1) := by decide +kernel
theorem dL_law_410 : decode cL_law 410 = .ok (.ireturn, 1) := by decide +kernel
theorem dL_law_411 : decode cL_law 411 = .ok (.iload 5, 2) := by decide +kernel
theorem dL_law_413 : decode cL_law 413 = .ok (.ifCond .ne 22, 3) := by decide +kernel
theorem dL_law_416 : decode cL_law 416 = .ok (.aload_n 3, 1) := by decide +kernel
theorem dL_law_417 : decode cL_law 417 = .ok (.iconst 0, 1) := by decide +kernel
theorem dL_law_418 : decode cL_law 418 = .ok (.laload, 1) := by decide +kernel
theorem dL_law_419 : decode cL_law 419 = .ok (.iload 6, 2) := by decide +kernel
theorem dL_law_421 : decode cL_law 421 = .ok (.ifCond .eq 7, 3) := by decide +kernel
theorem dL_law_424 : decode cL_law 424 = .ok (.lconst 1, 1) := by decide +kernel
theorem dL_law_425 : decode cL_law 425 = .ok (.goto 4, 3) := by decide +kernel
theorem dL_law_428 : decode cL_law 428 = .ok (.lconst 0, 1) := by decide +kernel
theorem dL_law_429 : decode cL_law 429 = .ok (.lcmp, 1) := by decide +kernel
theorem dL_law_430 : decode cL_law 430 = .ok (.ifCond .eq 5, 3) := by decide +kernel
theorem dL_law_433 : decode cL_law 433 = .ok (.iconst 0, 1) := by decide +kernel
theorem dL_law_434 : decode cL_law 434 = .ok (.ireturn, 1) := by decide +kernel
theorem dL_law_435 : decode cL_law 435 = .ok (.goto 1308, 3) := by decide +kernel
theorem dL_law_438 : decode cL_law 438 = .ok (.aload_n 1, 1) := by decide +kernel
theorem dL_law_439 : decode cL_law 439 = .ok (.aload_n 0, 1) := by decide +kernel
theorem dL_law_440 : decode cL_law 440 = .ok (.iload 4, 2) := by decide +kernel
theorem dL_law_442 : decode cL_law 442 = .ok (.iconst 1, 1) := by decide +kernel
theorem dL_law_443 : decode cL_law 443 = .ok (.iadd, 1) := by decide +kernel
theorem dL_law_444 : decode cL_law 444 = .ok (.iaload, 1) := by decide +kernel
theorem dL_law_445 : decode cL_law 445 = .ok (.aload_n 0, 1) := by decide +kernel
theorem dL_law_446 : decode cL_law 446 = .ok (.iload 4, 2) := by decide +kernel
theorem dL_law_448 : decode cL_law 448 = .ok (.iconst 2, 1) := by decide +kernel
theorem dL_law_449 : decode cL_law 449 = .ok (.iadd, 1) := by decide +kernel
theorem dL_law_450 : decode cL_law 450 = .ok (.iaload, 1) := by decide +kernel
theorem dL_law_451 : decode cL_law 451 = .ok (.aload_n 0, 1) := by decide +kernel
theorem dL_law_452 : decode cL_law 452 = .ok (.iload 4, 2) := by decide +kernel
theorem dL_law_454 : decode cL_law 454 = .ok (.iconst 3, 1) := by decide +kernel
theorem dL_law_455 : decode cL_law 455 = .ok (.iadd, 1) := by decide +kernel
theorem dL_law_456 : decode cL_law 456 = .ok (.iaload, 1) := by decide +kernel
theorem dL_law_457 : decode cL_law 457 = .ok (.aload_n 3, 1) := by decide +kernel
theorem dL_law_458 : decode cL_law 458 = .ok (.invokestatic 115, 3) := by decide +kernel
theorem dL_law_461 : decode cL_law 461 = .ok (.istore 5, 2) := by decide +kernel
theorem dL_law_463 : decode cL_law 463 = .ok (.aload_n 2, 1) := by decide +kernel
theorem dL_law_464 : decode cL_law 464 = .ok (.aload_n 0, 1) := by decide +kernel
theorem dL_law_465 : decode cL_law 465 = .ok (.iload 4, 2) := by decide +kernel
theorem dL_law_467 : decode cL_law 467 = .ok (.iconst 1, 1) := by decide +kernel
theorem dL_law_468 : decode cL_law 468 = .ok (.iadd, 1) := by decide +kernel
theorem dL_law_469 : decode cL_law 469 = .ok (.iaload, 1) := by decide +kernel
theorem dL_law_470 : decode cL_law 470 = .ok (.aload_n 0, 1) := by decide +kernel
theorem dL_law_471 : decode cL_law 471 = .ok (.iload 4, 2) := by decide +kernel
theorem dL_law_473 : decode cL_law 473 = .ok (.iconst 2, 1) := by decide +kernel
theorem dL_law_474 : decode cL_law 474 = .ok (.iadd, 1) := by decide +kernel
theorem dL_law_475 : decode cL_law 475 = .ok (.iaload, 1) := by decide +kernel
theorem dL_law_476 : decode cL_law 476 = .ok (.aload_n 0, 1) := by decide +kernel
theorem dL_law_477 : decode cL_law 477 = .ok (.iload 4, 2) := by decide +kernel
theorem dL_law_479 : decode cL_law 479 = .ok (.iconst 3, 1) := by decide +kernel
theorem dL_law_480 : decode cL_law 480 = .ok (.iadd, 1) := by decide +kernel
theorem dL_law_481 : decode cL_law 481 = .ok (.iaload, 1) := by decide +kernel
theorem dL_law_482 : decode cL_law 482 = .ok (.invokevirtual 118, 3) := by decide +kernel
theorem dL_law_485 : decode cL_law 485 = .ok (.istore 6, 2) := by decide +kernel
theorem dL_law_487 : decode cL_law 487 = .ok (.aload_n 2, 1) := by decide +kernel
theorem dL_law_488 : decode cL_law 488 = .ok (.invokevirtual 102, 3) := by decide +kernel
theorem dL_law_491 : decode cL_law 491 = .ok (.iload 5, 2) := by decide +kernel
theorem dL_law_493 : decode cL_law 493 = .ok (.if_icmp .eq 5, 3) := by decide +kernel
theorem dL_law_496 : decode cL_law 496 = .ok (.iconst 0, 1) := by decide +kernel
theorem dL_law_497 : decode cL_law 497 = .ok (.ireturn, 1) := by decide +kernel
theorem dL_law_498 : decode cL_law 498 = .ok (.iload 5, 2) := by decide +kernel
theorem dL_law_500 : decode cL_law 500 = .ok (.ifCond .ne 22, 3) := by decide +kernel
theorem dL_law_503 : decode cL_law 503 = .ok (.aload_n 3, 1) := by decide +kernel
theorem dL_law_504 : decode cL_law 504 = .ok (.iconst 0, 1) := by decide +kernel
theorem dL_law_505 : decode cL_law 505 = .ok (.laload, 1) := by decide +kernel
theorem dL_law_506 : decode cL_law 506 = .ok (.iload 6, 2) := by decide +kernel
theorem dL_law_508 : decode cL_law 508 = .ok (.ifCond .eq 7, 3) := by decide +kernel
theorem dL_law_511 : decode cL_law 511 = .ok (.lconst 1, 1) := by decide +kernel
theorem dL_law_512 : decode cL_law 512 = .ok (.goto 4, 3) := by decide +kernel
theorem dL_law_515 : decode cL_law 515 = .ok (.lconst 0, 1) := by decide +kernel
theorem dL_law_516 : decode cL_law 516 = .ok (.lcmp, 1) := by decide +kernel
theorem dL_law_517 : decode cL_law 517 = .ok (.ifCond .eq 5, 3) := by decide +kernel
theorem dL_law_520 : decode cL_law 520 = .ok (.iconst 0, 1) := by decide +kernel
theorem dL_law_521 : decode cL_law 521 = .ok (.ireturn, 1) := by decide +kernel
theorem dL_law_522 : decode cL_law 522 = .ok (.goto 1221, 3) := by decide +kernel
theorem dL_law_525 : decode cL_law 525 = .ok (.aload_n 1, 1) := by decide +kernel
theorem dL_law_526 : decode cL_law 526 = .ok (.aload_n 0, 1) := by decide +kernel
theorem dL_law_527 : decode cL_law 527 = .ok (.iload 4, 2) := by decide +kernel
theorem dL_law_529 : decode cL_law 529 = .ok (.iconst 1, 1) := by decide +kernel
theorem dL_law_530 : decode cL_law 530 = .ok (.iadd, 1) := by decide +kernel
theorem dL_law_531 : decode cL_law 531 = .ok (.iaload, 1) := by decide +kernel
theorem dL_law_532 : decode cL_law 532 = .ok (.aload_n 0, 1) := by decide +kernel
theorem dL_law_533 : decode cL_law 533 = .ok (.iload 4, 2) := by decide +kernel
theorem dL_law_535 : decode cL_law 535 = .ok (.iconst 2, 1) := by decide +kernel
theorem dL_law_536 : decode cL_law 536 = .ok (.iadd, 1) := by decide +kernel
theorem dL_law_537 : decode cL_law 537 = .ok (.iaload, 1) := by decide +kernel
theorem dL_law_538 : decode cL_law 538 = .ok (.aload_n 3, 1) := by decide +kernel
theorem dL_law_539 : decode cL_law 539 = .ok (.invokestatic 119, 3) := by decide +kernel
theorem dL_law_542 : decode cL_law 542 = .ok (.istore 5, 2) := by decide +kernel
theorem dL_law_544 : decode cL_law 544 = .ok (.aload_n 2, 1) := by decide +kernel
theorem dL_law_545 : decode cL_law 545 = .ok (.aload_n 0, 1) := by decide +kernel
theorem dL_law_546 : decode cL_law 546 = .ok (.iload 4, 2) := by decide +kernel
theorem dL_law_548 : decode cL_law 548 = .ok (.iconst 1, 1) := by decide +kernel
theorem dL_law_549 : decode cL_law 549 = .ok (.iadd, 1) := by decide +kernel
theorem dL_law_550 : decode cL_law 550 = .ok (.iaload, 1) := by decide +kernel
theorem dL_law_551 : decode cL_law 551 = .ok (.aload_n 0, 1) := by decide +kernel
theorem dL_law_552 : decode cL_law 552 = .ok (.iload 4, 2) := by decide +kernel
theorem dL_law_554 : decode cL_law 554 = .ok (.iconst 2, 1) := by decide +kernel
theorem dL_law_555 : decode cL_law 555 = .ok (.iadd, 1) := by decide +kernel
theorem dL_law_556 : decode cL_law 556 = .ok (.iaload, 1) := by decide +kernel
theorem dL_law_557 : decode cL_law 557 = .ok (.invokevirtual 122, 3) := by decide +kernel
theorem dL_law_560 : decode cL_law 560 = .ok (.istore 6, 2) := by decide +kernel
theorem dL_law_562 : decode cL_law 562 = .ok (.aload_n 2, 1) := by decide +kernel
theorem dL_law_563 : decode cL_law 563 = .ok (.invokevirtual 102, 3) := by decide +kernel
theorem dL_law_566 : decode cL_law 566 = .ok (.iload 5, 2) := by decide +kernel
theorem dL_law_568 : decode cL_law 568 = .ok (.if_icmp .eq 5, 3) := by decide +kernel
theorem dL_law_571 : decode cL_law 571 = .ok (.iconst 0, 1) := by decide +kernel
theorem dL_law_572 : decode cL_law 572 = .ok (.ireturn, 1) := by decide +kernel
theorem dL_law_573 : decode cL_law 573 = .ok (.iload 5, 2) := by decide +kernel
theorem dL_law_575 : decode cL_law 575 = .ok (.ifCond .ne 22, 3) := by decide +kernel
theorem dL_law_578 : decode cL_law 578 = .ok (.aload_n 3, 1) := by decide +kernel
theorem dL_law_579 : decode cL_law 579 = .ok (.iconst 0, 1) := by decide +kernel
theorem dL_law_580 : decode cL_law 580 = .ok (.laload, 1) := by decide +kernel
theorem dL_law_581 : decode cL_law 581 = .ok (.iload 6, 2) := by decide +kernel
theorem dL_law_583 : decode cL_law 583 = .ok (.ifCond .eq 7, 3) := by decide +kernel
theorem dL_law_586 : decode cL_law 586 = .ok (.lconst 1, 1) := by decide +kernel
theorem dL_law_587 : decode cL_law 587 = .ok (.goto 4, 3) := by decide +kernel
theorem dL_law_590 : decode cL_law 590 = .ok (.lconst 0, 1) := by decide +kernel
theorem dL_law_591 : decode cL_law 591 = .ok (.lcmp, 1) := by decide +kernel
theorem dL_law_592 : decode cL_law 592 = .ok (.ifCond .eq 5, 3) := by decide +kernel
theorem dL_law_595 : decode cL_law 595 = .ok (.iconst 0, 1) := by decide +kernel
theorem dL_law_596 : decode cL_law 596 = .ok (.ireturn, 1) := by decide +kernel
theorem dL_law_597 : decode cL_law 597 = .ok (.goto 1146, 3) := by decide +kernel
theorem dL_law_600 : decode cL_law 600 = .ok (.aload_n 1, 1) := by decide +kernel
theorem dL_law_601 : decode cL_law 601 = .ok (.aload_n 0, 1) := by decide +kernel
theorem dL_law_602 : decode cL_law 602 = .ok (.iload 4, 2) := by decide +kernel
theorem dL_law_604 : decode cL_law 604 = .ok (.iconst 1, 1) := by decide +kernel
theorem dL_law_605 : decode cL_law 605 = .ok (.iadd, 1) := by decide +kernel
theorem dL_law_606 : decode cL_law 606 = .ok (.iaload, 1) := by decide +kernel
theorem dL_law_607 : decode cL_law 607 = .ok (.aload_n 0, 1) := by decide +kernel
theorem dL_law_608 : decode cL_law 608 = .ok (.iload 4, 2) := by decide +kernel
theorem dL_law_610 : decode cL_law 610 = .ok (.iconst 2, 1) := by decide +kernel
theorem dL_law_611 : decode cL_law 611 = .ok (.iadd, 1) := by decide +kernel
theorem dL_law_612 : decode cL_law 612 = .ok (.iaload, 1) := by decide +kernel
theorem dL_law_613 : decode cL_law 613 = .ok (.aload_n 3, 1) := by decide +kernel
theorem dL_law_614 : decode cL_law 614 = .ok (.invokestatic 123, 3) := by decide +kernel
theorem dL_law_617 : decode cL_law 617 = .ok (.istore 5, 2) := by decide +kernel
theorem dL_law_619 : decode cL_law 619 = .ok (.aload_n 2, 1) := by decide +kernel
theorem dL_law_620 : decode cL_law 620 = .ok (.aload_n 0, 1) := by decide +kernel
theorem dL_law_621 : decode cL_law 621 = .ok (.iload 4, 2) := by decide +kernel
theorem dL_law_623 : decode cL_law 623 = .ok (.iconst 1, 1) := by decide +kernel
theorem dL_law_624 : decode cL_law 624 = .ok (.iadd, 1) := by decide +kernel
theorem dL_law_625 : decode cL_law 625 = .ok (.iaload, 1) := by decide +kernel
theorem dL_law_626 : decode cL_law 626 = .ok (.aload_n 0, 1) := by decide +kernel
theorem dL_law_627 : decode cL_law 627 = .ok (.iload 4, 2) := by decide +kernel
theorem dL_law_629 : decode cL_law 629 = .ok (.iconst 2, 1) := by decide +kernel
theorem dL_law_630 : decode cL_law 630 = .ok (.iadd, 1) := by decide +kernel
theorem dL_law_631 : decode cL_law 631 = .ok (.iaload, 1) := by decide +kernel
theorem dL_law_632 : decode cL_law 632 = .ok (.invokevirtual 125, 3) := by decide +kernel
theorem dL_law_635 : decode cL_law 635 = .ok (.istore 6, 2) := by decide +kernel
theorem dL_law_637 : decode cL_law 637 = .ok (.aload_n 2, 1) := by decide +kernel
theorem dL_law_638 : decode cL_law 638 = .ok (.invokevirtual 102, 3) := by decide +kernel
theorem dL_law_641 : decode cL_law 641 = .ok (.iload 5, 2) := by decide +kernel
theorem dL_law_643 : decode cL_law 643 = .ok (.if_icmp .eq 5, 3) := by decide +kernel
theorem dL_law_646 : decode cL_law 646 = .ok (.iconst 0, 1) := by decide +kernel
theorem dL_law_647 : decode cL_law 647 = .ok (.ireturn, 1) := by decide +kernel
theorem dL_law_648 : decode cL_law 648 = .ok (.iload 5, 2) := by decide +kernel
theorem dL_law_650 : decode cL_law 650 = .ok (.ifCond .ne 15, 3) := by decide +kernel
theorem dL_law_653 : decode cL_law 653 = .ok (.aload_n 3, 1) := by decide +kernel
theorem dL_law_654 : decode cL_law 654 = .ok (.iconst 0, 1) := by decide +kernel
theorem dL_law_655 : decode cL_law 655 = .ok (.laload, 1) := by decide +kernel
theorem dL_law_656 : decode cL_law 656 = .ok (.iload 6, 2) := by decide +kernel
theorem dL_law_658 : decode cL_law 658 = .ok (.i2l, 1) := by decide +kernel
theorem dL_law_659 : decode cL_law 659 = .ok (.lcmp, 1) := by decide +kernel
theorem dL_law_660 : decode cL_law 660 = .ok (.ifCond .eq 5, 3) := by decide +kernel
theorem dL_law_663 : decode cL_law 663 = .ok (.iconst 0, 1) := by decide +kernel
theorem dL_law_664 : decode cL_law 664 = .ok (.ireturn, 1) := by decide +kernel
theorem dL_law_665 : decode cL_law 665 = .ok (.goto 1078, 3) := by decide +kernel
theorem dL_law_668 : decode cL_law 668 = .ok (.aload_n 1, 1) := by decide +kernel
theorem dL_law_669 : decode cL_law 669 = .ok (.aload_n 0, 1) := by decide +kernel
theorem dL_law_670 : decode cL_law 670 = .ok (.iload 4, 2) := by decide +kernel
theorem dL_law_672 : decode cL_law 672 = .ok (.iconst 1, 1) := by decide +kernel
theorem dL_law_673 : decode cL_law 673 = .ok (.iadd, 1) := by decide +kernel
theorem dL_law_674 : decode cL_law 674 = .ok (.iaload, 1) := by decide +kernel
theorem dL_law_675 : decode cL_law 675 = .ok (.aload_n 0, 1) := by decide +kernel
theorem dL_law_676 : decode cL_law 676 = .ok (.iload 4, 2) := by decide +kernel
theorem dL_law_678 : decode cL_law 678 = .ok (.iconst 2, 1) := by decide +kernel
theorem dL_law_679 : decode cL_law 679 = .ok (.iadd, 1) := by decide +kernel
theorem dL_law_680 : decode cL_law 680 = .ok (.iaload, 1) := by decide +kernel
theorem dL_law_681 : decode cL_law 681 = .ok (.i2d, 1) := by decide +kernel
theorem dL_law_682 : decode cL_law 682 = .ok (.ldc2_w 126, 3) := by decide +kernel
theorem dL_law_685 : decode cL_law 685 = .ok (.dmul, 1) := by decide +kernel
theorem dL_law_686 : decode cL_law 686 = .ok (.aload_n 3, 1) := by decide +kernel
theorem dL_law_687 : decode cL_law 687 = .ok (.invokestatic 128, 3) := by decide +kernel
theorem dL_law_690 : decode cL_law 690 = .ok (.istore 5, 2) := by decide +kernel
theorem dL_law_692 : decode cL_law 692 = .ok (.aload_n 2, 1) := by decide +kernel
theorem dL_law_693 : decode cL_law 693 = .ok (.aload_n 0, 1) := by decide +kernel
theorem dL_law_694 : decode cL_law 694 = .ok (.iload 4, 2) := by decide +kernel
theorem dL_law_696 : decode cL_law 696 = .ok (.iconst 1, 1) := by decide +kernel
theorem dL_law_697 : decode cL_law 697 = .ok (.iadd, 1) := by decide +kernel
theorem dL_law_698 : decode cL_law 698 = .ok (.iaload, 1) := by decide +kernel
theorem dL_law_699 : decode cL_law 699 = .ok (.aload_n 0, 1) := by decide +kernel
theorem dL_law_700 : decode cL_law 700 = .ok (.iload 4, 2) := by decide +kernel
theorem dL_law_702 : decode cL_law 702 = .ok (.iconst 2, 1) := by decide +kernel
theorem dL_law_703 : decode cL_law 703 = .ok (.iadd, 1) := by decide +kernel
theorem dL_law_704 : decode cL_law 704 = .ok (.iaload, 1) := by decide +kernel
theorem dL_law_705 : decode cL_law 705 = .ok (.i2d, 1) := by decide +kernel
theorem dL_law_706 : decode cL_law 706 = .ok (.ldc2_w 126, 3) := by decide +kernel
theorem dL_law_709 : decode cL_law 709 = .ok (.dmul, 1) := by decide +kernel
theorem dL_law_710 : decode cL_law 710 = .ok (.invokevirtual 131, 3) := by decide +kernel
theorem dL_law_713 : decode cL_law 713 = .ok (.istore 6, 2) := by decide +kernel
theorem dL_law_715 : decode cL_law 715 = .ok (.aload_n 2, 1) := by decide +kernel
theorem dL_law_716 : decode cL_law 716 = .ok (.invokevirtual 102, 3) := by decide +kernel
theorem dL_law_719 : decode cL_law 719 = .ok (.iload 5, 2) := by decide +kernel
theorem dL_law_721 : decode cL_law 721 = .ok (.if_icmp .eq 5, 3) := by decide +kernel
theorem dL_law_724 : decode cL_law 724 = .ok (.iconst 0, 1) := by decide +kernel
theorem dL_law_725 : decode cL_law 725 = .ok (.ireturn, 1) := by decide +kernel
theorem dL_law_726 : decode cL_law 726 = .ok (.iload 5, 2) := by decide +kernel
theorem dL_law_728 : decode cL_law 728 = .ok (.ifCond .ne 15, 3) := by decide +kernel
theorem dL_law_731 : decode cL_law 731 = .ok (.aload_n 3, 1) := by decide +kernel
theorem dL_law_732 : decode cL_law 732 = .ok (.iconst 0, 1) := by decide +kernel
theorem dL_law_733 : decode cL_law 733 = .ok (.laload, 1) := by decide +kernel
theorem dL_law_734 : decode cL_law 734 = .ok (.iload 6, 2) := by decide +kernel
theorem dL_law_736 : decode cL_law 736 = .ok (.i2l, 1) := by decide +kernel
theorem dL_law_737 : decode cL_law 737 = .ok (.lcmp, 1) := by decide +kernel
theorem dL_law_738 : decode cL_law 738 = .ok (.ifCond .eq 5, 3) := by decide +kernel
theorem dL_law_741 : decode cL_law 741 = .ok (.iconst 0, 1) := by decide +kernel
theorem dL_law_742 : decode cL_law 742 = .ok (.ireturn, 1) := by decide +kernel
theorem dL_law_743 : decode cL_law 743 = .ok (.goto 1000, 3) := by decide +kernel
theorem dL_law_746 : decode cL_law 746 = .ok (.aload_n 1, 1) := by decide +kernel
theorem dL_law_747 : decode cL_law 747 = .ok (.invokevirtual 132, 3) := by decide +kernel
theorem dL_law_750 : decode cL_law 750 = .ok (.aload_n 2, 1) := by decide +kernel
theorem dL_law_751 : decode cL_law 751 = .ok (.invokevirtual 135, 3) := by decide +kernel
theorem dL_law_754 : decode cL_law 754 = .ok (.if_icmp .eq 989, 3) := by decide +kernel
theorem dL_law_757 : decode cL_law 757 = .ok (.iconst 0, 1) := by decide +kernel
theorem dL_law_758 : decode cL_law 758 = .ok (.ireturn, 1) := by decide +kernel
theorem dL_law_759 : decode cL_law 759 = .ok (.aload_n 1, 1) := by decide +kernel
theorem dL_law_760 : decode cL_law 760 = .ok (.invokevirtual 136, 3) := by decide +kernel
theorem dL_law_763 : decode cL_law 763 = .ok (.aload_n 2, 1) := by decide +kernel
theorem dL_law_764 : decode cL_law 764 = .ok (.invokevirtual 139, 3) := by decide +kernel
theorem dL_law_767 : decode cL_law 767 = .ok (.if_icmp .eq 976, 3) := by decide +kernel
theorem dL_law_770 : decode cL_law 770 = .ok (.iconst 0, 1) := by decide +kernel
theorem dL_law_771 : decode cL_law 771 = .ok (.ireturn, 1) := by decide +kernel
theorem dL_law_772 : decode cL_law 772 = .ok (.aload_n 1, 1) := by decide +kernel
theorem dL_law_773 : decode cL_law 773 = .ok (.aload_n 0, 1) := by decide +kernel
theorem dL_law_774 : decode cL_law 774 = .ok (.iload 4, 2) := by decide +kernel
theorem dL_law_776 : decode cL_law 776 = .ok (.iconst 1, 1) := by decide +kernel
theorem dL_law_777 : decode cL_law 777 = .ok (.iadd, 1) := by decide +kernel
theorem dL_law_778 : decode cL_law 778 = .ok (.iaload, 1) := by decide +kernel
theorem dL_law_779 : decode cL_law 779 = .ok (.aload_n 0, 1) := by decide +kernel
theorem dL_law_780 : decode cL_law 780 = .ok (.iload 4, 2) := by decide +kernel
theorem dL_law_782 : decode cL_law 782 = .ok (.iconst 2, 1) := by decide +kernel
theorem dL_law_783 : decode cL_law 783 = .ok (.iadd, 1) := by decide +kernel
theorem dL_law_784 : decode cL_law 784 = .ok (.iaload, 1) := by decide +kernel
theorem dL_law_785 : decode cL_law 785 = .ok (.aload_n 3, 1) := by decide +kernel
theorem dL_law_786 : decode cL_law 786 = .ok (.invokestatic 140, 3) := by decide +kernel
theorem dL_law_789 : decode cL_law 789 = .ok (.istore 5, 2) := by decide +kernel
theorem dL_law_791 : decode cL_law 791 = .ok (.aload_n 2, 1) := by decide +kernel
theorem dL_law_792 : decode cL_law 792 = .ok (.aload_n 0, 1) := by decide +kernel
theorem dL_law_793 : decode cL_law 793 = .ok (.iload 4, 2) := by decide +kernel
theorem dL_law_795 : decode cL_law 795 = .ok (.iconst 1, 1) := by decide +kernel
theorem dL_law_796 : decode cL_law 796 = .ok (.iadd, 1) := by decide +kernel
theorem dL_law_797 : decode cL_law 797 = .ok (.iaload, 1) := by decide +kernel
theorem dL_law_798 : decode cL_law 798 = .ok (.aload_n 0, 1) := by decide +kernel
theorem dL_law_799 : decode cL_law 799 = .ok (.iload 4, 2) := by decide +kernel
theorem dL_law_801 : decode cL_law 801 = .ok (.iconst 2, 1) := by decide +kernel
theorem dL_law_802 : decode cL_law 802 = .ok (.iadd, 1) := by decide +kernel
theorem dL_law_803 : decode cL_law 803 = .ok (.iaload, 1) := by decide +kernel
theorem dL_law_804 : decode cL_law 804 = .ok (.invokevirtual 142, 3) := by decide +kernel
theorem dL_law_807 : decode cL_law 807 = .ok (.istore 6, 2) := by decide +kernel
theorem dL_law_809 : decode cL_law 809 = .ok (.aload_n 2, 1) := by decide +kernel
theorem dL_law_810 : decode cL_law 810 = .ok (.invokevirtual 102, 3) := by decide +kernel
theorem dL_law_813 : decode cL_law 813 = .ok (.iload 5, 2) := by decide +kernel
theorem dL_law_815 : decode cL_law 815 = .ok (.if_icmp .eq 5, 3) := by decide +kernel
theorem dL_law_818 : decode cL_law 818 = .ok (.iconst 0, 1) := by decide +kernel
theorem dL_law_819 : decode cL_law 819 = .ok (.ireturn, 1) := by decide +kernel
theorem dL_law_820 : decode cL_law 820 = .ok (.iload 5, 2) := by decide +kernel
theorem dL_law_822 : decode cL_law 822 = .ok (.ifCond .ne 22, 3) := by decide +kernel
theorem dL_law_825 : decode cL_law 825 = .ok (.aload_n 3, 1) := by decide +kernel
theorem dL_law_826 : decode cL_law 826 = .ok (.iconst 0, 1) := by decide +kernel
theorem dL_law_827 : decode cL_law 827 = .ok (.laload, 1) := by decide +kernel
theorem dL_law_828 : decode cL_law 828 = .ok (.iload 6, 2) := by decide +kernel
theorem dL_law_830 : decode cL_law 830 = .ok (.ifCond .eq 7, 3) := by decide +kernel
theorem dL_law_833 : decode cL_law 833 = .ok (.lconst 1, 1) := by decide +kernel
theorem dL_law_834 : decode cL_law 834 = .ok (.goto 4, 3) := by decide +kernel
theorem dL_law_837 : decode cL_law 837 = .ok (.lconst 0, 1) := by decide +kernel
theorem dL_law_838 : decode cL_law 838 = .ok (.lcmp, 1) := by decide +kernel
theorem dL_law_839 : decode cL_law 839 = .ok (.ifCond .eq 5, 3) := by decide +kernel
theorem dL_law_842 : decode cL_law 842 = .ok (.iconst 0, 1) := by decide +kernel
theorem dL_law_843 : decode cL_law 843 = .ok (.ireturn, 1) := by decide +kernel
theorem dL_law_844 : decode cL_law 844 = .ok (.goto 899, 3) := by decide +kernel
theorem dL_law_847 : decode cL_law 847 = .ok (.aload_n 1, 1) := by decide +kernel
theorem dL_law_848 : decode cL_law 848 = .ok (.aload_n 0, 1) := by decide +kernel
theorem dL_law_849 : decode cL_law 849 = .ok (.iload 4, 2) := by decide +kernel
theorem dL_law_851 : decode cL_law 851 = .ok (.iconst 1, 1) := by decide +kernel
theorem dL_law_852 : decode cL_law 852 = .ok (.iadd, 1) := by decide +kernel
theorem dL_law_853 : decode cL_law 853 = .ok (.iaload, 1) := by decide +kernel
theorem dL_law_854 : decode cL_law 854 = .ok (.aload_n 0, 1) := by decide +kernel
theorem dL_law_855 : decode cL_law 855 = .ok (.iload 4, 2) := by decide +kernel
theorem dL_law_857 : decode cL_law 857 = .ok (.iconst 2, 1) := by decide +kernel
theorem dL_law_858 : decode cL_law 858 = .ok (.iadd, 1) := by decide +kernel
theorem dL_law_859 : decode cL_law 859 = .ok (.iaload, 1) := by decide +kernel
theorem dL_law_860 : decode cL_law 860 = .ok (.aload_n 3, 1) := by decide +kernel
theorem dL_law_861 : decode cL_law 861 = .ok (.invokestatic 143, 3) := by decide +kernel
theorem dL_law_864 : decode cL_law 864 = .ok (.istore 5, 2) := by decide +kernel
theorem dL_law_866 : decode cL_law 866 = .ok (.aload_n 2, 1) := by decide +kernel
theorem dL_law_867 : decode cL_law 867 = .ok (.aload_n 0, 1) := by decide +kernel
theorem dL_law_868 : decode cL_law 868 = .ok (.iload 4, 2) := by decide +kernel
theorem dL_law_870 : decode cL_law 870 = .ok (.iconst 1, 1) := by decide +kernel
theorem dL_law_871 : decode cL_law 871 = .ok (.iadd, 1) := by decide +kernel
theorem dL_law_872 : decode cL_law 872 = .ok (.iaload, 1) := by decide +kernel
theorem dL_law_873 : decode cL_law 873 = .ok (.aload_n 0, 1) := by decide +kernel
theorem dL_law_874 : decode cL_law 874 = .ok (.iload 4, 2) := by decide +kernel
theorem dL_law_876 : decode cL_law 876 = .ok (.iconst 2, 1) := by decide +kernel
theorem dL_law_877 : decode cL_law 877 = .ok (.iadd, 1) := by decide +kernel
theorem dL_law_878 : decode cL_law 878 = .ok (.iaload, 1) := by decide +kernel
theorem dL_law_879 : decode cL_law 879 = .ok (.invokevirtual 145, 3) := by decide +kernel
theorem dL_law_882 : decode cL_law 882 = .ok (.istore 6, 2) := by decide +kernel
theorem dL_law_884 : decode cL_law 884 = .ok (.aload_n 2, 1) := by decide +kernel
theorem dL_law_885 : decode cL_law 885 = .ok (.invokevirtual 102, 3) := by decide +kernel
theorem dL_law_888 : decode cL_law 888 = .ok (.iload 5, 2) := by decide +kernel
theorem dL_law_890 : decode cL_law 890 = .ok (.if_icmp .eq 5, 3) := by decide +kernel
theorem dL_law_893 : decode cL_law 893 = .ok (.iconst 0, 1) := by decide +kernel
theorem dL_law_894 : decode cL_law 894 = .ok (.ireturn, 1) := by decide +kernel
theorem dL_law_895 : decode cL_law 895 = .ok (.iload 5, 2) := by decide +kernel
theorem dL_law_897 : decode cL_law 897 = .ok (.ifCond .ne 15, 3) := by decide +kernel
theorem dL_law_900 : decode cL_law 900 = .ok (.aload_n 3, 1) := by decide +kernel
theorem dL_law_901 : decode cL_law 901 = .ok (.iconst 0, 1) := by decide +kernel
theorem dL_law_902 : decode cL_law 902 = .ok (.laload, 1) := by decide +kernel
theorem dL_law_903 : decode cL_law 903 = .ok (.iload 6, 2) := by decide +kernel
theorem dL_law_905 : decode cL_law 905 = .ok (.i2l, 1) := by decide +kernel
theorem dL_law_906 : decode cL_law 906 = .ok (.lcmp, 1) := by decide +kernel
theorem dL_law_907 : decode cL_law 907 = .ok (.ifCond .eq 5, 3) := by decide +kernel
theorem dL_law_910 : decode cL_law 910 = .ok (.iconst 0, 1) := by decide +kernel
theorem dL_law_911 : decode cL_law 911 = .ok (.ireturn, 1) := by decide +kernel
theorem dL_law_912 : decode cL_law 912 = .ok (.goto 831, 3) := by decide +kernel
theorem dL_law_915 : decode cL_law 915 = .ok (.aload_n 1, 1) := by decide +kernel
theorem dL_law_916 : decode cL_law 916 = .ok (.invokevirtual 146, 3) := by decide +kernel
theorem dL_law_919 : decode cL_law 919 = .ok (.aload_n 2, 1) := by decide +kernel
theorem dL_law_920 : decode cL_law 920 = .ok (.invokevirtual 149, 3) := by decide +kernel
theorem dL_law_923 : decode cL_law 923 = .ok (.if_icmp .eq 820, 3) := by decide +kernel
theorem dL_law_926 : decode cL_law 926 = .ok (.iconst 0, 1) := by decide +kernel
theorem dL_law_927 : decode cL_law 927 = .ok (.ireturn, 1) := by decide +kernel
theorem dL_law_928 : decode cL_law 928 = .ok (.aload_n 1, 1) := by decide +kernel
theorem dL_law_929 : decode cL_law 929 = .ok (.invokevirtual 150, 3) := by decide +kernel
theorem dL_law_932 : decode cL_law 932 = .ok (.aload_n 2, 1) := by decide +kernel
theorem dL_law_933 : decode cL_law 933 = .ok (.invokevirtual 153, 3) := by decide +kernel
theorem dL_law_936 : decode cL_law 936 = .ok (.if_icmp .eq 807, 3) := by decide +kernel
theorem dL_law_939 : decode cL_law 939 = .ok (.iconst 0, 1) := by decide +kernel
theorem dL_law_940 : decode cL_law 940 = .ok (.ireturn, 1) := by decide +kernel
theorem dL_law_941 : decode cL_law 941 = .ok (.aload_n 1, 1) := by decide +kernel
theorem dL_law_942 : decode cL_law 942 = .ok (.invokevirtual 154, 3) := by decide +kernel
theorem dL_law_945 : decode cL_law 945 = .ok (.dstore 5, 2) := by decide +kernel
theorem dL_law_947 : decode cL_law 947 = .ok (.aload_n 2, 1) := by decide +kernel
theorem dL_law_948 : decode cL_law 948 = .ok (.invokevirtual 158, 3) := by decide +kernel
theorem dL_law_951 : decode cL_law 951 = .ok (.dstore 7, 2) := by decide +kernel
theorem dL_law_953 : decode cL_law 953 = .ok (.dload 5, 2) := by decide +kernel
theorem dL_law_955 : decode cL_law 955 = .ok (.dload 7, 2) := by decide +kernel
theorem dL_law_957 : decode cL_law 957 = .ok (.dcmp .l, 1) := by decide +kernel
theorem dL_law_958 : decode cL_law 958 = .ok (.ifCond .eq 21, 3) := by decide +kernel
theorem dL_law_961 : decode cL_law 961 = .ok (.dload 5, 2) := by decide +kernel
theorem dL_law_963 : decode cL_law 963 = .ok (.dload 5, 2) := by decide +kernel
theorem dL_law_965 : decode cL_law 965 = .ok (.dcmp .l, 1) := by decide +kernel
theorem dL_law_966 : decode cL_law 966 = .ok (.ifCond .eq 11, 3) := by decide +kernel
theorem dL_law_969 : decode cL_law 969 = .ok (.dload 7, 2) := by decide +kernel
theorem dL_law_971 : decode cL_law 971 = .ok (.dload 7, 2) := by decide +kernel
theorem dL_law_973 : decode cL_law 973 = .ok (.dcmp .l, 1) := by decide +kernel
theorem dL_law_974 : decode cL_law 974 = .ok (.ifCond .ne 5, 3) := by decide +kernel
theorem dL_law_977 : decode cL_law 977 = .ok (.iconst 0, 1) := by decide +kernel
theorem dL_law_978 : decode cL_law 978 = .ok (.ireturn, 1) := by decide +kernel
theorem dL_law_979 : decode cL_law 979 = .ok (.goto 764, 3) := by decide +kernel
theorem dL_law_982 : decode cL_law 982 = .ok (.aload_n 1, 1) := by decide +kernel
theorem dL_law_983 : decode cL_law 983 = .ok (.aload_n 0, 1) := by decide +kernel
theorem dL_law_984 : decode cL_law 984 = .ok (.iload 4, 2) := by decide +kernel
theorem dL_law_986 : decode cL_law 986 = .ok (.iconst 1, 1) := by decide +kernel
theorem dL_law_987 : decode cL_law 987 = .ok (.iadd, 1) := by decide +kernel
theorem dL_law_988 : decode cL_law 988 = .ok (.iaload, 1) := by decide +kernel
theorem dL_law_989 : decode cL_law 989 = .ok (.aload_n 3, 1) := by decide +kernel
theorem dL_law_990 : decode cL_law 990 = .ok (.invokestatic 159, 3) := by decide +kernel
theorem dL_law_993 : decode cL_law 993 = .ok (.istore 5, 2) := by decide +kernel
theorem dL_law_995 : decode cL_law 995 = .ok (.aload_n 2, 1) := by decide +kernel
theorem dL_law_996 : decode cL_law 996 = .ok (.aload_n 0, 1) := by decide +kernel
theorem dL_law_997 : decode cL_law 997 = .ok (.iload 4, 2) := by decide +kernel
theorem dL_law_999 : decode cL_law 999 = .ok (.iconst 1, 1) := by decide +kernel
theorem dL_law_1000 : decode cL_law 1000 = .ok (.iadd, 1) := by decide +kernel
theorem dL_law_1001 : decode cL_law 1001 = .ok (.iaload, 1) := by decide +kernel
theorem dL_law_1002 : decode cL_law 1002 = .ok (.invokevirtual 162, 3) := by decide +kernel
theorem dL_law_1005 : decode cL_law 1005 = .ok (.istore 6, 2) := by decide +kernel
theorem dL_law_1007 : decode cL_law 1007 = .ok (.aload_n 2, 1) := by decide +kernel
theorem dL_law_1008 : decode cL_law 1008 = .ok (.invokevirtual 102, 3) := by decide +kernel
theorem dL_law_1011 : decode cL_law 1011 = .ok (.iload 5, 2) := by decide +kernel
theorem dL_law_1013 : decode cL_law 1013 = .ok (.if_icmp .eq 5, 3) := by decide +kernel
theorem dL_law_1016 : decode cL_law 1016 = .ok (.iconst 0, 1) := by decide +kernel
theorem dL_law_1017 : decode cL_law 1017 = .ok (.ireturn, 1) := by decide +kernel
theorem dL_law_1018 : decode cL_law 1018 = .ok (.iload 5, 2) := by decide +kernel
theorem dL_law_1020 : decode cL_law 1020 = .ok (.ifCond .ne 15, 3) := by decide +kernel
theorem dL_law_1023 : decode cL_law 1023 = .ok (.aload_n 3, 1) := by decide +kernel
theorem dL_law_1024 : decode cL_law 1024 = .ok (.iconst 0, 1) := by decide +kernel
theorem dL_law_1025 : decode cL_law 1025 = .ok (.laload, 1) := by decide +kernel
theorem dL_law_1026 : decode cL_law 1026 = .ok (.iload 6, 2) := by decide +kernel
theorem dL_law_1028 : decode cL_law 1028 = .ok (.i2l, 1) := by decide +kernel
theorem dL_law_1029 : decode cL_law 1029 = .ok (.lcmp, 1) := by decide +kernel
theorem dL_law_1030 : decode cL_law 1030 = .ok (.ifCond .eq 5, 3) := by decide +kernel
theorem dL_law_1033 : decode cL_law 1033 = .ok (.iconst 0, 1) := by decide +kernel
theorem dL_law_1034 : decode cL_law 1034 = .ok (.ireturn, 1) := by decide +kernel
theorem dL_law_1035 : decode cL_law 1035 = .ok (.goto 708, 3) := by decide +kernel
theorem dL_law_1038 : decode cL_law 1038 = .ok (.aload_n 1, 1) := by decide +kernel
theorem dL_law_1039 : decode cL_law 1039 = .ok (.aload_n 0, 1) := by decide +kernel
theorem dL_law_1040 : decode cL_law 1040 = .ok (.iload 4, 2) := by decide +kernel
theorem dL_law_1042 : decode cL_law 1042 = .ok (.iconst 1, 1) := by decide +kernel
theorem dL_law_1043 : decode cL_law 1043 = .ok (.iadd, 1) := by decide +kernel
theorem dL_law_1044 : decode cL_law 1044 = .ok (.iaload, 1) := by decide +kernel
theorem dL_law_1045 : decode cL_law 1045 = .ok (.aload_n 3, 1) := by decide +kernel
theorem dL_law_1046 : decode cL_law 1046 = .ok (.invokestatic 163, 3) := by decide +kernel
theorem dL_law_1049 : decode cL_law 1049 = .ok (.istore 5, 2) := by decide +kernel
theorem dL_law_1051 : decode cL_law 1051 = .ok (.aload_n 2, 1) := by decide +kernel
theorem dL_law_1052 : decode cL_law 1052 = .ok (.aload_n 0, 1) := by decide +kernel
theorem dL_law_1053 : decode cL_law 1053 = .ok (.iload 4, 2) := by decide +kernel
theorem dL_law_1055 : decode cL_law 1055 = .ok (.iconst 1, 1) := by decide +kernel
theorem dL_law_1056 : decode cL_law 1056 = .ok (.iadd, 1) := by decide +kernel
theorem dL_law_1057 : decode cL_law 1057 = .ok (.iaload, 1) := by decide +kernel
theorem dL_law_1058 : decode cL_law 1058 = .ok (.invokevirtual 165, 3) := by decide +kernel
theorem dL_law_1061 : decode cL_law 1061 = .ok (.istore 6, 2) := by decide +kernel
theorem dL_law_1063 : decode cL_law 1063 = .ok (.aload_n 2, 1) := by decide +kernel
theorem dL_law_1064 : decode cL_law 1064 = .ok (.invokevirtual 102, 3) := by decide +kernel
theorem dL_law_1067 : decode cL_law 1067 = .ok (.iload 5, 2) := by decide +kernel
theorem dL_law_1069 : decode cL_law 1069 = .ok (.if_icmp .eq 5, 3) := by decide +kernel
theorem dL_law_1072 : decode cL_law 1072 = .ok (.iconst 0, 1) := by decide +kernel
theorem dL_law_1073 : decode cL_law 1073 = .ok (.ireturn, 1) := by decide +kernel
theorem dL_law_1074 : decode cL_law 1074 = .ok (.iload 5, 2) := by decide +kernel
theorem dL_law_1076 : decode cL_law 1076 = .ok (.ifCond .ne 15, 3) := by decide +kernel
theorem dL_law_1079 : decode cL_law 1079 = .ok (.aload_n 3, 1) := by decide +kernel
theorem dL_law_1080 : decode cL_law 1080 = .ok (.iconst 0, 1) := by decide +kernel
theorem dL_law_1081 : decode cL_law 1081 = .ok (.laload, 1) := by decide +kernel
theorem dL_law_1082 : decode cL_law 1082 = .ok (.iload 6, 2) := by decide +kernel
theorem dL_law_1084 : decode cL_law 1084 = .ok (.i2l, 1) := by decide +kernel
theorem dL_law_1085 : decode cL_law 1085 = .ok (.lcmp, 1) := by decide +kernel
theorem dL_law_1086 : decode cL_law 1086 = .ok (.ifCond .eq 5, 3) := by decide +kernel
theorem dL_law_1089 : decode cL_law 1089 = .ok (.iconst 0, 1) := by decide +kernel
theorem dL_law_1090 : decode cL_law 1090 = .ok (.ireturn, 1) := by decide +kernel
theorem dL_law_1091 : decode cL_law 1091 = .ok (.goto 652, 3) := by decide +kernel
theorem dL_law_1094 : decode cL_law 1094 = .ok (.aload_n 1, 1) := by decide +kernel
theorem dL_law_1095 : decode cL_law 1095 = .ok (.invokevirtual 166, 3) := by decide +kernel
theorem dL_law_1098 : decode cL_law 1098 = .ok (.aload_n 2, 1) := by decide +kernel
theorem dL_law_1099 : decode cL_law 1099 = .ok (.invokevirtual 169, 3) := by decide +kernel
theorem dL_law_1102 : decode cL_law 1102 = .ok (.if_icmp .eq 641, 3) := by decide +kernel
theorem dL_law_1105 : decode cL_law 1105 = .ok (.iconst 0, 1) := by decide +kernel
theorem dL_law_1106 : decode cL_law 1106 = .ok (.ireturn, 1) := by decide +kernel
theorem dL_law_1107 : decode cL_law 1107 = .ok (.aload_n 1, 1) := by decide +kernel
theorem dL_law_1108 : decode cL_law 1108 = .ok (.aload_n 0, 1) := by decide +kernel
theorem dL_law_1109 : decode cL_law 1109 = .ok (.iload 4, 2) := by decide +kernel
theorem dL_law_1111 : decode cL_law 1111 = .ok (.iconst 1, 1) := by decide +kernel
theorem dL_law_1112 : decode cL_law 1112 = .ok (.iadd, 1) := by decide +kernel
theorem dL_law_1113 : decode cL_law 1113 = .ok (.iaload, 1) := by decide +kernel
theorem dL_law_1114 : decode cL_law 1114 = .ok (.aload_n 0, 1) := by decide +kernel
theorem dL_law_1115 : decode cL_law 1115 = .ok (.iload 4, 2) := by decide +kernel
theorem dL_law_1117 : decode cL_law 1117 = .ok (.iconst 2, 1) := by decide +kernel
theorem dL_law_1118 : decode cL_law 1118 = .ok (.iadd, 1) := by decide +kernel
theorem dL_law_1119 : decode cL_law 1119 = .ok (.iaload, 1) := by decide +kernel
theorem dL_law_1120 : decode cL_law 1120 = .ok (.aload_n 3, 1) := by decide +kernel
theorem dL_law_1121 : decode cL_law 1121 = .ok (.invokestatic 170, 3) := by decide +kernel
theorem dL_law_1124 : decode cL_law 1124 = .ok (.istore 5, 2) := by decide +kernel
theorem dL_law_1126 : decode cL_law 1126 = .ok (.aload_n 2, 1) := by decide +kernel
theorem dL_law_1127 : decode cL_law 1127 = .ok (.aload_n 0, 1) := by decide +kernel
theorem dL_law_1128 : decode cL_law 1128 = .ok (.iload 4, 2) := by decide +kernel
theorem dL_law_1130 : decode cL_law 1130 = .ok (.iconst 1, 1) := by decide +kernel
theorem dL_law_1131 : decode cL_law 1131 = .ok (.iadd, 1) := by decide +kernel
theorem dL_law_1132 : decode cL_law 1132 = .ok (.iaload, 1) := by decide +kernel
theorem dL_law_1133 : decode cL_law 1133 = .ok (.aload_n 0, 1) := by decide +kernel
theorem dL_law_1134 : decode cL_law 1134 = .ok (.iload 4, 2) := by decide +kernel
theorem dL_law_1136 : decode cL_law 1136 = .ok (.iconst 2, 1) := by decide +kernel
theorem dL_law_1137 : decode cL_law 1137 = .ok (.iadd, 1) := by decide +kernel
theorem dL_law_1138 : decode cL_law 1138 = .ok (.iaload, 1) := by decide +kernel
theorem dL_law_1139 : decode cL_law 1139 = .ok (.invokevirtual 172, 3) := by decide +kernel
theorem dL_law_1142 : decode cL_law 1142 = .ok (.istore 6, 2) := by decide +kernel
theorem dL_law_1144 : decode cL_law 1144 = .ok (.aload_n 2, 1) := by decide +kernel
theorem dL_law_1145 : decode cL_law 1145 = .ok (.invokevirtual 102, 3) := by decide +kernel
theorem dL_law_1148 : decode cL_law 1148 = .ok (.iload 5, 2) := by decide +kernel
theorem dL_law_1150 : decode cL_law 1150 = .ok (.if_icmp .eq 5, 3) := by decide +kernel
theorem dL_law_1153 : decode cL_law 1153 = .ok (.iconst 0, 1) := by decide +kernel
theorem dL_law_1154 : decode cL_law 1154 = .ok (.ireturn, 1) := by decide +kernel
theorem dL_law_1155 : decode cL_law 1155 = .ok (.iload 5, 2) := by decide +kernel
theorem dL_law_1157 : decode cL_law 1157 = .ok (.ifCond .ne 22, 3) := by decide +kernel
theorem dL_law_1160 : decode cL_law 1160 = .ok (.aload_n 3, 1) := by decide +kernel
theorem dL_law_1161 : decode cL_law 1161 = .ok (.iconst 0, 1) := by decide +kernel
theorem dL_law_1162 : decode cL_law 1162 = .ok (.laload, 1) := by decide +kernel
theorem dL_law_1163 : decode cL_law 1163 = .ok (.iload 6, 2) := by decide +kernel
theorem dL_law_1165 : decode cL_law 1165 = .ok (.ifCond .eq 7, 3) := by decide +kernel
theorem dL_law_1168 : decode cL_law 1168 = .ok (.lconst 1, 1) := by decide +kernel
theorem dL_law_1169 : decode cL_law 1169 = .ok (.goto 4, 3) := by decide +kernel
theorem dL_law_1172 : decode cL_law 1172 = .ok (.lconst 0, 1) := by decide +kernel
theorem dL_law_1173 : decode cL_law 1173 = .ok (.lcmp, 1) := by decide +kernel
theorem dL_law_1174 : decode cL_law 1174 = .ok (.ifCond .eq 5, 3) := by decide +kernel
theorem dL_law_1177 : decode cL_law 1177 = .ok (.iconst 0, 1) := by decide +kernel
theorem dL_law_1178 : decode cL_law 1178 = .ok (.ireturn, 1) := by decide +kernel
theorem dL_law_1179 : decode cL_law 1179 = .ok (.goto 564, 3) := by decide +kernel
theorem dL_law_1182 : decode cL_law 1182 = .ok (.aload_n 1, 1) := by decide +kernel
theorem dL_law_1183 : decode cL_law 1183 = .ok (.aload_n 0, 1) := by decide +kernel
theorem dL_law_1184 : decode cL_law 1184 = .ok (.iload 4, 2) := by decide +kernel
theorem dL_law_1186 : decode cL_law 1186 = .ok (.iconst 1, 1) := by decide +kernel
theorem dL_law_1187 : decode cL_law 1187 = .ok (.iadd, 1) := by decide +kernel
theorem dL_law_1188 : decode cL_law 1188 = .ok (.iaload, 1) := by decide +kernel
theorem dL_law_1189 : decode cL_law 1189 = .ok (.aload_n 0, 1) := by decide +kernel
theorem dL_law_1190 : decode cL_law 1190 = .ok (.iload 4, 2) := by decide +kernel
theorem dL_law_1192 : decode cL_law 1192 = .ok (.iconst 2, 1) := by decide +kernel
theorem dL_law_1193 : decode cL_law 1193 = .ok (.iadd, 1) := by decide +kernel
theorem dL_law_1194 : decode cL_law 1194 = .ok (.iaload, 1) := by decide +kernel
theorem dL_law_1195 : decode cL_law 1195 = .ok (.aload_n 3, 1) := by decide +kernel
theorem dL_law_1196 : decode cL_law 1196 = .ok (.invokestatic 173, 3) := by decide +kernel
theorem dL_law_1199 : decode cL_law 1199 = .ok (.istore 5, 2) := by decide +kernel
theorem dL_law_1201 : decode cL_law 1201 = .ok (.aload_n 2, 1) := by decide +kernel
theorem dL_law_1202 : decode cL_law 1202 = .ok (.aload_n 0, 1) := by decide +kernel
theorem dL_law_1203 : decode cL_law 1203 = .ok (.iload 4, 2) := by decide +kernel
theorem dL_law_1205 : decode cL_law 1205 = .ok (.iconst 1, 1) := by decide +kernel
theorem dL_law_1206 : decode cL_law 1206 = .ok (.iadd, 1) := by decide +kernel
theorem dL_law_1207 : decode cL_law 1207 = .ok (.iaload, 1) := by decide +kernel
theorem dL_law_1208 : decode cL_law 1208 = .ok (.aload_n 0, 1) := by decide +kernel
theorem dL_law_1209 : decode cL_law 1209 = .ok (.iload 4, 2) := by decide +kernel
theorem dL_law_1211 : decode cL_law 1211 = .ok (.iconst 2, 1) := by decide +kernel
theorem dL_law_1212 : decode cL_law 1212 = .ok (.iadd, 1) := by decide +kernel
theorem dL_law_1213 : decode cL_law 1213 = .ok (.iaload, 1) := by decide +kernel
theorem dL_law_1214 : decode cL_law 1214 = .ok (.invokevirtual 175, 3) := by decide +kernel
theorem dL_law_1217 : decode cL_law 1217 = .ok (.istore 6, 2) := by decide +kernel
theorem dL_law_1219 : decode cL_law 1219 = .ok (.aload_n 2, 1) := by decide +kernel
theorem dL_law_1220 : decode cL_law 1220 = .ok (.invokevirtual 102, 3) := by decide +kernel
theorem dL_law_1223 : decode cL_law 1223 = .ok (.iload 5, 2) := by decide +kernel
theorem dL_law_1225 : decode cL_law 1225 = .ok (.if_icmp .eq 5, 3) := by decide +kernel
theorem dL_law_1228 : decode cL_law 1228 = .ok (.iconst 0, 1) := by decide +kernel
theorem dL_law_1229 : decode cL_law 1229 = .ok (.ireturn, 1) := by decide +kernel
theorem dL_law_1230 : decode cL_law 1230 = .ok (.iload 5, 2) := by decide +kernel
theorem dL_law_1232 : decode cL_law 1232 = .ok (.ifCond .ne 22, 3) := by decide +kernel
theorem dL_law_1235 : decode cL_law 1235 = .ok (.aload_n 3, 1) := by decide +kernel
theorem dL_law_1236 : decode cL_law 1236 = .ok (.iconst 0, 1) := by decide +kernel
theorem dL_law_1237 : decode cL_law 1237 = .ok (.laload, 1) := by decide +kernel
theorem dL_law_1238 : decode cL_law 1238 = .ok (.iload 6, 2) := by decide +kernel
theorem dL_law_1240 : decode cL_law 1240 = .ok (.ifCond .eq 7, 3) := by decide +kernel
theorem dL_law_1243 : decode cL_law 1243 = .ok (.lconst 1, 1) := by decide +kernel
theorem dL_law_1244 : decode cL_law 1244 = .ok (.goto 4, 3) := by decide +kernel
theorem dL_law_1247 : decode cL_law 1247 = .ok (.lconst 0, 1) := by decide +kernel
theorem dL_law_1248 : decode cL_law 1248 = .ok (.lcmp, 1) := by decide +kernel
theorem dL_law_1249 : decode cL_law 1249 = .ok (.ifCond .eq 5, 3) := by decide +kernel
theorem dL_law_1252 : decode cL_law 1252 = .ok (.iconst 0, 1) := by decide +kernel
theorem dL_law_1253 : decode cL_law 1253 = .ok (.ireturn, 1) := by decide +kernel
theorem dL_law_1254 : decode cL_law 1254 = .ok (.goto 489, 3) := by decide +kernel
theorem dL_law_1257 : decode cL_law 1257 = .ok (.aload_n 1, 1) := by decide +kernel
theorem dL_law_1258 : decode cL_law 1258 = .ok (.aload_n 0, 1) := by decide +kernel
theorem dL_law_1259 : decode cL_law 1259 = .ok (.iload 4, 2) := by decide +kernel
theorem dL_law_1261 : decode cL_law 1261 = .ok (.iconst 1, 1) := by decide +kernel
theorem dL_law_1262 : decode cL_law 1262 = .ok (.iadd, 1) := by decide +kernel
theorem dL_law_1263 : decode cL_law 1263 = .ok (.iaload, 1) := by decide +kernel
theorem dL_law_1264 : decode cL_law 1264 = .ok (.aload_n 0, 1) := by decide +kernel
theorem dL_law_1265 : decode cL_law 1265 = .ok (.iload 4, 2) := by decide +kernel
theorem dL_law_1267 : decode cL_law 1267 = .ok (.iconst 2, 1) := by decide +kernel
theorem dL_law_1268 : decode cL_law 1268 = .ok (.iadd, 1) := by decide +kernel
theorem dL_law_1269 : decode cL_law 1269 = .ok (.iaload, 1) := by decide +kernel
theorem dL_law_1270 : decode cL_law 1270 = .ok (.aload_n 3, 1) := by decide +kernel
theorem dL_law_1271 : decode cL_law 1271 = .ok (.invokestatic 176, 3) := by decide +kernel
theorem dL_law_1274 : decode cL_law 1274 = .ok (.istore 5, 2) := by decide +kernel
theorem dL_law_1276 : decode cL_law 1276 = .ok (.aload_n 2, 1) := by decide +kernel
theorem dL_law_1277 : decode cL_law 1277 = .ok (.aload_n 0, 1) := by decide +kernel
theorem dL_law_1278 : decode cL_law 1278 = .ok (.iload 4, 2) := by decide +kernel
theorem dL_law_1280 : decode cL_law 1280 = .ok (.iconst 1, 1) := by decide +kernel
theorem dL_law_1281 : decode cL_law 1281 = .ok (.iadd, 1) := by decide +kernel
theorem dL_law_1282 : decode cL_law 1282 = .ok (.iaload, 1) := by decide +kernel
theorem dL_law_1283 : decode cL_law 1283 = .ok (.aload_n 0, 1) := by decide +kernel
theorem dL_law_1284 : decode cL_law 1284 = .ok (.iload 4, 2) := by decide +kernel
theorem dL_law_1286 : decode cL_law 1286 = .ok (.iconst 2, 1) := by decide +kernel
theorem dL_law_1287 : decode cL_law 1287 = .ok (.iadd, 1) := by decide +kernel
theorem dL_law_1288 : decode cL_law 1288 = .ok (.iaload, 1) := by decide +kernel
theorem dL_law_1289 : decode cL_law 1289 = .ok (.invokevirtual 178, 3) := by decide +kernel
theorem dL_law_1292 : decode cL_law 1292 = .ok (.istore 6, 2) := by decide +kernel
theorem dL_law_1294 : decode cL_law 1294 = .ok (.aload_n 2, 1) := by decide +kernel
theorem dL_law_1295 : decode cL_law 1295 = .ok (.invokevirtual 102, 3) := by decide +kernel
theorem dL_law_1298 : decode cL_law 1298 = .ok (.iload 5, 2) := by decide +kernel
theorem dL_law_1300 : decode cL_law 1300 = .ok (.if_icmp .eq 5, 3) := by decide +kernel
theorem dL_law_1303 : decode cL_law 1303 = .ok (.iconst 0, 1) := by decide +kernel
theorem dL_law_1304 : decode cL_law 1304 = .ok (.ireturn, 1) := by decide +kernel
theorem dL_law_1305 : decode cL_law 1305 = .ok (.iload 5, 2) := by decide +kernel
theorem dL_law_1307 : decode cL_law 1307 = .ok (.ifCond .ne 15, 3) := by decide +kernel
theorem dL_law_1310 : decode cL_law 1310 = .ok (.aload_n 3, 1) := by decide +kernel
theorem dL_law_1311 : decode cL_law 1311 = .ok (.iconst 0, 1) := by decide +kernel
theorem dL_law_1312 : decode cL_law 1312 = .ok (.laload, 1) := by decide +kernel
theorem dL_law_1313 : decode cL_law 1313 = .ok (.iload 6, 2) := by decide +kernel
theorem dL_law_1315 : decode cL_law 1315 = .ok (.i2l, 1) := by decide +kernel
theorem dL_law_1316 : decode cL_law 1316 = .ok (.lcmp, 1) := by decide +kernel
theorem dL_law_1317 : decode cL_law 1317 = .ok (.ifCond .eq 5, 3) := by decide +kernel
theorem dL_law_1320 : decode cL_law 1320 = .ok (.iconst 0, 1) := by decide +kernel
theorem dL_law_1321 : decode cL_law 1321 = .ok (.ireturn, 1) := by decide +kernel
theorem dL_law_1322 : decode cL_law 1322 = .ok (.goto 421, 3) := by decide +kernel
theorem dL_law_1325 : decode cL_law 1325 = .ok (.aload_n 1, 1) := by decide +kernel
theorem dL_law_1326 : decode cL_law 1326 = .ok (.aload_n 0, 1) := by decide +kernel
theorem dL_law_1327 : decode cL_law 1327 = .ok (.iload 4, 2) := by decide +kernel
theorem dL_law_1329 : decode cL_law 1329 = .ok (.iconst 1, 1) := by decide +kernel
theorem dL_law_1330 : decode cL_law 1330 = .ok (.iadd, 1) := by decide +kernel
theorem dL_law_1331 : decode cL_law 1331 = .ok (.iaload, 1) := by decide +kernel
theorem dL_law_1332 : decode cL_law 1332 = .ok (.aload_n 0, 1) := by decide +kernel
theorem dL_law_1333 : decode cL_law 1333 = .ok (.iload 4, 2) := by decide +kernel
theorem dL_law_1335 : decode cL_law 1335 = .ok (.iconst 2, 1) := by decide +kernel
theorem dL_law_1336 : decode cL_law 1336 = .ok (.iadd, 1) := by decide +kernel
theorem dL_law_1337 : decode cL_law 1337 = .ok (.iaload, 1) := by decide +kernel
theorem dL_law_1338 : decode cL_law 1338 = .ok (.aload_n 3, 1) := by decide +kernel
theorem dL_law_1339 : decode cL_law 1339 = .ok (.invokestatic 179, 3) := by decide +kernel
theorem dL_law_1342 : decode cL_law 1342 = .ok (.istore 5, 2) := by decide +kernel
theorem dL_law_1344 : decode cL_law 1344 = .ok (.aload_n 2, 1) := by decide +kernel
theorem dL_law_1345 : decode cL_law 1345 = .ok (.aload_n 0, 1) := by decide +kernel
theorem dL_law_1346 : decode cL_law 1346 = .ok (.iload 4, 2) := by decide +kernel
theorem dL_law_1348 : decode cL_law 1348 = .ok (.iconst 1, 1) := by decide +kernel
theorem dL_law_1349 : decode cL_law 1349 = .ok (.iadd, 1) := by decide +kernel
theorem dL_law_1350 : decode cL_law 1350 = .ok (.iaload, 1) := by decide +kernel
theorem dL_law_1351 : decode cL_law 1351 = .ok (.aload_n 0, 1) := by decide +kernel
theorem dL_law_1352 : decode cL_law 1352 = .ok (.iload 4, 2) := by decide +kernel
theorem dL_law_1354 : decode cL_law 1354 = .ok (.iconst 2, 1) := by decide +kernel
theorem dL_law_1355 : decode cL_law 1355 = .ok (.iadd, 1) := by decide +kernel
theorem dL_law_1356 : decode cL_law 1356 = .ok (.iaload, 1) := by decide +kernel
theorem dL_law_1357 : decode cL_law 1357 = .ok (.invokevirtual 181, 3) := by decide +kernel
theorem dL_law_1360 : decode cL_law 1360 = .ok (.istore 6, 2) := by decide +kernel
theorem dL_law_1362 : decode cL_law 1362 = .ok (.aload_n 2, 1) := by decide +kernel
theorem dL_law_1363 : decode cL_law 1363 = .ok (.invokevirtual 102, 3) := by decide +kernel
theorem dL_law_1366 : decode cL_law 1366 = .ok (.iload 5, 2) := by decide +kernel
theorem dL_law_1368 : decode cL_law 1368 = .ok (.if_icmp .eq 5, 3) := by decide +kernel
theorem dL_law_1371 : decode cL_law 1371 = .ok (.iconst 0, 1) := by decide +kernel
theorem dL_law_1372 : decode cL_law 1372 = .ok (.ireturn, 1) := by decide +kernel
theorem dL_law_1373 : decode cL_law 1373 = .ok (.iload 5, 2) := by decide +kernel
theorem dL_law_1375 : decode cL_law 1375 = .ok (.ifCond .ne 15, 3) := by decide +kernel
theorem dL_law_1378 : decode cL_law 1378 = .ok (.aload_n 3, 1) := by decide +kernel
theorem dL_law_1379 : decode cL_law 1379 = .ok (.iconst 0, 1) := by decide +kernel
theorem dL_law_1380 : decode cL_law 1380 = .ok (.laload, 1) := by decide +kernel
theorem dL_law_1381 : decode cL_law 1381 = .ok (.iload 6, 2) := by decide +kernel
theorem dL_law_1383 : decode cL_law 1383 = .ok (.i2l, 1) := by decide +kernel
theorem dL_law_1384 : decode cL_law 1384 = .ok (.lcmp, 1) := by decide +kernel
theorem dL_law_1385 : decode cL_law 1385 = .ok (.ifCond .eq 5, 3) := by decide +kernel
theorem dL_law_1388 : decode cL_law 1388 = .ok (.iconst 0, 1) := by decide +kernel
theorem dL_law_1389 : decode cL_law 1389 = .ok (.ireturn, 1) := by decide +kernel
theorem dL_law_1390 : decode cL_law 1390 = .ok (.goto 353, 3) := by decide +kernel
theorem dL_law_1393 : decode cL_law 1393 = .ok (.aload_n 1, 1) := by decide +kernel
theorem dL_law_1394 : decode cL_law 1394 = .ok (.aload_n 0, 1) := by decide +kernel
theorem dL_law_1395 : decode cL_law 1395 = .ok (.iload 4, 2) := by decide +kernel
theorem dL_law_1397 : decode cL_law 1397 = .ok (.iconst 1, 1) := by decide +kernel
theorem dL_law_1398 : decode cL_law 1398 = .ok (.iadd, 1) := by decide +kernel
theorem dL_law_1399 : decode cL_law 1399 = .ok (.iaload, 1) := by decide +kernel
theorem dL_law_1400 : decode cL_law 1400 = .ok (.aload_n 0, 1) := by decide +kernel
theorem dL_law_1401 : decode cL_law 1401 = .ok (.iload 4, 2) := by decide +kernel
theorem dL_law_1403 : decode cL_law 1403 = .ok (.iconst 2, 1) := by decide +kernel
theorem dL_law_1404 : decode cL_law 1404 = .ok (.iadd, 1) := by decide +kernel
theorem dL_law_1405 : decode cL_law 1405 = .ok (.iaload, 1) := by decide +kernel
theorem dL_law_1406 : decode cL_law 1406 = .ok (.aload_n 3, 1) := by decide +kernel
theorem dL_law_1407 : decode cL_law 1407 = .ok (.invokestatic 182, 3) := by decide +kernel
theorem dL_law_1410 : decode cL_law 1410 = .ok (.istore 5, 2) := by decide +kernel
theorem dL_law_1412 : decode cL_law 1412 = .ok (.aload_n 2, 1) := by decide +kernel
theorem dL_law_1413 : decode cL_law 1413 = .ok (.aload_n 0, 1) := by decide +kernel
theorem dL_law_1414 : decode cL_law 1414 = .ok (.iload 4, 2) := by decide +kernel
theorem dL_law_1416 : decode cL_law 1416 = .ok (.iconst 1, 1) := by decide +kernel
theorem dL_law_1417 : decode cL_law 1417 = .ok (.iadd, 1) := by decide +kernel
theorem dL_law_1418 : decode cL_law 1418 = .ok (.iaload, 1) := by decide +kernel
theorem dL_law_1419 : decode cL_law 1419 = .ok (.aload_n 0, 1) := by decide +kernel
theorem dL_law_1420 : decode cL_law 1420 = .ok (.iload 4, 2) := by decide +kernel
theorem dL_law_1422 : decode cL_law 1422 = .ok (.iconst 2, 1) := by decide +kernel
theorem dL_law_1423 : decode cL_law 1423 = .ok (.iadd, 1) := by decide +kernel
theorem dL_law_1424 : decode cL_law 1424 = .ok (.iaload, 1) := by decide +kernel
theorem dL_law_1425 : decode cL_law 1425 = .ok (.invokevirtual 184, 3) := by decide +kernel
theorem dL_law_1428 : decode cL_law 1428 = .ok (.istore 6, 2) := by decide +kernel
theorem dL_law_1430 : decode cL_law 1430 = .ok (.aload_n 2, 1) := by decide +kernel
theorem dL_law_1431 : decode cL_law 1431 = .ok (.invokevirtual 102, 3) := by decide +kernel
theorem dL_law_1434 : decode cL_law 1434 = .ok (.iload 5, 2) := by decide +kernel
theorem dL_law_1436 : decode cL_law 1436 = .ok (.if_icmp .eq 5, 3) := by decide +kernel
theorem dL_law_1439 : decode cL_law 1439 = .ok (.iconst 0, 1) := by decide +kernel
theorem dL_law_1440 : decode cL_law 1440 = .ok (.ireturn, 1) := by decide +kernel
theorem dL_law_1441 : decode cL_law 1441 = .ok (.iload 5, 2) := by decide +kernel
theorem dL_law_1443 : decode cL_law 1443 = .ok (.ifCond .ne 15, 3) := by decide +kernel
theorem dL_law_1446 : decode cL_law 1446 = .ok (.aload_n 3, 1) := by decide +kernel
theorem dL_law_1447 : decode cL_law 1447 = .ok (.iconst 0, 1) := by decide +kernel
theorem dL_law_1448 : decode cL_law 1448 = .ok (.laload, 1) := by decide +kernel
theorem dL_law_1449 : decode cL_law 1449 = .ok (.iload 6, 2) := by decide +kernel
theorem dL_law_1451 : decode cL_law 1451 = .ok (.i2l, 1) := by decide +kernel
theorem dL_law_1452 : decode cL_law 1452 = .ok (.lcmp, 1) := by decide +kernel
theorem dL_law_1453 : decode cL_law 1453 = .ok (.ifCond .eq 5, 3) := by decide +kernel
theorem dL_law_1456 : decode cL_law 1456 = .ok (.iconst 0, 1) := by decide +kernel
theorem dL_law_1457 : decode cL_law 1457 = .ok (.ireturn, 1) := by decide +kernel
theorem dL_law_1458 : decode cL_law 1458 = .ok (.goto 285, 3) := by decide +kernel
theorem dL_law_1461 : decode cL_law 1461 = .ok (.aload_n 1, 1) := by decide +kernel
theorem dL_law_1462 : decode cL_law 1462 = .ok (.aload_n 0, 1) := by decide +kernel
theorem dL_law_1463 : decode cL_law 1463 = .ok (.iload 4, 2) := by decide +kernel
theorem dL_law_1465 : decode cL_law 1465 = .ok (.iconst 1, 1) := by decide +kernel
theorem dL_law_1466 : decode cL_law 1466 = .ok (.iadd, 1) := by decide +kernel
theorem dL_law_1467 : decode cL_law 1467 = .ok (.iaload, 1) := by decide +kernel
theorem dL_law_1468 : decode cL_law 1468 = .ok (.aload_n 3, 1) := by decide +kernel
theorem dL_law_1469 : decode cL_law 1469 = .ok (.invokestatic 185, 3) := by decide +kernel
theorem dL_law_1472 : decode cL_law 1472 = .ok (.istore 5, 2) := by decide +kernel
theorem dL_law_1474 : decode cL_law 1474 = .ok (.aload_n 2, 1) := by decide +kernel
theorem dL_law_1475 : decode cL_law 1475 = .ok (.aload_n 0, 1) := by decide +kernel
theorem dL_law_1476 : decode cL_law 1476 = .ok (.iload 4, 2) := by decide +kernel
theorem dL_law_1478 : decode cL_law 1478 = .ok (.iconst 1, 1) := by decide +kernel
theorem dL_law_1479 : decode cL_law 1479 = .ok (.iadd, 1) := by decide +kernel
theorem dL_law_1480 : decode cL_law 1480 = .ok (.iaload, 1) := by decide +kernel
theorem dL_law_1481 : decode cL_law 1481 = .ok (.invokevirtual 187, 3) := by decide +kernel
theorem dL_law_1484 : decode cL_law 1484 = .ok (.istore 6, 2) := by decide +kernel
theorem dL_law_1486 : decode cL_law 1486 = .ok (.aload_n 2, 1) := by decide +kernel
theorem dL_law_1487 : decode cL_law 1487 = .ok (.invokevirtual 102, 3) := by decide +kernel
theorem dL_law_1490 : decode cL_law 1490 = .ok (.iload 5, 2) := by decide +kernel
theorem dL_law_1492 : decode cL_law 1492 = .ok (.if_icmp .eq 5, 3) := by decide +kernel
theorem dL_law_1495 : decode cL_law 1495 = .ok (.iconst 0, 1) := by decide +kernel
theorem dL_law_1496 : decode cL_law 1496 = .ok (.ireturn, 1) := by decide +kernel
theorem dL_law_1497 : decode cL_law 1497 = .ok (.iload 5, 2) := by decide +kernel
theorem dL_law_1499 : decode cL_law 1499 = .ok (.ifCond .ne 15, 3) := by decide +kernel
theorem dL_law_1502 : decode cL_law 1502 = .ok (.aload_n 3, 1) := by decide +kernel
theorem dL_law_1503 : decode cL_law 1503 = .ok (.iconst 0, 1) := by decide +kernel
theorem dL_law_1504 : decode cL_law 1504 = .ok (.laload, 1) := by decide +kernel
theorem dL_law_1505 : decode cL_law 1505 = .ok (.iload 6, 2) := by decide +kernel
theorem dL_law_1507 : decode cL_law 1507 = .ok (.i2l, 1) := by decide +kernel
theorem dL_law_1508 : decode cL_law 1508 = .ok (.lcmp, 1) := by decide +kernel
theorem dL_law_1509 : decode cL_law 1509 = .ok (.ifCond .eq 5, 3) := by decide +kernel
theorem dL_law_1512 : decode cL_law 1512 = .ok (.iconst 0, 1) := by decide +kernel
theorem dL_law_1513 : decode cL_law 1513 = .ok (.ireturn, 1) := by decide +kernel
theorem dL_law_1514 : decode cL_law 1514 = .ok (.goto 229, 3) := by decide +kernel
theorem dL_law_1517 : decode cL_law 1517 = .ok (.aload_n 1, 1) := by decide +kernel
theorem dL_law_1518 : decode cL_law 1518 = .ok (.aload_n 0, 1) := by decide +kernel
theorem dL_law_1519 : decode cL_law 1519 = .ok (.iload 4, 2) := by decide +kernel
theorem dL_law_1521 : decode cL_law 1521 = .ok (.iconst 1, 1) := by decide +kernel
theorem dL_law_1522 : decode cL_law 1522 = .ok (.iadd, 1) := by decide +kernel
theorem dL_law_1523 : decode cL_law 1523 = .ok (.iaload, 1) := by decide +kernel
theorem dL_law_1524 : decode cL_law 1524 = .ok (.aload_n 3, 1) := by decide +kernel
theorem dL_law_1525 : decode cL_law 1525 = .ok (.invokestatic 188, 3) := by decide +kernel
theorem dL_law_1528 : decode cL_law 1528 = .ok (.istore 5, 2) := by decide +kernel
theorem dL_law_1530 : decode cL_law 1530 = .ok (.aload_n 2, 1) := by decide +kernel
theorem dL_law_1531 : decode cL_law 1531 = .ok (.aload_n 0, 1) := by decide +kernel
theorem dL_law_1532 : decode cL_law 1532 = .ok (.iload 4, 2) := by decide +kernel
theorem dL_law_1534 : decode cL_law 1534 = .ok (.iconst 1, 1) := by decide +kernel
theorem dL_law_1535 : decode cL_law 1535 = .ok (.iadd, 1) := by decide +kernel
theorem dL_law_1536 : decode cL_law 1536 = .ok (.iaload, 1) := by decide +kernel
theorem dL_law_1537 : decode cL_law 1537 = .ok (.invokevirtual 190, 3) := by decide +kernel
theorem dL_law_1540 : decode cL_law 1540 = .ok (.istore 6, 2) := by decide +kernel
theorem dL_law_1542 : decode cL_law 1542 = .ok (.aload_n 2, 1) := by decide +kernel
theorem dL_law_1543 : decode cL_law 1543 = .ok (.invokevirtual 102, 3) := by decide +kernel
theorem dL_law_1546 : decode cL_law 1546 = .ok (.iload 5, 2) := by decide +kernel
theorem dL_law_1548 : decode cL_law 1548 = .ok (.if_icmp .eq 5, 3) := by decide +kernel
theorem dL_law_1551 : decode cL_law 1551 = .ok (.iconst 0, 1) := by decide +kernel
theorem dL_law_1552 : decode cL_law 1552 = .ok (.ireturn, 1) := by decide +kernel
theorem dL_law_1553 : decode cL_law 1553 = .ok (.iload 5, 2) := by decide +kernel
theorem dL_law_1555 : decode cL_law 1555 = .ok (.ifCond .ne 15, 3) := by decide +kernel
theorem dL_law_1558 : decode cL_law 1558 = .ok (.aload_n 3, 1) := by decide +kernel
theorem dL_law_1559 : decode cL_law 1559 = .ok (.iconst 0, 1) := by decide +kernel
theorem dL_law_1560 : decode cL_law 1560 = .ok (.laload, 1) := by decide +kernel
theorem dL_law_1561 : decode cL_law 1561 = .ok (.iload 6, 2) := by decide +kernel
theorem dL_law_1563 : decode cL_law 1563 = .ok (.i2l, 1) := by decide +kernel
theorem dL_law_1564 : decode cL_law 1564 = .ok (.lcmp, 1) := by decide +kernel
theorem dL_law_1565 : decode cL_law 1565 = .ok (.ifCond .eq 5, 3) := by decide +kernel
theorem dL_law_1568 : decode cL_law 1568 = .ok (.iconst 0, 1) := by decide +kernel
theorem dL_law_1569 : decode cL_law 1569 = .ok (.ireturn, 1) := by decide +kernel
theorem dL_law_1570 : decode cL_law 1570 = .ok (.goto 173, 3) := by decide +kernel
theorem dL_law_1573 : decode cL_law 1573 = .ok (.aload_n 1, 1) := by decide +kernel
theorem dL_law_1574 : decode cL_law 1574 = .ok (.aload_n 0, 1) := by decide +kernel
theorem dL_law_1575 : decode cL_law 1575 = .ok (.iload 4, 2) := by decide +kernel
theorem dL_law_1577 : decode cL_law 1577 = .ok (.iconst 1, 1) := by decide +kernel
theorem dL_law_1578 : decode cL_law 1578 = .ok (.iadd, 1) := by decide +kernel
theorem dL_law_1579 : decode cL_law 1579 = .ok (.iaload, 1) := by decide +kernel
theorem dL_law_1580 : decode cL_law 1580 = .ok (.aload_n 0, 1) := by decide +kernel
theorem dL_law_1581 : decode cL_law 1581 = .ok (.iload 4, 2) := by decide +kernel
theorem dL_law_1583 : decode cL_law 1583 = .ok (.iconst 2, 1) := by decide +kernel
theorem dL_law_1584 : decode cL_law 1584 = .ok (.iadd, 1) := by decide +kernel
theorem dL_law_1585 : decode cL_law 1585 = .ok (.iaload, 1) := by decide +kernel
theorem dL_law_1586 : decode cL_law 1586 = .ok (.aload_n 3, 1) := by decide +kernel
theorem dL_law_1587 : decode cL_law 1587 = .ok (.invokestatic 191, 3) := by decide +kernel
theorem dL_law_1590 : decode cL_law 1590 = .ok (.istore 5, 2) := by decide +kernel
theorem dL_law_1592 : decode cL_law 1592 = .ok (.aload_n 2, 1) := by decide +kernel
theorem dL_law_1593 : decode cL_law 1593 = .ok (.aload_n 0, 1) := by decide +kernel
theorem dL_law_1594 : decode cL_law 1594 = .ok (.iload 4, 2) := by decide +kernel
theorem dL_law_1596 : decode cL_law 1596 = .ok (.iconst 1, 1) := by decide +kernel
theorem dL_law_1597 : decode cL_law 1597 = .ok (.iadd, 1) := by decide +kernel
theorem dL_law_1598 : decode cL_law 1598 = .ok (.iaload, 1) := by decide +kernel
theorem dL_law_1599 : decode cL_law 1599 = .ok (.aload_n 0, 1) := by decide +kernel
theorem dL_law_1600 : decode cL_law 1600 = .ok (.iload 4, 2) := by decide +kernel
theorem dL_law_1602 : decode cL_law 1602 = .ok (.iconst 2, 1) := by decide +kernel
theorem dL_law_1603 : decode cL_law 1603 = .ok (.iadd, 1) := by decide +kernel
theorem dL_law_1604 : decode cL_law 1604 = .ok (.iaload, 1) := by decide +kernel
theorem dL_law_1605 : decode cL_law 1605 = .ok (.invokevirtual 193, 3) := by decide +kernel
theorem dL_law_1608 : decode cL_law 1608 = .ok (.istore 6, 2) := by decide +kernel
theorem dL_law_1610 : decode cL_law 1610 = .ok (.aload_n 2, 1) := by decide +kernel
theorem dL_law_1611 : decode cL_law 1611 = .ok (.invokevirtual 102, 3) := by decide +kernel
theorem dL_law_1614 : decode cL_law 1614 = .ok (.iload 5, 2) := by decide +kernel
theorem dL_law_1616 : decode cL_law 1616 = .ok (.if_icmp .eq 5, 3) := by decide +kernel
theorem dL_law_1619 : decode cL_law 1619 = .ok (.iconst 0, 1) := by decide +kernel
theorem dL_law_1620 : decode cL_law 1620 = .ok (.ireturn, 1) := by decide +kernel
theorem dL_law_1621 : decode cL_law 1621 = .ok (.iload 5, 2) := by decide +kernel
theorem dL_law_1623 : decode cL_law 1623 = .ok (.ifCond .ne 15, 3) := by decide +kernel
theorem dL_law_1626 : decode cL_law 1626 = .ok (.aload_n 3, 1) := by decide +kernel
theorem dL_law_1627 : decode cL_law 1627 = .ok (.iconst 0, 1) := by decide +kernel
end
section
theorem dL_law_1628 : decode cL_law 1628 = .ok (.laload, 1) := by decide +kernel
theorem dL_law_1629 : decode cL_law 1629 = .ok (.iload 6, 2) := by decide +kernel
theorem dL_law_1631 : decode cL_law 1631 = .ok (.i2l, 1) := by decide +kernel
theorem dL_law_1632 : decode cL_law 1632 = .ok (.lcmp, 1) := by decide +kernel
theorem dL_law_1633 : decode cL_law 1633 = .ok (.ifCond .eq 5, 3) := by decide +kernel
theorem dL_law_1636 : decode cL_law 1636 = .ok (.iconst 0, 1) := by decide +kernel
theorem dL_law_1637 : decode cL_law 1637 = .ok (.ireturn, 1) := by decide +kernel
theorem dL_law_1638 : decode cL_law 1638 = .ok (.goto 105, 3) := by decide +kernel
theorem dL_law_1641 : decode cL_law 1641 = .ok (.aload_n 1, 1) := by decide +kernel
theorem dL_law_1642 : decode cL_law 1642 = .ok (.aload_n 3, 1) := by decide +kernel
theorem dL_law_1643 : decode cL_law 1643 = .ok (.invokestatic 194, 3) := by decide +kernel
theorem dL_law_1646 : decode cL_law 1646 = .ok (.istore 5, 2) := by decide +kernel
theorem dL_law_1648 : decode cL_law 1648 = .ok (.aload_n 2, 1) := by decide +kernel
theorem dL_law_1649 : decode cL_law 1649 = .ok (.invokevirtual 196, 3) := by decide +kernel
theorem dL_law_1652 : decode cL_law 1652 = .ok (.istore 6, 2) := by decide +kernel
theorem dL_law_1654 : decode cL_law 1654 = .ok (.aload_n 2, 1) := by decide +kernel
theorem dL_law_1655 : decode cL_law 1655 = .ok (.invokevirtual 102, 3) := by decide +kernel
theorem dL_law_1658 : decode cL_law 1658 = .ok (.iload 5, 2) := by decide +kernel
theorem dL_law_1660 : decode cL_law 1660 = .ok (.if_icmp .eq 5, 3) := by decide +kernel
theorem dL_law_1663 : decode cL_law 1663 = .ok (.iconst 0, 1) := by decide +kernel
theorem dL_law_1664 : decode cL_law 1664 = .ok (.ireturn, 1) := by decide +kernel
theorem dL_law_1665 : decode cL_law 1665 = .ok (.iload 5, 2) := by decide +kernel
theorem dL_law_1667 : decode cL_law 1667 = .ok (.ifCond .ne 15, 3) := by decide +kernel
theorem dL_law_1670 : decode cL_law 1670 = .ok (.aload_n 3, 1) := by decide +kernel
theorem dL_law_1671 : decode cL_law 1671 = .ok (.iconst 0, 1) := by decide +kernel
theorem dL_law_1672 : decode cL_law 1672 = .ok (.laload, 1) := by decide +kernel
theorem dL_law_1673 : decode cL_law 1673 = .ok (.iload 6, 2) := by decide +kernel
theorem dL_law_1675 : decode cL_law 1675 = .ok (.i2l, 1) := by decide +kernel
theorem dL_law_1676 : decode cL_law 1676 = .ok (.lcmp, 1) := by decide +kernel
theorem dL_law_1677 : decode cL_law 1677 = .ok (.ifCond .eq 5, 3) := by decide +kernel
theorem dL_law_1680 : decode cL_law 1680 = .ok (.iconst 0, 1) := by decide +kernel
theorem dL_law_1681 : decode cL_law 1681 = .ok (.ireturn, 1) := by decide +kernel
theorem dL_law_1682 : decode cL_law 1682 = .ok (.goto 61, 3) := by decide +kernel
theorem dL_law_1685 : decode cL_law 1685 = .ok (.aload_n 1, 1) := by decide +kernel
theorem dL_law_1686 : decode cL_law 1686 = .ok (.aload_n 3, 1) := by decide +kernel
theorem dL_law_1687 : decode cL_law 1687 = .ok (.invokestatic 197, 3) := by decide +kernel
theorem dL_law_1690 : decode cL_law 1690 = .ok (.istore 5, 2) := by decide +kernel
theorem dL_law_1692 : decode cL_law 1692 = .ok (.aload_n 2, 1) := by decide +kernel
theorem dL_law_1693 : decode cL_law 1693 = .ok (.invokevirtual 199, 3) := by decide +kernel
theorem dL_law_1696 : decode cL_law 1696 = .ok (.istore 6, 2) := by decide +kernel
theorem dL_law_1698 : decode cL_law 1698 = .ok (.aload_n 2, 1) := by decide +kernel
theorem dL_law_1699 : decode cL_law 1699 = .ok (.invokevirtual 102, 3) := by decide +kernel
theorem dL_law_1702 : decode cL_law 1702 = .ok (.iload 5, 2) := by decide +kernel
theorem dL_law_1704 : decode cL_law 1704 = .ok (.if_icmp .eq 5, 3) := by decide +kernel
theorem dL_law_1707 : decode cL_law 1707 = .ok (.iconst 0, 1) := by decide +kernel
theorem dL_law_1708 : decode cL_law 1708 = .ok (.ireturn, 1) := by decide +kernel
theorem dL_law_1709 : decode cL_law 1709 = .ok (.iload 5, 2) := by decide +kernel
theorem dL_law_1711 : decode cL_law 1711 = .ok (.ifCond .ne 15, 3) := by decide +kernel
theorem dL_law_1714 : decode cL_law 1714 = .ok (.aload_n 3, 1) := by decide +kernel
theorem dL_law_1715 : decode cL_law 1715 = .ok (.iconst 0, 1) := by decide +kernel
theorem dL_law_1716 : decode cL_law 1716 = .ok (.laload, 1) := by decide +kernel
theorem dL_law_1717 : decode cL_law 1717 = .ok (.iload 6, 2) := by decide +kernel
theorem dL_law_1719 : decode cL_law 1719 = .ok (.i2l, 1) := by decide +kernel
theorem dL_law_1720 : decode cL_law 1720 = .ok (.lcmp, 1) := by decide +kernel
theorem dL_law_1721 : decode cL_law 1721 = .ok (.ifCond .eq 5, 3) := by decide +kernel
theorem dL_law_1724 : decode cL_law 1724 = .ok (.iconst 0, 1) := by decide +kernel
theorem dL_law_1725 : decode cL_law 1725 = .ok (.ireturn, 1) := by decide +kernel
theorem dL_law_1726 : decode cL_law 1726 = .ok (.goto 17, 3) := by decide +kernel
theorem dL_law_1729 : decode cL_law 1729 = .ok (.aload_n 1, 1) := by decide +kernel
theorem dL_law_1730 : decode cL_law 1730 = .ok (.invokevirtual 200, 3) := by decide +kernel
theorem dL_law_1733 : decode cL_law 1733 = .ok (.aload_n 2, 1) := by decide +kernel
theorem dL_law_1734 : decode cL_law 1734 = .ok (.invokevirtual 204, 3) := by decide +kernel
theorem dL_law_1737 : decode cL_law 1737 = .ok (.lcmp, 1) := by decide +kernel
theorem dL_law_1738 : decode cL_law 1738 = .ok (.ifCond .eq 5, 3) := by decide +kernel
theorem dL_law_1741 : decode cL_law 1741 = .ok (.iconst 0, 1) := by decide +kernel
theorem dL_law_1742 : decode cL_law 1742 = .ok (.ireturn, 1) := by decide +kernel
theorem dL_law_1743 : decode cL_law 1743 = .ok (.iinc 4 4, 3) := by decide +kernel
theorem dL_law_1746 : decode cL_law 1746 = .ok (.goto (-1723), 3) := by decide +kernel
theorem dL_law_1749 : decode cL_law 1749 = .ok (.iconst 1, 1) := by decide +kernel
theorem dL_law_1750 : decode cL_law 1750 = .ok (.ireturn, 1) := by decide +kernel
end
