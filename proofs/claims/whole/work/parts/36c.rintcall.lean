/-! ===== a call of Math.rint comes back as StrictMath.rint's contract says ===== -/
abbrev zN0 (mk : MethodId) (x : UInt64) : NFrame := { method := mk, args := #[.double x] }
abbrev zN1 (mk : MethodId) (x : UInt64) : NFrame := { method := mk, args := #[.double x], stage := 1, saved := #[], awaiting := true, answer := none, words := 0 }
abbrev zN2 (mk : MethodId) (x r : UInt64) : NFrame := { method := mk, args := #[.double x], stage := 1, saved := #[], awaiting := false, answer := some (.returned (some (.double r))), words := 0 }
set_option maxHeartbeats 4000000 in
set_option maxRecDepth 100000 in
theorem zr_back {l : Launch} {R : Room} {p : Program} {e : Env} {below : List Frame} {s : State} {sargs : Array Value} {ws : List Cond} {rm : Room} {Pc : Array Value → State → Prop} {Qc : Array Value → State → Outcome → State → Prop} {XC : String → State → State → Prop} {free : Addr → Prop}
    (hM : vx_Met l yJxfc994_rint_294c1 ws rm Pc Qc XC 0 0 free) (hbl : ∀ a (U V : State), V.heap = U.heap → V.vm = U.vm → Pc a U → Pc a V) (hX : ∀ E st t, ¬ XC E st t)
    (hQ : ∀ a st o t, Qc a st o t → ∃ r : UInt64, o = .returned (some (.double r)) ∧ r &&& 0x7fffffffffffffff ≤ 0x7ff0000000000000) (hQ2 : ∀ a st st' o t, st'.heap = st.heap → Qc a st o t → Qc a st' o t)
    (hrc : rm.cells = 0) (hrs : rm.slots = 0) (hfr : rm.frames + 2 ≤ R.frames) (hlo : 8 + (6 + 11) + (rm.locals + 1024) ≤ R.locals)
    (hws : ∀ w ∈ ws, ∀ a' (U : State), s.WarmedH U.vm → w.before a' U = true) (hcw : Cond.code yJxfc994_rint_294c1 cJxfc994_rint_294c1 6 (some .double) ∈ ws)
    (hcM : ∀ a' (U : State), s.WarmedH U.vm → (Cond.code yJ9_rint_294c1 cJ9_rint_294c1 2 (some .double)).before a' U = true)
    (hini : ∀ a' (U : State), s.WarmedH U.vm → (Cond.initialized "java/lang/StrictMath").before a' U = true) :
    Back l R p e below s sargs yJ9_rint_294c1 3 8 (PreOf R 0 0 (fun a U => Pc a U ∧ ∃ x : UInt64, a = #[.double x])) (PostOf Qc 0 0 free) := by
  intro m meth c A g ig mk a X hg hsize hdg hW hnamed ⟨hc, hs, hPc, x, ha⟩
  subst ha
  obtain ⟨U, Ls, c0, s0⟩ := A
  dsimp only [Pt.U, Pt.locs, Pt.cells, Pt.slots] at hc hs hPc X hnamed ⊢
  obtain ⟨methM, cM, hmM, hcdM, -, hlM, -, hlkM, -, hsgM⟩ := Cond.code_spec hnamed (hcM #[.double x] U X.warmed)
  obtain ⟨kP, hkP, hkn⟩ := className_of_methodNamed hnamed
  obtain ⟨hmn, hmd⟩ := name_of_methodNamed hnamed hmM
  have hxP : kP.methods[mk.idx]? = some methM := by simpa [Vm.method?, hkP] using hmM
  have hbP : kP.loader = none := Vm.bootOf_findClass (findClass_of_methodNamed hnamed) hkP
  have hCS := hws _ hcw #[.double x] U X.warmed
  obtain ⟨mS, hnS⟩ := Cond.code_named hCS
  obtain ⟨methS, cS, hmS, hcS, -, hlS, -, -, -, -⟩ := Cond.code_spec hnS hCS
  obtain ⟨kS, hkS, -⟩ := className_of_methodNamed hnS
  have hfS : U.vm.findClass "java/lang/StrictMath" = some mS.cls := findClass_of_methodNamed hnS
  have hiS : kS.init = .initialized := Cond.initialized_spec hfS hkS (hini #[.double x] U X.warmed)
  have hfm : kS.findMethod "rint" "(D)D" = some mS.idx := by
    have h := hnS
    simp only [State.methodNamed?, Option.bind_eq_bind, Option.pure_def] at h
    rw [show yJxfc994_rint_294c1.cls = "java/lang/StrictMath" from rfl, hfS] at h
    simp only [Option.bind_some, hkS] at h
    cases hq : kS.findMethod yJxfc994_rint_294c1.name yJxfc994_rint_294c1.desc with
    | none => rw [hq] at h; cases h
    | some j => rw [hq] at h; simp at h; rw [← h]; exact hq
  have h : At U g.method c below := by rw [hg]; exact X.here
  obtain ⟨g₀, hg0⟩ := Option.isSome_iff_exists.mp h.top
  obtain ⟨r, hr⟩ := State.topJava?_eq_some.mp hg0
  obtain ⟨mid, hmid⟩ := h.above
  have hcur : U.cur < U.threads.size := State.cur_lt_of_frames hr
  have htail : U.frames.tail = r := by rw [hr]; rfl
  rw [htail] at hmid
  have htop : U.setTop g = U.setFrames (.java g :: r) := State.setTop_of_frames _ hr
  -- the pushed frame of Math.rint is run by the row
  have hroomM := X.room_calling hsize hmM hcdM (g := g) (m' := mk) (args' := #[.double x]) (R' := {}) (by show 0 + 1 ≤ R.frames; omega) (by rw [hlM]; show 2 * g.monitorRoom + _ + (2 + 11) + 0 ≤ R.locals; omega) (by show c0 + 0 ≤ R.cells; omega) (by show s0 + 0 ≤ R.slots; omega)
  have hfull : e.platform.stackFull (U.setTop g).me (U.setTop g).frames cM.maxLocals = false := by
    have hfc := State.frames_calling h.top g mk #[.double x]
    obtain ⟨-, r2, -, r4⟩ := State.hasRoom_stack hroomM
    rw [State.localsInUse_invoking hfc (meth := methM) (c := cM) hmM hcdM] at r4
    rw [hfc, htail] at r2
    rw [htail] at r4
    have hw := stackUse_le_stackWeight (.java g :: r)
    rw [State.calling_eq h.top, State.stackLimits_setFrames] at r2 r4
    rw [htop, State.frames_setFrames _ hcur]
    have z1 : ({} : Room).frames = 0 := rfl
    have z2 : ({} : Room).locals = 0 := rfl
    exact Platform.stackFull_eq_false (by rw [State.stackLimits_setFrames]; simp only [List.length_cons] at r2 ⊢; omega) (by rw [State.stackLimits_setFrames]; omega)
  have hpush : (U.setTop g).pushFrame (.java { method := mk, pc := 0, locals := argsToLocals #[.double x] 2, stack := [], locked := none }) = U.setFrames (.java (entryFrame mk #[.double x] 2) :: .java g :: r) := by
    rw [State.pushFrame, State.frames_setTop _ hr, htop, State.setFrames_setFrames]
    rfl
  have hf1 : (U.setFrames (.java (entryFrame mk #[.double x] 2) :: .java g :: r)).frames = .java (entryFrame mk #[.double x] 2) :: .java g :: r := State.frames_setFrames _ hcur
  have hov : overridden p.tables e (U.setFrames (.java (entryFrame mk #[.double x] 2) :: .java g :: r)) (entryFrame mk #[.double x] 2) = some zrR :=
    Jvm.Free.Fl.Abs.overridden_some (k := kP) (x := methM) rfl hkP (by rw [hkn]; decide) hbP hxP (by rw [hkn, hmn, hmd]; exact zr_row p)
  have hsig2 : parseMethodDescriptor "(D)D" = some { parameters := [.double], returnType := some .double } := by decide +kernel
  have hparams : methM.sig.parameters.length = 1 := by
    have h3 := hsgM
    rw [show yJ9_rint_294c1.desc = "(D)D" from rfl, hsig2] at h3
    rw [← Option.some.inj h3]
    rfl
  have hb3 : (U.vm.classes[mk.cls]?.bind fun k => k.methods[mk.idx]?) = some methM := by simp [hkP, hxP]
  have hb2 : ∀ F : List Frame, ((U.setFrames F).vm.classes[mk.cls]?.bind fun k => k.methods[mk.idx]?) = some methM := fun F => hb3
  have hkn2 : kP.name = "java/lang/Math" := hkn
  have hmn2 : methM.name = "rint" := hmn
  have hw3 : ((U.vm.classes[mk.cls]?).bind fun k => Option.map (fun n => upcallWords k.name n.name) k.methods[mk.idx]?).getD 0 = 0 := by simp [hkP, hxP, hkn2, hmn2, upcallWords]
  have hw2 : ∀ F : List Frame, (((U.setFrames F).vm.classes[mk.cls]?).bind fun k => (k.methods[mk.idx]?).map fun n => upcallWords k.name n.name).getD 0 = 0 := fun F => hw3
  have htake : ∀ n : Nat, List.take (1 + n) [Value.double x] = [Value.double x] := fun n => List.take_of_length_le (Nat.le_add_right 1 n)
  obtain ⟨acts₂, hr2⟩ := zr_sem x e (U.setFrames (.native (zN0 mk x) :: .java g :: r)) (k := mS.cls) (K := kS) (i := mS.idx) hfS hkS hiS hfm
  have hstep2 : (stepThread p.tables e (U.setFrames (.java (entryFrame mk #[.double x] 2) :: .java g :: r))).1 = (doInvoke e (U.setFrames (.native (zN1 mk x) :: .java g :: r)) acts₂ ⟨mS.cls, mS.idx⟩ #[.double x]).1 := by
    unfold stepThread
    simp only [hf1, hov]
    simp [entryFrame, argsToLocals, Value.category, argCount, hb2, hb3, hparams, htake, hr2, afterNative, hw2, hw3, State.setFrames_setFrames]
  -- StrictMath.rint by its contract
  have hfN : (U.setFrames (.native (zN1 mk x) :: .java g :: r)).frames = (.native (zN1 mk x) :: .java g :: mid) ++ below := by rw [State.frames_setFrames _ hcur, hmid]; rfl
  have eF : (U.setFrames (.native (zN1 mk x) :: .java g :: r)).pushFrame (.invoking ⟨mS.cls, mS.idx⟩ #[.double x]) = U.setFrames (.invoking mS #[.double x] :: .native (zN1 mk x) :: .java g :: r) := by
    rw [State.pushFrame, State.frames_setFrames _ hcur, State.setFrames_setFrames]
  have hroomS := X.room_calling hsize hmS hcS (g := g) (m' := mS) (args' := #[.double x]) (R' := { frames := rm.frames + 1, locals := rm.locals + 1024, cells := rm.cells, slots := rm.slots }) (by show rm.frames + 1 + 1 ≤ R.frames; omega) (by rw [hlS]; show 2 * g.monitorRoom + _ + (6 + 11) + (rm.locals + 1024) ≤ R.locals; omega) (by show c0 + rm.cells ≤ R.cells; omega) (by show s0 + rm.slots ≤ R.slots; omega)
  rw [State.calling_eq h.top, htail] at hroomS
  have happ : (headSpec ws rm).appliesLoose yJxfc994_rint_294c1 e.platform ((U.setFrames (.native (zN1 mk x) :: .java g :: r)).pushFrame (.invoking ⟨mS.cls, mS.idx⟩ #[.double x])) = true := by
    rw [eF]
    refine (Spec.appliesLoose_iff (State.frames_setFrames _ hcur)).mpr ⟨h.running, by simpa using h.runnable, by simpa using h.alone, hnS, rfl, State.classRipe_of (s := U.setFrames _) hkS hiS, Jvm.Free.Hsc.hasRoom_native (F := rm.frames) (L := rm.locals) (C := rm.cells) (Sl := rm.slots) hcur (Nat.zero_le _) hroomS, ?_⟩
    exact atoms_intro fun w hw => hws w hw _ _ X.warmed
  obtain ⟨o, s₂, hsteps, hrun2, hend, hpost⟩ := Steps.callFree hM p X.admits X.cas X.clock (s := U.setFrames (.native (zN1 mk x) :: .java g :: r)) (m := ⟨mS.cls, mS.idx⟩) (args := #[.double x]) (acts := acts₂) hfN happ (hbl _ U _ rfl rfl hPc) trivial
  rcases hpost with ⟨hq, L, hfe, hfree⟩ | ⟨q, -, hT⟩
  case inr =>
    obtain ⟨E, ce, L, hxc, -⟩ := hT
    exact absurd hxc (hX _ _ _)
  obtain ⟨v, ho, hn⟩ := hQ _ _ _ _ hq
  subst ho
  rw [State.frames_setFrames _ hcur] at hend
  replace hend : s₂.frames = .native (zN2 mk x v) :: .java g :: r := hend
  -- the row goes on
  obtain ⟨-, hW₂, e2, q2, q3, q4, q5, q6⟩ := id hfe
  have hW' : U.WarmedH s₂.vm := hW₂
  have hal : U.vm.Alike s₂.vm := hW₂.alike
  obtain ⟨k', hk', ek⟩ := hal.2.2 _ _ hkP
  obtain ⟨acts₃, hr3⟩ := zr_res hn e s₂
  have hcode2 : s₂.code? g.method = some c := by
    have h1 : s₂.code? g.method = U.code? g.method := by rw [State.code?_eq, State.code?_eq, hal.method?]
    rw [h1]; exact h.code
  have hfs : handOver s₂ (some (.double v)) (.java g :: r) = some (.java { g with pc := g.pc + 3, stack := .double v :: g.stack } :: r) := by
    simp [handOver, hcode2, hdg, Except.toOption]
  have hstep4 : (stepThread p.tables e s₂).1 = s₂.setFrames (.java { g with pc := g.pc + 3, stack := .double v :: g.stack } :: r) := by
    rw [Jvm.Free.Hsc.stepThread_resumed' (f := zN2 mk x v) (k := k') (x := methM) (row := zrR) (o := .returned (some (.double v))) hend hk' (by rw [ek]; exact hbP) (by rw [ek]; exact hxP) (by rw [ek, hmn, hmd]; rw [show _ = "java/lang/Math" from hkn]; exact zr_row p) rfl]
    show (afterNative e _ _ ((zrR.resume 1 #[] (.returned (some (.double v)))).run e s₂)).1 = _
    rw [hr3]
    exact doReturn_native (f := zN2 mk x v) hend rfl hfs
  have hcs : s₂.curStatus? = some .runnable := by
    have h1 : s₂.curStatus? = ({ s₂ with vm := ((U.setFrames (.native (zN1 mk x) :: .java g :: r)).pushFrame (.invoking ⟨mS.cls, mS.idx⟩ #[.double x])).vm } : State).curStatus? := rfl
    rw [h1, e2]
    show (((U.setFrames (.native (zN1 mk x) :: .java g :: r)).pushFrame (.invoking ⟨mS.cls, mS.idx⟩ #[.double x])).setFrames _).curStatus? = _
    simpa [State.pushFrame] using h.runnable
  have hal2 : s₂.alone = true := by
    have h1 : s₂.alone = ({ s₂ with vm := ((U.setFrames (.native (zN1 mk x) :: .java g :: r)).pushFrame (.invoking ⟨mS.cls, mS.idx⟩ #[.double x])).vm } : State).alone := rfl
    rw [h1, e2]
    show (((U.setFrames (.native (zN1 mk x) :: .java g :: r)).pushFrame (.invoking ⟨mS.cls, mS.idx⟩ #[.double x])).setFrames _).alone = _
    simpa [State.pushFrame] using h.alone
  have hall : Steps p.tables e below (doInvoke e (U.setTop g) [] mk #[.double x]).1 (s₂.setFrames (.java { g with pc := g.pc + 3, stack := .double v :: g.stack } :: r)) := by
    rw [(doInvoke_java (s := U.setTop g) (e := e) (acts := []) (args := #[.double x]) (meth := methM) (code := cM) hmM hcdM hlkM hfull).1, hlM, hpush]
    refine Steps.head ⟨h.running, by simpa using h.runnable, by simpa using h.alone⟩ ⟨.java (entryFrame mk #[.double x] 2) :: .java g :: mid, by rw [hf1, hmid]; rfl, by simp, by simp⟩ ?_
    rw [hstep2]
    refine hsteps.trans ?_
    refine Steps.head ⟨hrun2, hcs, hal2⟩ ⟨.native (zN2 mk x v) :: .java g :: mid, by rw [hend, hmid]; rfl, by simp, by simp⟩ ?_
    rw [hstep4]
    exact Steps.refl _
  -- the point behind the call
  have e3 : s₂ = ({ U.setFrames s₂.frames with heap := s₂.heap, slotsUsed := s₂.slotsUsed } : State).setVm s₂.vm := by
    have h1 : s₂ = ({ s₂ with vm := ((U.setFrames (.native (zN1 mk x) :: .java g :: r)).pushFrame (.invoking ⟨mS.cls, mS.idx⟩ #[.double x])).vm } : State).setVm s₂.vm := rfl
    rw [e2, eF, State.setFrames_setFrames] at h1
    exact h1
  have hs₂ : s₂.setFrames (.java { g with pc := g.pc + 3, stack := .double v :: g.stack } :: r) = (({ U with heap := s₂.heap, slotsUsed := s₂.slotsUsed } : State).setVm s₂.vm).setTop { g with pc := g.pc + 3, stack := .double v :: g.stack } := by
    have hr' : (({ U with heap := s₂.heap, slotsUsed := s₂.slotsUsed } : State).setVm s₂.vm).frames = .java g₀ :: r := hr
    rw [State.setTop_of_frames _ hr']
    conv => lhs; rw [e3]
    have e4 : ∀ F F2 : List Frame, (({ U.setFrames F with heap := s₂.heap, slotsUsed := s₂.slotsUsed } : State).setVm s₂.vm).setFrames F2 = (({ U with heap := s₂.heap, slotsUsed := s₂.slotsUsed } : State).setVm s₂.vm).setFrames F2 := fun F F2 => by
      show ({ (U.setFrames F).setFrames F2 with heap := s₂.heap, slotsUsed := s₂.slotsUsed } : State).setVm s₂.vm = _
      rw [State.setFrames_setFrames]; rfl
    exact e4 _ _
  have hsame : U.sameButNew ({ U with heap := s₂.heap, slotsUsed := s₂.slotsUsed } : State) L 0 0 := by
    refine ⟨?_, q2, q3, q4, q5, q6⟩
    obtain ⟨t, ht, -⟩ := State.frames_cons hr
    show ({ U with heap := s₂.heap, slotsUsed := s₂.slotsUsed } : State) = { U.setFrames U.frames with heap := s₂.heap, slotsUsed := s₂.slotsUsed }
    rw [State.setFrames_self ht]
  subst hg
  refine ⟨some (.double v), ⟨(({ U with heap := s₂.heap, slotsUsed := s₂.slotsUsed } : State).setVm s₂.vm), Ls ++ L, c0 + 0, s0 + 0⟩,
    ⟨X.admits, X.cas, X.clock, X.frames, X.room, X.hears, X.method, X.code, (X.here.setHeapUsed s₂.heap s₂.slotsUsed).setVm hW'.alike, X.tail, State.WarmedH.trans X.warmed hW', X.limits, X.bytes, X.same.trans (hsame.setVm s.vm)⟩,
    ⟨g, mk, s₂, L, rfl, rfl, hQ2 _ _ _ _ _ (by rw [State.calling_eq h.top]; rfl) hq, rfl, hfree, rfl, rfl⟩, ?_⟩
  show Steps p.tables e below _ ((({ U with heap := s₂.heap, slotsUsed := s₂.slotsUsed } : State).setVm s₂.vm).setTop { g with pc := g.pc + 3, stack := .double v :: g.stack })
  rw [← hs₂]
  exact hall
