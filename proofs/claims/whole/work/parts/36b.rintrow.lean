/-! ===== Math.rint is run by its own row of the natives, which calls StrictMath.rint ===== -/
noncomputable def zrR : NativeRow := (NativeRow.find? Native.java_lang_Math.nans.rows "java/lang/Math" "rint" "(D)D").get (by decide +kernel)
set_option maxRecDepth 100000 in
theorem zr_row (p : Program) : NativeRow.find? p.tables.natives "java/lang/Math" "rint" "(D)D" = some zrR := by
  cases p <;> rfl
/-- the row's first half: it asks for StrictMath.rint -/
theorem zr_sem (x : UInt64) (e : Env) (S : State) {k : ClassId} {K : Class} {i : Nat} (h1 : S.vm.findClass "java/lang/StrictMath" = some k) (h2 : S.vm.classes[k]? = some K) (h3 : K.init = .initialized) (h4 : K.findMethod "rint" "(D)D" = some i) : ∃ acts, (zrR.sem #[.double x]).run e S = .ctl (.call ⟨k, i⟩ #[.double x] 1 #[]) S acts := by
  have hs : zrR.sem #[.double x] = (do
      let c ← classNamed "java/lang/StrictMath"
      ensureInit c
      let some i := (← theClass c).findMethod "rint" "(D)D" | modelBug ("StrictMath lacks " ++ "rint")
      callThen ⟨c, i⟩ #[.double x] 1 #[]) := rfl
  have hw : wpRun (zrR.sem #[.double x]) (fun _ _ _ => False) (fun c t _ => c = .call ⟨k, i⟩ #[.double x] 1 #[] ∧ t = S) e S := by
    rw [hs]
    simp [jvm, wpRun, W.classNamed_ready h1, W.ensureInit_ready ⟨K, h2, h3⟩, theClass, callThen, h2, h4]
    exact ⟨rfl, rfl, rfl, rfl⟩
  have hw2 := (wpRun_iff_run _ _ _ _ _).mp hw
  cases hr : (zrR.sem #[.double x]).run e S with
  | ok v t acts => rw [hr] at hw2; exact hw2.elim
  | ctl y t acts =>
    rw [hr] at hw2
    have h5 : y = .call ⟨k, i⟩ #[.double x] 1 #[] ∧ t = S := by cases y <;> first | exact hw2 | exact hw2.elim
    rw [h5.1, h5.2]
    exact ⟨_, rfl⟩
/-- its second half: what came back is handed on -/
theorem zr_res {r : UInt64} (hn : r &&& 0x7fffffffffffffff ≤ 0x7ff0000000000000) (e : Env) (S : State) : ∃ acts, (zrR.resume 1 #[] (.returned (some (.double r)))).run e S = .ok (some (.double r)) S acts := by
  have hs : zrR.resume 1 #[] (.returned (some (.double r))) = (do
      let r ← anyNaN64 r
      mark "nat.java_lang_Math.rint"
      Pure.pure (some (.double r))) := rfl
  have hw : wpRun (zrR.resume 1 #[] (.returned (some (.double r)))) (fun v t _ => v = some (.double r) ∧ t = S) (fun _ _ _ => False) e S := by
    rw [hs]
    simp [jvm, wpRun, anyNaN64, hn]
  have hw2 := (wpRun_iff_run _ _ _ _ _).mp hw
  cases hr : (zrR.resume 1 #[] (.returned (some (.double r)))).run e S with
  | ok v t acts => rw [hr] at hw2; rw [hw2.1, hw2.2]; exact ⟨_, rfl⟩
  | ctl y t acts => rw [hr] at hw2; cases y <;> exact hw2.elim
