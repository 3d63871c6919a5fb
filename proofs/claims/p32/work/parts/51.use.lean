/-! ===== the law's invariant; what it compares ===== -/
def LInv (X : St) (A : DA) : Prop := DInv X A ∧ A.R = 4 ∧ A.C = 4 ∧ (∀ i, i < 16 → zr (zk A i) ∧ Zv X 36 i = i32 (cw (zk A i))) ∧ (∀ r, r < 4 → Zv X 37 r = bI (!A.ra.testBit r)) ∧ ∀ c, c < 4 → Zv X 38 c = bI (!A.ca.testBit c)
theorem LInv.D {X : St} {A : DA} (h : LInv X A) : DInv X A := h.1
theorem LInv.R {X : St} {A : DA} (h : LInv X A) : A.R = 4 := h.2.1
theorem LInv.C {X : St} {A : DA} (h : LInv X A) : A.C = 4 := h.2.2.1
theorem LInv.z {X : St} {A : DA} (h : LInv X A) : ∀ i, i < 16 → zr (zk A i) ∧ Zv X 36 i = i32 (cw (zk A i)) := h.2.2.2.1
theorem LInv.r {X : St} {A : DA} (h : LInv X A) : ∀ r, r < 4 → Zv X 37 r = bI (!A.ra.testBit r) := h.2.2.2.2.1
theorem LInv.c {X : St} {A : DA} (h : LInv X A) : ∀ c, c < 4 → Zv X 38 c = bI (!A.ca.testBit c) := h.2.2.2.2.2
theorem LInv.fr {X Y : St} {A : DA} (h : LInv X A) (hD : DInv Y A) (hF : Fr Dp X Y) : LInv Y A :=
  ⟨hD, h.R, h.C, fun i hi => by rw [(hF 36 (by decide)).2.1]; exact h.z i hi, fun r hr => by rw [(hF 37 (by decide)).2.1]; exact h.r r hr, fun c hc => by rw [(hF 38 (by decide)).2.1]; exact h.c c hc⟩
theorem DInv.far {X : St} {A : DA} (h : DInv X A) {k : Nat} (f : Nat → Int32) (hk : 36 ≤ k) : DInv (Yv X k f) A := h.fr (P := fun i => i = k) (Fr.v f rfl) (fun i hi _ _ q => by omega)
theorem LInv.far {X : St} {A : DA} (h : LInv X A) (f : Nat → Int32) : LInv (Yv X 39 f) A :=
  ⟨h.D.far f (by decide), h.R, h.C, h.z, h.r, h.c⟩
theorem DInv.fz {X : St} {A : DA} (h : DInv X A) : ∀ i, i < 2 → Zf X 25 i < 36 := fun i hi => by
  have h1 := h.fg
  rcases (show i = 0 ∨ i = 1 by omega) with rfl | rfl
  · rcases h1.f with e | e <;> omega
  · rcases h1.g with e | e <;> omega
def uA (A : DA) (i : Nat) : Int := if A.ra.testBit (i / 4) = true ∧ A.ca.testBit (i % 4) = true then cw (zk A i) else 99
theorem uA_ok {X : St} {A : DA} (h : LInv X A) : uok A.ra A.ca A.z (uA A) := by
  intro r c hr hc
  have e1 : (4 * r + c) / 4 = r := by omega
  have e2 : (4 * r + c) % 4 = c := by omega
  have hz := (h.z (4 * r + c) (by omega)).1
  have ez : zk A (4 * r + c) = A.z (10 * r + c) := by unfold zk; rw [e1, e2]
  rw [ez] at hz
  unfold uA
  rw [us_bit (by omega), e1, e2, ez]
  by_cases h1 : A.ra.testBit r = true
  · by_cases h2 : A.ca.testBit c = true
    · rw [if_pos ⟨h1, h2⟩, h1, h2]
      by_cases h3 : A.z (10 * r + c) = 20000
      · refine Or.inr ⟨?_, by rw [h3]; exact cw_z⟩
        rw [decide_eq_false (fun q => q h3)]
        rfl
      · have h4 := hz.resolve_left h3
        refine Or.inl ⟨?_, cw_n h4, h4.1, h4.2⟩
        rw [decide_eq_true h3]
        rfl
    · rw [if_neg (fun q => h2 q.2)]
      exact Or.inr ⟨by simp [h2], rfl⟩
  · rw [if_neg (fun q => h1 q.1)]
    exact Or.inr ⟨by simp [h1], rfl⟩
theorem uA_bd {X : St} {A : DA} (h : LInv X A) {i : Nat} (hi : i < 16) : -4 ≤ uA A i ∧ uA A i ≤ 99 := by
  unfold uA
  split
  · exact cw_bd (h.z i hi).1
  · decide
theorem LInv.best {X : St} {A : DA} (h : LInv X A) : ∃ p : Nat, p < 625 ∧ gsf (uA A) 625 = szN (uA A) p ∧ bsf (uA A) (szN (uA A) p) 625 = p ∧ szN (uA A) p = szf (Ls A.ra A.ca A.z 10 A.ca) ∧ csN (uA A) p = csf (Ls A.ra A.ca A.z 10 A.ca) ∧ ∀ i, i < 4 → cI (kcol A.ra A.ca A.z i (kfree A.ra A.ca A.z i)) = if dg p i = 4 then -1 else nI (dg p i) := by
  have ht := h.D.ok.t
  rw [h.R, h.C] at ht
  exact best_ok (u4_of ht.1 ht.2.1) ht.2.1 (uA_ok h)
theorem and7 (x : Int32) : ∃ k, k < 8 ∧ x &&& 7 = nI k := by
  refine ⟨(x &&& 7).toBitVec.toNat, ?_, ?_⟩
  · rw [Int32.toBitVec_and, BitVec.toNat_and]
    exact Nat.lt_of_le_of_lt Nat.and_le_right (by decide)
  · apply Int32.toBitVec_inj.mp
    show _ = BitVec.ofNat 32 _
    rw [BitVec.ofNat_toNat]
    rfl
set_option maxHeartbeats 4000000 in
set_option maxRecDepth 100000 in
theorem lp_use {l : Launch} (hfl : l.stackTraces = false) {G : Geo} {um : Nat} {J : JT} {JX : JXT} (CL : CbL l G um J JX) (hG : Gn G = 4) {A : DA} {X : St} {u k : Nat} (hI : LInv X A) (hk : ∀ f : Nat → Int32, (∀ j, j < 16 → f j = i32 (uA A j)) → J (Yv X 39 f) u 354 [(10, .ref (G.2.1 39)), (5, .int (nI k)), (1, .ref (G.2.1 0)), (2, .ref (G.2.1 36)), (3, .ref (G.2.1 37)), (4, .ref (G.2.1 38)), (0, .ref (Gb G))] []) : ∀ n i (f : Nat → Int32), i + n = 16 → (∀ j, j < i → f j = i32 (uA A j)) → J (Yv X 39 f) u 308 [(11, .int (nI i)), (10, .ref (G.2.1 39)), (5, .int (nI k)), (1, .ref (G.2.1 0)), (2, .ref (G.2.1 36)), (3, .ref (G.2.1 37)), (4, .ref (G.2.1 38)), (0, .ref (Gb G))] [] := by
  have C := CL.c
  intro n
  induction n with
  | zero =>
    intro i f h hf
    have hi : i = 16 := by omega
    subst hi
    refine r_iload C dL_law_308 rfl ?_
    refine r_bipush (v := 16) C dL_law_310 (by decide) ?_
    refine r_icmp_ge (tgt := 354) C dL_law_312 (by decide) (fun c_312 => ?_) (fun c_312 => absurd ((by decide)) c_312)
    refine r_sub C (lv' := [(10, .ref (G.2.1 39)), (5, .int (nI k)), (1, .ref (G.2.1 0)), (2, .ref (G.2.1 36)), (3, .ref (G.2.1 37)), (4, .ref (G.2.1 38)), (0, .ref (Gb G))]) ⟨rfl, rfl, rfl, rfl, rfl, rfl, rfl, trivial⟩ ?_
    exact hk f hf
  | succ n ih =>
    intro i f h hf
    have hi : i < 16 := by omega
    refine r_iload C dL_law_308 rfl ?_
    refine r_bipush (v := 16) C dL_law_310 (by decide) ?_
    refine r_icmp_ge (tgt := 354) C dL_law_312 (by decide) (fun c_312 => absurd c_312 ((nI_ge (a := i) (b := 16) (by omega) (by decide)))) (fun c_312 => ?_)
    refine r_aload C dL_law_315 rfl ?_
    refine r_iload C dL_law_317 rfl ?_
    refine r_aload_n C dL_law_319 rfl rfl ?_
    refine r_iload C dL_law_320 rfl ?_
    refine r_iconst (v := 4) C dL_law_322 (by decide) ?_
    refine r_idiv C dL_law_323 (by decide) ?_
    refine r_topi (i32_tdiv (N := 4) (by omega) (by decide)) ?_
    refine r_zald C (i / 4) (by omega) rfl rfl (by omega) dL_law_324 ?_
    refine r_topi (show _ = bI (!A.ra.testBit (i / 4)) from hI.r (i / 4) (by omega)) ?_
    refine r_if_ne (tgt := 338) C dL_law_325 (by decide) (fun c_325 => ?_) (fun c_325 => ?_)
    · -- 338
      have h1 : ¬ A.ra.testBit (i / 4) = true := by simpa using bI_1 c_325
      have hu9 : ¬ (A.ra.testBit (i / 4) = true ∧ A.ca.testBit (i % 4) = true) := fun q => h1 q.1
      refine r_bipush (v := 99) C dL_law_338 (by decide) ?_
      refine r_topi (show (99 : Int32) = i32 (uA A i) by unfold uA; rw [if_neg hu9]; exact k99) ?_
      refine r_goto (tgt := 347) C dL_law_340 (by decide) ?_
      refine r_iast C (i) (by omega) rfl rfl (by omega) dL_law_347 ?_
      refine r_st (Yv_Yv X 39 f _) ?_
      refine r_iinc (v := _) C dL_law_348 rfl (nI_1 i) ?_
      refine r_goto (tgt := 308) C dL_law_351 (by decide) ?_
      refine r_sub C (lv' := [(11, .int (nI (i + 1))), (10, .ref (G.2.1 39)), (5, .int (nI k)), (1, .ref (G.2.1 0)), (2, .ref (G.2.1 36)), (3, .ref (G.2.1 37)), (4, .ref (G.2.1 38)), (0, .ref (Gb G))]) ⟨rfl, rfl, rfl, rfl, rfl, rfl, rfl, rfl, trivial⟩ ?_
      exact ih (i + 1) _ (by omega) (fun j hj => by
        unfold upd
        by_cases e : j = i
        · rw [if_pos e, e]
        · rw [if_neg e, Zv_Yv, if_pos rfl]
          exact hf j (by omega))
    · -- 328
      have h1 : A.ra.testBit (i / 4) = true := by simpa using bI_0 c_325
      refine r_aload C dL_law_328 rfl ?_
      refine r_iload C dL_law_330 rfl ?_
      refine r_iconst (v := 4) C dL_law_332 (by decide) ?_
      refine r_irem C dL_law_333 (by decide) ?_
      refine r_topi (irem_n (N := 4) (by omega) (by decide)) ?_
      refine r_zald C (i % 4) (by omega) rfl rfl (by omega) dL_law_334 ?_
      refine r_topi (show _ = bI (!A.ca.testBit (i % 4)) from hI.c (i % 4) (by omega)) ?_
      refine r_if_eq (tgt := 343) C dL_law_335 (by decide) (fun c_335 => ?_) (fun c_335 => ?_)
      · -- 343
        have h2 : A.ca.testBit (i % 4) = true := by simpa using bI_0 c_335
        refine r_aload_n C dL_law_343 rfl rfl ?_
        refine r_iload C dL_law_344 rfl ?_
        refine r_iald C (i) (by omega) rfl rfl (by omega) dL_law_346 ?_
        refine r_topi (show _ = i32 (uA A i) by unfold uA; rw [if_pos ⟨h1, h2⟩]; exact (hI.z i (by omega)).2) ?_
        refine r_iast C (i) (by omega) rfl rfl (by omega) dL_law_347 ?_
        refine r_st (Yv_Yv X 39 f _) ?_
        refine r_iinc (v := _) C dL_law_348 rfl (nI_1 i) ?_
        refine r_goto (tgt := 308) C dL_law_351 (by decide) ?_
        refine r_sub C (lv' := [(11, .int (nI (i + 1))), (10, .ref (G.2.1 39)), (5, .int (nI k)), (1, .ref (G.2.1 0)), (2, .ref (G.2.1 36)), (3, .ref (G.2.1 37)), (4, .ref (G.2.1 38)), (0, .ref (Gb G))]) ⟨rfl, rfl, rfl, rfl, rfl, rfl, rfl, rfl, trivial⟩ ?_
        exact ih (i + 1) _ (by omega) (fun j hj => by
          unfold upd
          by_cases e : j = i
          · rw [if_pos e, e]
          · rw [if_neg e, Zv_Yv, if_pos rfl]
            exact hf j (by omega))
      · -- 338
        have h2 : ¬ A.ca.testBit (i % 4) = true := by simpa using bI_1 c_335
        have hu9 : ¬ (A.ra.testBit (i / 4) = true ∧ A.ca.testBit (i % 4) = true) := fun q => h2 q.2
        refine r_bipush (v := 99) C dL_law_338 (by decide) ?_
        refine r_topi (show (99 : Int32) = i32 (uA A i) by unfold uA; rw [if_neg hu9]; exact k99) ?_
        refine r_goto (tgt := 347) C dL_law_340 (by decide) ?_
        refine r_iast C (i) (by omega) rfl rfl (by omega) dL_law_347 ?_
        refine r_st (Yv_Yv X 39 f _) ?_
        refine r_iinc (v := _) C dL_law_348 rfl (nI_1 i) ?_
        refine r_goto (tgt := 308) C dL_law_351 (by decide) ?_
        refine r_sub C (lv' := [(11, .int (nI (i + 1))), (10, .ref (G.2.1 39)), (5, .int (nI k)), (1, .ref (G.2.1 0)), (2, .ref (G.2.1 36)), (3, .ref (G.2.1 37)), (4, .ref (G.2.1 38)), (0, .ref (Gb G))]) ⟨rfl, rfl, rfl, rfl, rfl, rfl, rfl, rfl, trivial⟩ ?_
        exact ih (i + 1) _ (by omega) (fun j hj => by
          unfold upd
          by_cases e : j = i
          · rw [if_pos e, e]
          · rw [if_neg e, Zv_Yv, if_pos rfl]
            exact hf j (by omega))
set_option maxHeartbeats 4000000 in
set_option maxRecDepth 100000 in
theorem lp_cols {l : Launch} (hfl : l.stackTraces = false) {G : Geo} {um : Nat} {J : JT} {JX : JXT} (CL : CbL l G um J JX) {A : DA} {p u0 k : Nat} (hp0 : p < 625) (hp5 : ∀ i, i < 4 → cI (kcol A.ra A.ca A.z i (kfree A.ra A.ca A.z i)) = if dg p i = 4 then -1 else nI (dg p i)) (hu0 : u0 + 4 ≤ um) (kk : ∀ X u, LInv X A → u ≤ u0 + 4 → J X u 439 [(5, .int (nI k)), (1, .ref (G.2.1 0)), (2, .ref (G.2.1 36)), (3, .ref (G.2.1 37)), (4, .ref (G.2.1 38)), (0, .ref (Gb G))] []) : ∀ n i u X, i + n = 4 → u ≤ u0 + i → LInv X A → J X u 394 [(12, .int (nI i)), (11, .int (nI p)), (10, .ref (G.2.1 39)), (5, .int (nI k)), (1, .ref (G.2.1 0)), (2, .ref (G.2.1 36)), (3, .ref (G.2.1 37)), (4, .ref (G.2.1 38)), (0, .ref (Gb G))] [] := by
  have C := CL.c
  intro n
  induction n with
  | zero =>
    intro i u X h hu hI
    have hi : i = 4 := by omega
    subst hi
    refine r_iload C dL_law_394 rfl ?_
    refine r_iconst (v := 4) C dL_law_396 (by decide) ?_
    refine r_icmp_ge (tgt := 439) C dL_law_397 (by decide) (fun c_397 => ?_) (fun c_397 => absurd ((by decide)) c_397)
    refine r_sub C (lv' := [(5, .int (nI k)), (1, .ref (G.2.1 0)), (2, .ref (G.2.1 36)), (3, .ref (G.2.1 37)), (4, .ref (G.2.1 38)), (0, .ref (Gb G))]) ⟨rfl, rfl, rfl, rfl, rfl, rfl, trivial⟩ ?_
    exact kk X u hI (by omega)
  | succ n ih =>
    intro i u X h hu hI
    have hi : i < 4 := by omega
    refine r_iload C dL_law_394 rfl ?_
    refine r_iconst (v := 4) C dL_law_396 (by decide) ?_
    refine r_icmp_ge (tgt := 439) C dL_law_397 (by decide) (fun c_397 => absurd c_397 ((nI_ge (a := i) (b := 4) (by omega) (by decide)))) (fun c_397 => ?_)
    refine r_aload_n C dL_law_400 rfl rfl ?_
    refine r_iload C dL_law_401 rfl ?_
    refine cl_RL_76 C (con_X5_columnOf l hfl _ hI.D) dL_law_403 rfl ⟨Nat.le_of_ble_eq_true rfl, Nat.le_of_ble_eq_true rfl⟩ (by omega) (Nat.le_of_ble_eq_true rfl) (fun E_403 X_403 x_403 => ?_) (fun r_403 X_403 h_403 => ?_)
    · -- thrown
      exact absurd x_403.2.2 (by rw [hI.R, inI_n (by omega), decide_eq_true (by omega)]; decide)
    obtain ⟨r9, hr9, er, rfl, hD1, hF1⟩ := h_403
    rw [hI.R] at hr9
    have er2 : i = r9 := (nI_eq (by omega) (by omega)).mp er
    subst er2
    have hI1 := hI.fr hD1 hF1
    refine r_topi (hp5 i hi) ?_
    refine r_iload C dL_law_406 rfl ?_
    refine r_iload C dL_law_408 rfl ?_
    refine cl_RL_32 C (con_L_column l hfl _ hp0 hi) dL_law_410 rfl ⟨Nat.le_of_ble_eq_true rfl, Nat.le_of_ble_eq_true rfl⟩ (by omega) (Nat.le_of_ble_eq_true rfl) (fun r_410 X_410 h_410 => ?_)
    obtain ⟨rfl, rfl⟩ := h_410
    refine r_iconst (v := 4) C dL_law_413 (by decide) ?_
    refine r_icmp_ne (tgt := 421) C dL_law_414 (by decide) (fun c_414 => ?_) (fun c_414 => ?_)
    · -- 421
      have e4 : ¬ dg p i = 4 := fun q => c_414 (by rw [q]; rfl)
      refine r_iload C dL_law_421 rfl ?_
      refine r_iload C dL_law_423 rfl ?_
      refine cl_RL_32 C (con_L_column l hfl _ hp0 hi) dL_law_425 rfl ⟨Nat.le_of_ble_eq_true rfl, Nat.le_of_ble_eq_true rfl⟩ (by omega) (Nat.le_of_ble_eq_true rfl) (fun r_425 X_425 h_425 => ?_)
      obtain ⟨rfl, rfl⟩ := h_425
      refine r_icmp_eq (tgt := 433) C dL_law_428 (by decide) (fun c_428 => ?_) (fun c_428 => absurd (by first | rw [if_pos e4] | rw [if_neg e4]) c_428)
      refine r_iinc (v := _) C dL_law_433 rfl (nI_1 i) ?_
      refine r_goto (tgt := 394) C dL_law_436 (by decide) ?_
      refine r_sub C (lv' := [(12, .int (nI (i + 1))), (11, .int (nI p)), (10, .ref (G.2.1 39)), (5, .int (nI k)), (1, .ref (G.2.1 0)), (2, .ref (G.2.1 36)), (3, .ref (G.2.1 37)), (4, .ref (G.2.1 38)), (0, .ref (Gb G))]) ⟨rfl, rfl, rfl, rfl, rfl, rfl, rfl, rfl, rfl, trivial⟩ ?_
      exact ih (i + 1) _ _ (by omega) (by omega) hI1
    · -- 417
      have e4 : dg p i = 4 := (nI_eq (b := 4) (by have := dg_lt p i; omega) (by omega)).mp c_414
      refine r_iconst (v := (-1)) C dL_law_417 (by decide) ?_
      refine r_goto (tgt := 428) C dL_law_418 (by decide) ?_
      refine r_icmp_eq (tgt := 433) C dL_law_428 (by decide) (fun c_428 => ?_) (fun c_428 => absurd (by first | rw [if_pos e4] | rw [if_neg e4]) c_428)
      refine r_iinc (v := _) C dL_law_433 rfl (nI_1 i) ?_
      refine r_goto (tgt := 394) C dL_law_436 (by decide) ?_
      refine r_sub C (lv' := [(12, .int (nI (i + 1))), (11, .int (nI p)), (10, .ref (G.2.1 39)), (5, .int (nI k)), (1, .ref (G.2.1 0)), (2, .ref (G.2.1 36)), (3, .ref (G.2.1 37)), (4, .ref (G.2.1 38)), (0, .ref (Gb G))]) ⟨rfl, rfl, rfl, rfl, rfl, rfl, rfl, rfl, rfl, trivial⟩ ?_
      exact ih (i + 1) _ _ (by omega) (by omega) hI1
set_option maxHeartbeats 4000000 in
set_option maxRecDepth 100000 in
theorem law_use {l : Launch} (hfl : l.stackTraces = false) {G : Geo} {um : Nat} {J : JT} {JX : JXT} (CL : CbL l G um J JX) (hG : Gn G = 4) {A : DA} {X : St} {u k : Nat} (hI : LInv X A) (hu : u + 4 ≤ um) (kk : ∀ X' u', LInv X' A → u' ≤ u + 4 → J X' u' 439 [(5, .int (nI k)), (1, .ref (G.2.1 0)), (2, .ref (G.2.1 36)), (3, .ref (G.2.1 37)), (4, .ref (G.2.1 38)), (0, .ref (Gb G))] []) : J X u 303 [(5, .int (nI k)), (1, .ref (G.2.1 0)), (2, .ref (G.2.1 36)), (3, .ref (G.2.1 37)), (4, .ref (G.2.1 38)), (0, .ref (Gb G))] [.ref (G.2.1 39)] := by
  have C := CL.c
  obtain ⟨p, hp0, hp1, hp2, hp3, hp4, hp5⟩ := hI.best
  refine r_astore C dL_law_303 (by decide) ?_
  refine r_iconst (v := 0) C dL_law_305 (by decide) ?_
  refine r_istore C dL_law_306 (by decide) ?_
  refine r_sub C (lv' := [(11, .int (nI 0)), (10, .ref (G.2.1 39)), (5, .int (nI k)), (1, .ref (G.2.1 0)), (2, .ref (G.2.1 36)), (3, .ref (G.2.1 37)), (4, .ref (G.2.1 38)), (0, .ref (Gb G))]) ⟨rfl, rfl, rfl, rfl, rfl, rfl, rfl, rfl, trivial⟩ ?_
  refine r_st (Yv_id X 39).symm ?_
  exact lp_use hfl CL hG hI (fun f hf => by
    have hI0 := hI.far f
    have hua : uar (Yv X 39 f) 39 (uA A) := fun i hi => by
      rw [Zv_Yv, if_pos rfl]
      exact ⟨hf i hi, uA_bd hI hi⟩
    refine r_aload C dL_law_354 rfl ?_
    refine ca_RL_67 C (con_L_best l hfl G _ hG hua) dL_law_356 rfl ⟨Nat.le_of_ble_eq_true rfl, Nat.le_of_ble_eq_true rfl⟩ (by omega) (Nat.le_of_ble_eq_true rfl) (fun r_356 X_356 h_356 => ?_)
    obtain ⟨rfl, rfl⟩ := h_356
    refine r_topi (show _ = nI p by rw [hp1, hp2]; rfl) ?_
    refine r_istore C dL_law_359 (by decide) ?_
    refine r_aload_n C dL_law_361 rfl rfl ?_
    refine cl_RL_70 C (con_X5_size l hfl _ hI0.D) dL_law_362 rfl ⟨Nat.le_of_ble_eq_true rfl, Nat.le_of_ble_eq_true rfl⟩ (by omega) (Nat.le_of_ble_eq_true rfl) (fun r_362 X_362 h_362 => ?_)
    obtain ⟨rfl, hD1, hF1⟩ := h_362
    have hI1 := hI0.fr hD1 hF1
    have hua1 : uar X_362 39 (uA A) := fun i hi => by rw [(hF1 39 (by decide)).2.1]; exact hua i hi
    refine r_iload C dL_law_365 rfl ?_
    refine r_aload C dL_law_367 rfl ?_
    refine ca_RL_35 C (con_L_sizeOf l hfl G _ hG hp0 hua1) dL_law_369 rfl ⟨Nat.le_of_ble_eq_true rfl, Nat.le_of_ble_eq_true rfl⟩ (by omega) (Nat.le_of_ble_eq_true rfl) (fun r_369 X_369 h_369 => ?_)
    obtain ⟨rfl, rfl⟩ := h_369
    refine r_icmp_ne (tgt := 389) C dL_law_372 (by decide) (fun c_372 => absurd ((congrArg i32 hp3.symm)) c_372) (fun c_372 => ?_)
    refine r_aload_n C dL_law_375 rfl rfl ?_
    refine cl_RL_73 C (con_X5_total l hfl _ hI1.D) dL_law_376 rfl ⟨Nat.le_of_ble_eq_true rfl, Nat.le_of_ble_eq_true rfl⟩ (by omega) (Nat.le_of_ble_eq_true rfl) (fun r_376 X_376 h_376 => ?_)
    obtain ⟨rfl, hD2, hF2⟩ := h_376
    have hI2 := hI1.fr hD2 hF2
    have hua2 : uar X_376 39 (uA A) := fun i hi => by rw [(hF2 39 (by decide)).2.1]; exact hua1 i hi
    refine r_iload C dL_law_379 rfl ?_
    refine r_aload C dL_law_381 rfl ?_
    refine ca_RL_48 C (con_L_costOf l hfl G _ hG hp0 hua2) dL_law_383 rfl ⟨Nat.le_of_ble_eq_true rfl, Nat.le_of_ble_eq_true rfl⟩ (by omega) (Nat.le_of_ble_eq_true rfl) (fun r_383 X_383 h_383 => ?_)
    obtain ⟨rfl, rfl⟩ := h_383
    refine r_icmp_eq (tgt := 391) C dL_law_386 (by decide) (fun c_386 => ?_) (fun c_386 => absurd (congrArg i32 hp4.symm) c_386)
    refine r_iconst (v := 0) C dL_law_391 (by decide) ?_
    refine r_istore C dL_law_392 (by decide) ?_
    refine r_sub C (lv' := [(12, .int (nI 0)), (11, .int (nI p)), (10, .ref (G.2.1 39)), (5, .int (nI k)), (1, .ref (G.2.1 0)), (2, .ref (G.2.1 36)), (3, .ref (G.2.1 37)), (4, .ref (G.2.1 38)), (0, .ref (Gb G))]) ⟨rfl, rfl, rfl, rfl, rfl, rfl, rfl, rfl, rfl, trivial⟩ ?_
    exact lp_cols hfl CL hp0 hp5 hu kk 4 0 _ _ (by omega) (by omega) hI2) 16 0 _ (by omega) (fun j hj => absurd hj (Nat.not_lt_zero j))
