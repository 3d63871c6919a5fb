/-! ===== the law's start ===== -/
theorem st_str : lw_str.all (fun w => match w with | .stringRef o _ _ => o == "AssignmentDesk" | _ => true) = true := by decide +kernel
theorem st_c {s : State} {args : Array Value} (hts : ∀ w ∈ lw_all, w.before args s = true) : ∀ c : Nat, ∃ d : ClassId × (Nat → Nat), ∀ q, ncl[c]? = some q → u_Kn s q.1 q.2.1 q.2.2 d.1 d.2 := by
  intro c
  have go : ∀ {C : String} {T : u_T} {N : Nat}, (∀ w ∈ u_ws C T N, w ∈ lw_all) → Cond.instantiable C N ∈ lw_all → ncl[c]? = some (C, T, N) → ∃ d : ClassId × (Nat → Nat), ∀ q, ncl[c]? = some q → u_Kn s q.1 q.2.1 q.2.2 d.1 d.2 := fun h1 h2 h3 => by
    obtain ⟨cC, iS, h⟩ := u_known hts h1 (hts _ h2)
    refine ⟨(cC, iS), fun q hq => ?_⟩
    rw [h3] at hq
    cases hq
    exact h
  by_cases hc : c < 6
  · rcases (show c = 0 ∨ c = 1 ∨ c = 2 ∨ c = 3 ∨ c = 4 ∨ c = 5 by omega) with rfl | rfl | rfl | rfl | rfl | rfl
    · exact go w_X5 nw_RX5 rfl
    · exact go w_X4 nw_RX4 rfl
    · exact go w_X1 nw_RX1 rfl
    · exact go w_X3 nw_RX3 rfl
    · exact go w_X2 nw_RX2 rfl
    · exact go w_X0 nw_RX0 rfl
  · refine ⟨(0, fun _ => 0), fun q hq => ?_⟩
    have := (List.getElem?_eq_some_iff.mp hq).1
    exact absurd this hc
theorem st_a {s : State} {args : Array Value} {ty : FieldType} (h : (Cond.arrayClass ty).before args s = true) (hr : ∀ c, s.vm.findClass ("[" ++ ty.toString) = some c → va_RA s c ty) : ∃ c, ArrOfT s c ty ∧ va_RA s c ty := by
  obtain ⟨c, k, comp, h1, h2, h3⟩ := Cond.arrayClass_spec h
  exact ⟨c, fun n z => ⟨fun k h => (by cases h), k, h2, comp, h3⟩, hr c h1⟩
theorem st_K {s : State} {args : Array Value} (hts : ∀ w ∈ lw_tbl, w.before args s = true) : ∃ (D : va_G) (tz : Nat → ClassId), ∀ (f : Nat → Nat) (sc : (Nat × Nat × (Nat → Int32)) × Nat), va_K D ncl (gtys (D, f, tz, sc)) s := by
  have htg : ∀ w ∈ lw_all, w.before args s = true := fun w h => hts w (List.mem_filter.mp h).1
  obtain ⟨d, hd⟩ := Classical.axiomOfChoice (st_c htg)
  obtain ⟨aI, hI, rI⟩ := st_a (htg _ in_aI) (fun c h => h)
  obtain ⟨aJ, hJ, rJ⟩ := st_a (htg _ in_aJ) (fun c h => h)
  obtain ⟨aZ, hZ, rZ⟩ := st_a (htg _ in_aZ) (fun c h => h)
  obtain ⟨comp, aA, k, h1, h2, h3, h4⟩ := Cond.arrayOver_specA (t := .int) (hts (.arrayOver (.array .int)) (List.mem_of_getElem? (i := 94) (by decide +kernel)))
  refine ⟨(fun c => (d c).1, fun c => (d c).2), fun t => if t = 0 then aI else if t = 1 then aJ else if t = 2 then aZ else aA, fun f sc => ⟨fun c q hq => hd c q hq, fun t q hq => ?_⟩⟩
  have ht : t < 4 := (List.getElem?_eq_some_iff.mp hq).1
  rcases (show t = 0 ∨ t = 1 ∨ t = 2 ∨ t = 3 by omega) with rfl | rfl | rfl | rfl
  · cases hq; exact ⟨hI, rI⟩
  · cases hq; exact ⟨hJ, rJ⟩
  · cases hq; exact ⟨hZ, rZ⟩
  · cases hq; exact ⟨fun n z => ⟨fun k h => (by cases h), k, h2, comp, h3⟩, h4⟩
theorem st_Nw {s : State} {args : Array Value} {f : Nat → Nat} {D : va_G} {tz : Nat → ClassId} {sc : (Nat × Nat × (Nat → Int32)) × Nat} (hts : ∀ w ∈ lw_tbl, w.before args s = true) (hK : va_K D ncl (gtys (D, f, tz, sc)) s) : zNw s := by
  refine ⟨fun w hw => va_Nw.of (nst_ot hw) (hts w (List.mem_filter.mp hw).1), fun own k tx hw => ?_⟩
  have ho := List.all_eq_true.mp st_str _ hw
  have ho : own = "AssignmentDesk" := by simpa using ho
  subst ho
  have h := hts _ (List.mem_filter.mp hw).1
  obtain ⟨-, hfc, -⟩ := hK.1 0 _ rfl
  obtain ⟨_, _, _, a, -, -, -, -, -, hev⟩ := Cond.stringRef_spec hfc h
  exact ⟨a, vk_R.of h hev⟩
theorem st_Zs {s : State} {args : Array Value} (hts : ∀ w ∈ lw_tbl, w.before args s = true) (hgv : (Jvm.Cond.and given_1 narrow_1).before args s = true) : zZs (fun q => s.heap.size ≤ q) s s.heap := by
  have hs := flat_of_before _ hgv
  have hA : ∀ a : Nat, a < s.heap.size → ¬ s.heap.size ≤ a := fun a h => by omega
  exact ⟨vx_Zqof (hts _ (List.mem_of_getElem? (i := 208) (by decide +kernel))) (hts _ (List.mem_of_getElem? (i := 21) (by decide +kernel))) (hs _ (by decide +kernel)) hA, vx_Zqof (hts _ (List.mem_of_getElem? (i := 210) (by decide +kernel))) (hts _ (List.mem_of_getElem? (i := 21) (by decide +kernel))) (hs _ (by decide +kernel)) hA⟩
set_option maxHeartbeats 4000000 in
set_option maxRecDepth 100000 in
/-- the law's object and its costs: 37 cells, 14649 words -/
theorem law_new {l : Launch} {G : Geo} {nm : String} {J : JK} {b : Nat} (C : Cq l RL cL_law 13 G nm 12 432 600130 7301080 J) (kk : ∀ (q1 : Nat) (q2 : Nat) (q3 : Nat) (f4 : Nat → Int32) (q5 : Nat) (q6 : Nat) (q7 : Nat) (q8 : Nat) (q9 : Nat) (q10 : Nat) (q11 : Nat) (q12 : Nat) (r13 : Nat → Nat) (q14 : Nat) (q15 : Nat) (q16 : Nat) (q17 : Nat) (q18 : Nat) (q19 : Nat) (q20 : Nat) (q21 : Nat) (q22 : Nat) (q23 : Nat) (q24 : Nat) (q25 : Nat) (q26 : Nat) (q27 : Nat) (q28 : Nat), (∀ k, k < 100 → f4 k = 20000) → J [(q1, .inr (0, [.ref q2, .ref q5, .ref q9, .ref q17, .int 0])), (q2, .inr (1, [.ref q3, .int 0, .int 0, .int 0, .int 0])), (q3, .inl (G.2.2.1 0, 100, .inl f4)), (q5, .inr (2, [.ref q6, .ref q7, .ref q8, .int 0])), (q6, .inl (G.2.2.1 0, 800, .inl (fun _ => 0))), (q7, .inl (G.2.2.1 0, 8, .inl (fun _ => 0))), (q8, .inl (G.2.2.1 0, 8, .inl (fun _ => 0))), (q9, .inr (3, [.ref q10, .ref q11, .int 0, .ref q12, .ref q14, .ref q15, .ref q16, .int 0])), (q10, .inl (G.2.2.1 0, 100, .inl (fun _ => 0))), (q11, .inl (G.2.2.1 0, 10, .inl (fun _ => 0))), (q12, .inl (G.2.2.1 3, 11, .inr (.inr (.inr (.inr (fun i => if i < 11 then some (r13 i) else none)))))), (r13 0, .inl (G.2.2.1 0, 1024, .inl (fun _ => 0))), (r13 1, .inl (G.2.2.1 0, 1024, .inl (fun _ => 0))), (r13 2, .inl (G.2.2.1 0, 1024, .inl (fun _ => 0))), (r13 3, .inl (G.2.2.1 0, 1024, .inl (fun _ => 0))), (r13 4, .inl (G.2.2.1 0, 1024, .inl (fun _ => 0))), (r13 5, .inl (G.2.2.1 0, 1024, .inl (fun _ => 0))), (r13 6, .inl (G.2.2.1 0, 1024, .inl (fun _ => 0))), (r13 7, .inl (G.2.2.1 0, 1024, .inl (fun _ => 0))), (r13 8, .inl (G.2.2.1 0, 1024, .inl (fun _ => 0))), (r13 9, .inl (G.2.2.1 0, 1024, .inl (fun _ => 0))), (r13 10, .inl (G.2.2.1 0, 1024, .inl (fun _ => 0))), (q14, .inl (G.2.2.1 0, 1024, .inl (fun _ => 0))), (q15, .inl (G.2.2.1 0, 1024, .inl (fun _ => 0))), (q16, .inl (G.2.2.1 0, 10, .inl (fun _ => 0))), (q17, .inr (4, [.ref q18, .ref q23])), (q18, .inr (5, [.ref q19, .ref q20, .ref q21, .ref q22, .int 0])), (q19, .inl (G.2.2.1 0, 30, .inl (fun _ => 0))), (q20, .inl (G.2.2.1 1, 30, .inr (.inl (fun _ => 0)))), (q21, .inl (G.2.2.1 0, 30, .inl (fun _ => 0))), (q22, .inl (G.2.2.1 0, 30, .inl (fun _ => 0))), (q23, .inr (5, [.ref q24, .ref q25, .ref q26, .ref q27, .int 0])), (q24, .inl (G.2.2.1 0, 30, .inl (fun _ => 0))), (q25, .inl (G.2.2.1 1, 30, .inr (.inl (fun _ => 0)))), (q26, .inl (G.2.2.1 0, 30, .inl (fun _ => 0))), (q27, .inl (G.2.2.1 0, 30, .inl (fun _ => 0))), (q28, .inl (G.2.2.1 0, 16, .inl (fun _ => 0)))] 37 14649 13 [(2, .ref q28), (1, .ref q1), (0, .ref b)] []) : J [] 0 0 0 [(0, .ref b)] [] := by
  refine k_new C tyX5 w_X5 tyX5_ok ck_RL_10 nw_RX5 ik_RX5 (ci := 0) rfl [.null, .null, .null, .null, .int 0] (fun j hj => by rcases (show j = 0 ∨ j = 1 ∨ j = 2 ∨ j = 3 ∨ j = 4 by omega) with rfl | rfl | rfl | rfl | rfl <;> rfl) (Nat.le_of_ble_eq_true rfl) (Nat.le_of_ble_eq_true rfl) dL_law_0 (fun q1 => ?_)
  refine k_n (ws' := [(q1, .inr (0, [.null, .null, .null, .null, .int 0]))]) (c2 := 1) (s2 := 5) rfl rfl rfl ?_
  refine k_dup C dL_law_3 rfl ?_
  refine k_callI C (con_X5_init l G q1) [0] [] rfl (by decide) rfl (by decide) (by decide) cw_X5_init im_X5_init ik_RX5 lk_RL_51 rfl ⟨by decide, by decide, by decide +kernel⟩ dL_law_4 ⟨Nat.le_of_ble_eq_true rfl, Nat.le_of_ble_eq_true rfl⟩ (Nat.le_of_ble_eq_true rfl) (Nat.le_of_ble_eq_true rfl) (Nat.le_of_ble_eq_true rfl) (wr := []) (fun w9 hw9 => ?_)
  obtain ⟨q2, q3, f4, q5, q6, q7, q8, q9, q10, q11, q12, r13, q14, q15, q16, q17, q18, q19, q20, q21, q22, q23, q24, q25, q26, q27, hf4, rfl⟩ := hw9
  refine k_n (ws' := [(q1, .inr (0, [.ref q2, .ref q5, .ref q9, .ref q17, .int 0])), (q2, .inr (1, [.ref q3, .int 0, .int 0, .int 0, .int 0])), (q3, .inl (G.2.2.1 0, 100, .inl f4)), (q5, .inr (2, [.ref q6, .ref q7, .ref q8, .int 0])), (q6, .inl (G.2.2.1 0, 800, .inl (fun _ => 0))), (q7, .inl (G.2.2.1 0, 8, .inl (fun _ => 0))), (q8, .inl (G.2.2.1 0, 8, .inl (fun _ => 0))), (q9, .inr (3, [.ref q10, .ref q11, .int 0, .ref q12, .ref q14, .ref q15, .ref q16, .int 0])), (q10, .inl (G.2.2.1 0, 100, .inl (fun _ => 0))), (q11, .inl (G.2.2.1 0, 10, .inl (fun _ => 0))), (q12, .inl (G.2.2.1 3, 11, .inr (.inr (.inr (.inr (fun i => if i < 11 then some (r13 i) else none)))))), (r13 0, .inl (G.2.2.1 0, 1024, .inl (fun _ => 0))), (r13 1, .inl (G.2.2.1 0, 1024, .inl (fun _ => 0))), (r13 2, .inl (G.2.2.1 0, 1024, .inl (fun _ => 0))), (r13 3, .inl (G.2.2.1 0, 1024, .inl (fun _ => 0))), (r13 4, .inl (G.2.2.1 0, 1024, .inl (fun _ => 0))), (r13 5, .inl (G.2.2.1 0, 1024, .inl (fun _ => 0))), (r13 6, .inl (G.2.2.1 0, 1024, .inl (fun _ => 0))), (r13 7, .inl (G.2.2.1 0, 1024, .inl (fun _ => 0))), (r13 8, .inl (G.2.2.1 0, 1024, .inl (fun _ => 0))), (r13 9, .inl (G.2.2.1 0, 1024, .inl (fun _ => 0))), (r13 10, .inl (G.2.2.1 0, 1024, .inl (fun _ => 0))), (q14, .inl (G.2.2.1 0, 1024, .inl (fun _ => 0))), (q15, .inl (G.2.2.1 0, 1024, .inl (fun _ => 0))), (q16, .inl (G.2.2.1 0, 10, .inl (fun _ => 0))), (q17, .inr (4, [.ref q18, .ref q23])), (q18, .inr (5, [.ref q19, .ref q20, .ref q21, .ref q22, .int 0])), (q19, .inl (G.2.2.1 0, 30, .inl (fun _ => 0))), (q20, .inl (G.2.2.1 1, 30, .inr (.inl (fun _ => 0)))), (q21, .inl (G.2.2.1 0, 30, .inl (fun _ => 0))), (q22, .inl (G.2.2.1 0, 30, .inl (fun _ => 0))), (q23, .inr (5, [.ref q24, .ref q25, .ref q26, .ref q27, .int 0])), (q24, .inl (G.2.2.1 0, 30, .inl (fun _ => 0))), (q25, .inl (G.2.2.1 1, 30, .inr (.inl (fun _ => 0)))), (q26, .inl (G.2.2.1 0, 30, .inl (fun _ => 0))), (q27, .inl (G.2.2.1 0, 30, .inl (fun _ => 0)))]) (c2 := 36) (s2 := 14633) rfl rfl rfl ?_
  refine k_astore_n C dL_law_7 rfl (by decide) ?_
  refine k_bipush (v := 16) C dL_law_8 (by decide) ?_
  refine k_newa C (ty := .int) 0 rfl in_aI rfl 16 (16, .inl (fun _ => 0)) (fun c9 => by first | exact (vp_cell_i _ _ _).trans rfl | exact (vp_cell_l _ _ _).trans rfl | rfl) (by decide) (by decide) (by decide) (Nat.le_of_ble_eq_true rfl) (Nat.le_of_ble_eq_true rfl) dL_law_10 (fun q28 => ?_)
  refine k_n (ws' := [(q1, .inr (0, [.ref q2, .ref q5, .ref q9, .ref q17, .int 0])), (q2, .inr (1, [.ref q3, .int 0, .int 0, .int 0, .int 0])), (q3, .inl (G.2.2.1 0, 100, .inl f4)), (q5, .inr (2, [.ref q6, .ref q7, .ref q8, .int 0])), (q6, .inl (G.2.2.1 0, 800, .inl (fun _ => 0))), (q7, .inl (G.2.2.1 0, 8, .inl (fun _ => 0))), (q8, .inl (G.2.2.1 0, 8, .inl (fun _ => 0))), (q9, .inr (3, [.ref q10, .ref q11, .int 0, .ref q12, .ref q14, .ref q15, .ref q16, .int 0])), (q10, .inl (G.2.2.1 0, 100, .inl (fun _ => 0))), (q11, .inl (G.2.2.1 0, 10, .inl (fun _ => 0))), (q12, .inl (G.2.2.1 3, 11, .inr (.inr (.inr (.inr (fun i => if i < 11 then some (r13 i) else none)))))), (r13 0, .inl (G.2.2.1 0, 1024, .inl (fun _ => 0))), (r13 1, .inl (G.2.2.1 0, 1024, .inl (fun _ => 0))), (r13 2, .inl (G.2.2.1 0, 1024, .inl (fun _ => 0))), (r13 3, .inl (G.2.2.1 0, 1024, .inl (fun _ => 0))), (r13 4, .inl (G.2.2.1 0, 1024, .inl (fun _ => 0))), (r13 5, .inl (G.2.2.1 0, 1024, .inl (fun _ => 0))), (r13 6, .inl (G.2.2.1 0, 1024, .inl (fun _ => 0))), (r13 7, .inl (G.2.2.1 0, 1024, .inl (fun _ => 0))), (r13 8, .inl (G.2.2.1 0, 1024, .inl (fun _ => 0))), (r13 9, .inl (G.2.2.1 0, 1024, .inl (fun _ => 0))), (r13 10, .inl (G.2.2.1 0, 1024, .inl (fun _ => 0))), (q14, .inl (G.2.2.1 0, 1024, .inl (fun _ => 0))), (q15, .inl (G.2.2.1 0, 1024, .inl (fun _ => 0))), (q16, .inl (G.2.2.1 0, 10, .inl (fun _ => 0))), (q17, .inr (4, [.ref q18, .ref q23])), (q18, .inr (5, [.ref q19, .ref q20, .ref q21, .ref q22, .int 0])), (q19, .inl (G.2.2.1 0, 30, .inl (fun _ => 0))), (q20, .inl (G.2.2.1 1, 30, .inr (.inl (fun _ => 0)))), (q21, .inl (G.2.2.1 0, 30, .inl (fun _ => 0))), (q22, .inl (G.2.2.1 0, 30, .inl (fun _ => 0))), (q23, .inr (5, [.ref q24, .ref q25, .ref q26, .ref q27, .int 0])), (q24, .inl (G.2.2.1 0, 30, .inl (fun _ => 0))), (q25, .inl (G.2.2.1 1, 30, .inr (.inl (fun _ => 0)))), (q26, .inl (G.2.2.1 0, 30, .inl (fun _ => 0))), (q27, .inl (G.2.2.1 0, 30, .inl (fun _ => 0))), (q28, .inl (G.2.2.1 0, 16, .inl (fun _ => 0)))]) (c2 := 37) (s2 := 14649) rfl rfl rfl ?_
  refine k_astore_n C dL_law_12 rfl (by decide) ?_
  exact kk q1 q2 q3 f4 q5 q6 q7 q8 q9 q10 q11 q12 r13 q14 q15 q16 q17 q18 q19 q20 q21 q22 q23 q24 q25 q26 q27 q28 hf4
/-! ===== the pool is there ===== -/
def X00 (f : Nat → Int32) : St := (fun _ _ => 0, fun k => if k = 2 then f else fun _ => 0, fun _ _ => 0, fun _ j => if j = 0 then 26 else 31)
def A00 : DA := (0, 0, 0, 0, fun _ => 20000, [], [])
theorem aok_00 : AOk A00 := ⟨by decide, by decide, ⟨by decide, by decide, fun k _ => by show (-10000 : Int) ≤ 20000 ∧ (20000 : Int) ≤ 20000; decide, fun k _ _ => rfl⟩, by decide, fun i x h => by simp [A00, DA.lv] at h⟩
theorem di_00 {f : Nat → Int32} (hf : ∀ k, k < 100 → f k = 20000) : DInv (X00 f) A00 :=
  ⟨rfl, rfl, ⟨rfl, rfl, by decide, by decide, fun k hk => ⟨(hf k hk).trans (by show (20000 : Int32) = i32 20000; decide), aok_00.t.2.2.1 k hk⟩⟩, rfl, fun i x h => by simp [A00, DA.lv] at h, Or.inl ⟨rfl, rfl⟩, ⟨rfl, by decide, fun i e h => by simp [A00, DA.rl] at h⟩, fun S _ => rfl, Or.inl rfl, aok_00⟩
def g00 (L : List Nat) : Nat → Nat := fun k => L.getD k 0
set_option maxHeartbeats 4000000 in
set_option maxRecDepth 100000 in
theorem pool_00 {D : va_G} {tz : Nat → ClassId} {b L : Nat} {xs : Nat → Int32} (q1 : Nat) (q2 : Nat) (q3 : Nat) (f4 : Nat → Int32) (q5 : Nat) (q6 : Nat) (q7 : Nat) (q8 : Nat) (q9 : Nat) (q10 : Nat) (q11 : Nat) (q12 : Nat) (r13 : Nat → Nat) (q14 : Nat) (q15 : Nat) (q16 : Nat) (q17 : Nat) (q18 : Nat) (q19 : Nat) (q20 : Nat) (q21 : Nat) (q22 : Nat) (q23 : Nat) (q24 : Nat) (q25 : Nat) (q26 : Nat) (q27 : Nat) (q28 : Nat) : [0, 1, 2, 3, 4, 5, 6, 7, 8, 9, 22, 23, 24, 10, 11, 12, 13, 14, 15, 16, 17, 18, 19, 20, 21, 25, 26, 27, 28, 29, 30, 31, 32, 33, 34, 35, 36].map (fun i => ([(q1, .inr (0, [.ref q2, .ref q5, .ref q9, .ref q17, .int 0])), (q2, .inr (1, [.ref q3, .int 0, .int 0, .int 0, .int 0])), (q3, .inl (tz 0, 100, .inl f4)), (q5, .inr (2, [.ref q6, .ref q7, .ref q8, .int 0])), (q6, .inl (tz 0, 800, .inl (fun _ => 0))), (q7, .inl (tz 0, 8, .inl (fun _ => 0))), (q8, .inl (tz 0, 8, .inl (fun _ => 0))), (q9, .inr (3, [.ref q10, .ref q11, .int 0, .ref q12, .ref q14, .ref q15, .ref q16, .int 0])), (q10, .inl (tz 0, 100, .inl (fun _ => 0))), (q11, .inl (tz 0, 10, .inl (fun _ => 0))), (q12, .inl (tz 3, 11, .inr (.inr (.inr (.inr (fun i => if i < 11 then some (r13 i) else none)))))), (r13 0, .inl (tz 0, 1024, .inl (fun _ => 0))), (r13 1, .inl (tz 0, 1024, .inl (fun _ => 0))), (r13 2, .inl (tz 0, 1024, .inl (fun _ => 0))), (r13 3, .inl (tz 0, 1024, .inl (fun _ => 0))), (r13 4, .inl (tz 0, 1024, .inl (fun _ => 0))), (r13 5, .inl (tz 0, 1024, .inl (fun _ => 0))), (r13 6, .inl (tz 0, 1024, .inl (fun _ => 0))), (r13 7, .inl (tz 0, 1024, .inl (fun _ => 0))), (r13 8, .inl (tz 0, 1024, .inl (fun _ => 0))), (r13 9, .inl (tz 0, 1024, .inl (fun _ => 0))), (r13 10, .inl (tz 0, 1024, .inl (fun _ => 0))), (q14, .inl (tz 0, 1024, .inl (fun _ => 0))), (q15, .inl (tz 0, 1024, .inl (fun _ => 0))), (q16, .inl (tz 0, 10, .inl (fun _ => 0))), (q17, .inr (4, [.ref q18, .ref q23])), (q18, .inr (5, [.ref q19, .ref q20, .ref q21, .ref q22, .int 0])), (q19, .inl (tz 0, 30, .inl (fun _ => 0))), (q20, .inl (tz 1, 30, .inr (.inl (fun _ => 0)))), (q21, .inl (tz 0, 30, .inl (fun _ => 0))), (q22, .inl (tz 0, 30, .inl (fun _ => 0))), (q23, .inr (5, [.ref q24, .ref q25, .ref q26, .ref q27, .int 0])), (q24, .inl (tz 0, 30, .inl (fun _ => 0))), (q25, .inl (tz 1, 30, .inr (.inl (fun _ => 0)))), (q26, .inl (tz 0, 30, .inl (fun _ => 0))), (q27, .inl (tz 0, 30, .inl (fun _ => 0))), (q28, .inl (tz 0, 16, .inl (fun _ => 0)))] : va_W)[i]?) = (wsX (D, g00 [q1, q2, q3, q5, q6, q7, q8, q9, q10, q11, q14, q15, q16, q12, r13 0, r13 1, r13 2, r13 3, r13 4, r13 5, r13 6, r13 7, r13 8, r13 9, r13 10, q17, q18, q19, q20, q21, q22, q23, q24, q25, q26, q27, q28], tz, ((b, L, xs), 1)) (X00 f4)).map some := by
  have eR : (fun i => if i < 11 then some (r13 i) else none) = (fun i => if i < 11 then some (g00 [q1, q2, q3, q5, q6, q7, q8, q9, q10, q11, q14, q15, q16, q12, r13 0, r13 1, r13 2, r13 3, r13 4, r13 5, r13 6, r13 7, r13 8, r13 9, r13 10, q17, q18, q19, q20, q21, q22, q23, q24, q25, q26, q27, q28] (14 + i)) else none) := by
    funext i
    by_cases h : i < 11
    · rw [if_pos h, if_pos h]
      rcases (show i = 0 ∨ i = 1 ∨ i = 2 ∨ i = 3 ∨ i = 4 ∨ i = 5 ∨ i = 6 ∨ i = 7 ∨ i = 8 ∨ i = 9 ∨ i = 10 by omega) with rfl | rfl | rfl | rfl | rfl | rfl | rfl | rfl | rfl | rfl | rfl <;> rfl
    · rw [if_neg h, if_neg h]
  rw [eR]
  rfl
set_option maxHeartbeats 4000000 in
set_option maxRecDepth 100000 in
/-- behind the constructors -/
theorem law_pre {l : Launch} (hfl : l.stackTraces = false) {um : Nat} {G : Geo} {J : JT} {JX : JXT} {X : St} {A : DA} (CL : CbL l G um J JX) (hG : Gn G = 1) (hGl : Gl G ≤ 260) (hum : 200 ≤ um) (hD : DInv X A) (hR : A.R = 0) (hC : A.C = 0) (hra : A.ra = 0) (hca : A.ca = 0) (hz : ∀ i, i < 100 → A.z i = 20000) : J X 0 13 [(2, .ref (G.2.1 36)), (1, .ref (G.2.1 0)), (0, .ref (Gb G))] [] := by
  have C := CL.c
  refine r_aload_n C dL_law_13 rfl rfl ?_
  refine r_aload_n C dL_law_14 rfl rfl ?_
  refine r_iconst (v := 0) C dL_law_15 (by decide) ?_
  refine r_aload_n C dL_law_16 rfl rfl ?_
  refine ca_RL_52 C (con_L_build l hfl G _ hG hGl hD hR hC hra hca hz) dL_law_17 rfl ⟨Nat.le_of_ble_eq_true rfl, Nat.le_of_ble_eq_true rfl⟩ (by omega) (Nat.le_of_ble_eq_true rfl) (fun r_17 X_17 h_17 => ?_)
  obtain ⟨rfl, A1, hB⟩ := h_17
  obtain ⟨hD1, hR1, hC1, hra1, hca1, hz1⟩ := hB
  refine r_if_ne (tgt := 25) C dL_law_20 (by decide) (fun c_20 => ?_) (fun c_20 => absurd c_20 ((by decide)))
  refine r_iconst (v := 4) C dL_law_25 (by decide) ?_
  refine r_newZ CL 37 (by omega) (by decide) rfl hD1.fz (by omega) dL_law_26 (fun q1 J1 JX1 CL1 => ?_)
  have C1 := CL1.c
  have hD2 : DInv (Yv X_17 37 (fun _ => 0)) A1 := hD1.far _ (by decide)
  refine r_astore_n C1 dL_law_28 rfl (by decide) ?_
  refine r_iconst (v := 4) C1 dL_law_29 (by decide) ?_
  refine r_newZ CL1 38 rfl (by decide) rfl hD2.fz (by omega) dL_law_30 (fun q2 J2 JX2 CL2 => ?_)
  have C2 := CL2.c
  have hI : LInv (Yv (Yv X_17 37 (fun _ => 0)) 38 (fun _ => 0)) A1 := ⟨hD2.far _ (by decide), hR1, hC1, fun i hi => (hz1 i hi).1 hi, fun r hr => by
    show (0 : Int32) = bI (!A1.ra.testBit r)
    rw [hra1]
    rcases (show r = 0 ∨ r = 1 ∨ r = 2 ∨ r = 3 by omega) with rfl | rfl | rfl | rfl <;> decide, fun r hr => by
    show (0 : Int32) = bI (!A1.ca.testBit r)
    rw [hca1]
    rcases (show r = 0 ∨ r = 1 ∨ r = 2 ∨ r = 3 by omega) with rfl | rfl | rfl | rfl <;> decide⟩
  refine r_astore C2 dL_law_32 (by decide) ?_
  refine r_iconst (v := 0) C2 dL_law_34 (by decide) ?_
  refine r_istore C2 dL_law_35 (by decide) ?_
  refine r_sub C2 (lv' := [(5, .int (nI 0)), (1, .ref ((Gp (Gp G 37 q1) 38 q2).2.1 0)), (2, .ref ((Gp (Gp G 37 q1) 38 q2).2.1 36)), (3, .ref ((Gp (Gp G 37 q1) 38 q2).2.1 37)), (4, .ref ((Gp (Gp G 37 q1) 38 q2).2.1 38)), (0, .ref (Gb (Gp (Gp G 37 q1) 38 q2)))]) ⟨rfl, rfl, rfl, rfl, rfl, rfl, trivial⟩ ?_
  exact law_loop hfl 8 0 _ _ J2 JX2 _ A1 CL2 rfl hGl rfl (by omega) hI
set_option maxHeartbeats 4000000 in
set_option maxRecDepth 100000 in
/-- from the entry, for every script of at most 260 ints, the law comes to its end with true -/
theorem whole_start {p : Program} {e : Env} {s : State} {m : MethodId} {below : List Frame} {meth : Method} {c : Code} (l : Launch) (hflags : l.flags = flags0) {b L : Nat} {xs : Nat → Int32} (hL : L ≤ 260) (C0 : lw_At p s m meth c b L xs) : W p l e room_1 s m #[Value.ref b] below meth c s.heap [] 0 0 (lw_Z below #[Value.ref b] s) (entryFrame m ([Value.ref b] : List Value).toArray 13) := by
  obtain ⟨hx, hb, hr, hml, hown, hts, hX, hbl, hlocks, hgv⟩ := C0
  have htg : ∀ w ∈ lw_all, w.before #[Value.ref b] s = true := fun w h => hts w (List.mem_filter.mp h).1
  have hfl : l.stackTraces = false := by
    unfold Launch.stackTraces
    rw [hflags]
    decide +kernel
  obtain ⟨D, tz, hK⟩ := st_K hts
  have hNw := st_Nw hts (hK (fun _ => 0) ((b, L, xs), 1))
  have hZs := st_Zs hts hgv
  have hAO : va_AOA .int s := va_AOA.of (hts (.arrayOver (.array .int)) (List.mem_of_getElem? (i := 94) (by decide +kernel)))
  have hl := lv_entry ([.ref b] : List Value) (n := 13) (Nat.le_of_ble_eq_true rfl)
  rw [lg_entry_eq]
  have hlv : lv_args 0 ([.ref b] : List Value) = [(0, .ref b)] := rfl
  rw [hlv] at hl
  have CQ : Cq l RL cL_law 13 (D, (fun _ => 0), tz, ((b, L, xs), 1)) meth.name 12 432 600130 7301080 (Jk p l e room_1 s m #[Value.ref b] below meth c (D, (fun _ => 0), tz, ((b, L, xs), 1)) (fun q => s.heap.size ≤ q) 13 (lw_Z below #[Value.ref b] s)) :=
    ⟨p, e, room_1, s, m, #[Value.ref b], below, meth, c, _, _, ⟨hx, hb, hml, hown, htg, hK _ _, hNw, hAO, fun q h => h, rfl, rfl, rfl, rfl, rfl⟩, rfl⟩
  refine law_new CQ (fun q1 q2 q3 f4 q5 q6 q7 q8 q9 q10 q11 q12 r13 q14 q15 q16 q17 q18 q19 q20 q21 q22 q23 q24 q25 q26 q27 q28 hf4 => ?_) s.heap [] _ (fun k q h => by simp at h) ⟨fun i j p q h => by simp at h, fun k q h => by simp at h⟩ va_S.rf (lvOk_of hl)
  intro H locs ls hP hD hS hl9
  have hP1 := subP hP _ (pool_00 (D := D) (tz := tz) (b := b) (L := L) (xs := xs) q1 q2 q3 f4 q5 q6 q7 q8 q9 q10 q11 q12 r13 q14 q15 q16 q17 q18 q19 q20 q21 q22 q23 q24 q25 q26 q27 q28)
  have hD1 := hD.sub _ (by decide +kernel) (pool_00 (D := D) (tz := tz) (b := b) (L := L) (xs := xs) q1 q2 q3 f4 q5 q6 q7 q8 q9 q10 q11 q12 r13 q14 q15 q16 q17 q18 q19 q20 q21 q22 q23 q24 q25 q26 q27 q28)
  have hSx : zSx (D, g00 [q1, q2, q3, q5, q6, q7, q8, q9, q10, q11, q14, q15, q16, q12, r13 0, r13 1, r13 2, r13 3, r13 4, r13 5, r13 6, r13 7, r13 8, r13 9, r13 10, q17, q18, q19, q20, q21, q22, q23, q24, q25, q26, q27, q28], tz, ((b, L, xs), 1)) (fun q => s.heap.size ≤ q) s := ⟨hX, hbl, fun q => absurd q (Nat.not_le.mpr hbl)⟩
  have CL : CbL l (D, g00 [q1, q2, q3, q5, q6, q7, q8, q9, q10, q11, q14, q15, q16, q12, r13 0, r13 1, r13 2, r13 3, r13 4, r13 5, r13 6, r13 7, r13 8, r13 9, r13 10, q17, q18, q19, q20, q21, q22, q23, q24, q25, q26, q27, q28], tz, ((b, L, xs), 1)) 1000 (Jw p l e room_1 s m #[Value.ref b] below meth c (D, g00 [q1, q2, q3, q5, q6, q7, q8, q9, q10, q11, q14, q15, q16, q12, r13 0, r13 1, r13 2, r13 3, r13 4, r13 5, r13 6, r13 7, r13 8, r13 9, r13 10, q17, q18, q19, q20, q21, q22, q23, q24, q25, q26, q27, q28], tz, ((b, L, xs), 1)) (fun q => s.heap.size ≤ q) 13 37 14649 (lw_Z below #[Value.ref b] s)) (Jx p l e room_1 s m #[Value.ref b] below meth c (D, g00 [q1, q2, q3, q5, q6, q7, q8, q9, q10, q11, q14, q15, q16, q12, r13 0, r13 1, r13 2, r13 3, r13 4, r13 5, r13 6, r13 7, r13 8, r13 9, r13 10, q17, q18, q19, q20, q21, q22, q23, q24, q25, q26, q27, q28], tz, ((b, L, xs), 1)) (fun q => s.heap.size ≤ q) 13 37 14649 (lw_Z below #[Value.ref b] s)) :=
    ⟨p, e, s, m, below, meth, c, 37, 14649, ⟨hx, hb, hml, hown, htg, hK _ _, hNw, fun q h => h, hZs, hfl, rfl, rfl, by decide, by decide, hSx⟩, hr, hlocks, rfl, rfl⟩
  exact law_pre hfl CL rfl hL (by decide) (di_00 hf4) rfl rfl rfl rfl (fun _ _ => rfl) H locs ls hP1 hD1 hS hl9
