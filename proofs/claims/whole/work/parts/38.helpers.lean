/-! ===== the law's helpers: methods that catch ===== -/
def ncs : List (String × String) := [("java/lang/IllegalArgumentException", "java/lang/IndexOutOfBoundsException"), ("java/lang/ArithmeticException", "java/lang/IndexOutOfBoundsException"), ("java/lang/ArithmeticException", "java/lang/IllegalArgumentException"), ("java/util/NoSuchElementException", "java/lang/IndexOutOfBoundsException")]
def zNc (U : State) : Prop := ∀ q ∈ ncs, va_Nc q.1 q.2 U
theorem zNc.moved {u U : State} (hvm : u.vm.Alike U.vm) (h : zNc u) : zNc U := fun q hq => (h q hq).moved hvm
def zPN (G : Geo) (X : St) (sz : Nat) (U : State) : Prop := zPK G X sz U ∧ zNc U
/-- a contract of a method that catches all that it calls throws -/
def ConN (l : Launch) (y : MethodName) (cc : ByteArray) (n : Nat) (ret : Option FieldType) (hh : List (Nat × Nat × Nat × Nat)) (fr lo u : Nat) (ar : Geo → List Value) (X : St) (K : Option Value → St → Prop) : Prop :=
  ∀ (G : Geo) (sz : Nat), vx_Met l y (wsH_ y cc n ret hh) (zRm fr lo u) (va_Pc (ar G) (zPN G X sz)) (zQK G (zA G sz) K) (zXK G (zA G sz) kF) u (6 * u) (zA G sz)
def ClN (l : Launch) (own : String) (cc : ByteArray) (nL : Nat) (ret : Option FieldType) (hh : List ExceptionTableEntry) (G : Geo) (fr lo um : Nat) (K : Option Value → St → Prop) (KX : String → St → Prop) (J : JT) (JX : JXT) : Prop :=
  ∃ (p : Program) (e : Env) (s : State) (m : MethodId) (args : Array Value) (below : List Frame) (meth : Method) (c : Code) (A : Nat → Prop), zCx p l (zRm fr lo um) s m args c A own cc nL G fr lo um 0 0 ∧ zNc s ∧ meth.sig.returnType = ret ∧ meth.locks = false ∧ c.exceptionTable.toList = hh ∧ J = Jw p l e (zRm fr lo um) s m args below meth c G A nL 0 0 (vx_MQ below (zQK G A K) (zXK G A KX) args s um (6 * um) A) ∧ JX = Jx p l e (zRm fr lo um) s m args below meth c G A nL 0 0 (vx_MQ below (zQK G A K) (zXK G A KX) args s um (6 * um) A)
section ZCN
variable {l : Launch} {own : String} {cc : ByteArray} {nL : Nat} {ret : Option FieldType} {hh : List ExceptionTableEntry} {G : Geo} {fr lo um : Nat} {K : Option Value → St → Prop} {KX : String → St → Prop} {J : JT} {JX : JXT} {X : St} {u pc : Nat} {lv : List (Nat × Value)} {st : List Value}
theorem ClN.c (C : ClN l own cc nL ret hh G fr lo um K KX J JX) : Cl l own cc nL ret hh G fr lo um K KX J JX := by
  obtain ⟨p, e, s, m, args, below, meth, c, A, h1, h0, h2, h3, h4, h5, h6⟩ := C
  exact ⟨p, e, s, m, args, below, meth, c, A, h1, h2, h3, h4, h5, h6⟩
def zPs (E : String) (n : Nat) : Bool := (n == 22 && ncs.contains (E, "java/lang/IndexOutOfBoundsException")) || (n == 31 && ncs.contains (E, "java/lang/IllegalArgumentException"))
theorem r_catch (C : ClN l RL cc nL ret hh G fr lo um K KX J JX) {E : String} (pre : List ExceptionTableEntry) (x : ExceptionTableEntry) (suf : List ExceptionTableEntry) (hsplit : hh = pre ++ x :: suf) (hpass : pre.all (fun z => zPs E z.catchType) = true) (hx : covers x pc = true) (h0 : ¬ x.catchType = 0) (hlink : Cond.classLink RL x.catchType E ∈ lw_all) (hcast : Cond.castable E E ∈ lw_nst) (kk : ∀ q : Nat, J X u x.handlerPc lv [.ref q]) : JX X u pc lv E := by
  obtain ⟨p, e, s, m, args, below, meth, c, A, ⟨hx0, hb, hml, hown, hts, hK, hNw, hA, hZs, hfl, hfr, hlo, hRc, hRs⟩, hNc, hret, hlocks, htab, rfl, rfl⟩ := C
  intro H locs ls q ce rest hP hD hS hl hcell hv hcl
  refine vx_catch hown pre x suf (htab.trans hsplit) (fun z hz => Or.inr ?_) hx h0 (hts _ hlink) (va_Nw.use rfl (hNw.1 _ hcast)) hcell hv hcl (kk q H locs ls hP hD hS hl)
  have h9 := List.all_eq_true.mp hpass z hz
  unfold zPs at h9
  rw [Bool.or_eq_true, Bool.and_eq_true, Bool.and_eq_true, beq_iff_eq, beq_iff_eq, List.contains_iff_mem, List.contains_iff_mem] at h9
  rcases h9 with ⟨h1, h2⟩ | ⟨h1, h2⟩
  · exact ⟨by rw [h1]; decide, _, by rw [h1]; exact hts _ ck_RL_22, hNc _ h2⟩
  · exact ⟨by rw [h1]; decide, _, by rw [h1]; exact hts _ ck_RL_31, hNc _ h2⟩
end ZCN
theorem conN_of {l : Launch} {y : MethodName} {cc : ByteArray} {n : Nat} {ret : Option FieldType} {hh : List (Nat × Nat × Nat × Nat)} {fr lo u : Nat} {ar : Geo → List Value} {X : St} {K : Option Value → St → Prop} {lv : Geo → List (Nat × Value)} (hfl : l.stackTraces = false) (hy : plainName y.cls = true) (hlv : ∀ G, lv_args 0 (ar G) = lv G) (hsl : ∀ G, (lg_sl (ar G)).length ≤ n)
    (body : ∀ (G : Geo) (J : JT) (JX : JXT), ClN l y.cls cc n ret (tableOf hh) G fr lo u K kF J JX → J X 0 0 (lv G) []) : ConN l y cc n ret hh fr lo u ar X K := by
  intro G sz
  refine vx_ofWH (cc := cc) (maxL := n) (ret := ret) (hh := hh) hy rfl ?_
  intro p e s m args below meth c s₁ B hml hv
  obtain ⟨rfl, ⟨rfl, ⟨hP, hD⟩, hK, hNw, hZs⟩, hNc⟩ := hv
  have hts := atoms_spec (ws := wsH_ y cc n ret hh) B.pre
  have hown : s.vm.findClass y.cls = some m.cls := findClass_of_methodNamed B.named
  have hcx : zCx p l (zRm fr lo u) s m (ar G).toArray c (zA G s.heap.size) y.cls cc n G fr lo u 0 0 := ⟨B.exec, B.bytes, hml, hown, fun w h => hts w (List.mem_cons_of_mem _ h), hK, hNw, fun q h => Or.inr h, hZs, hfl, rfl, rfl, by show 0 + u ≤ u; omega, by show 0 + 6 * u ≤ 6 * u; omega⟩
  have hb := body G _ _ ⟨p, e, s, m, (ar G).toArray, below, meth, c, zA G s.heap.size, hcx, hNc, B.returns, B.notSynchronized, vx_table (x := y) B (hts _ List.mem_cons_self), rfl, rfl⟩
  have hl := lv_entry (ar G) (n := n) (hsl G)
  rw [lg_entry_eq]
  rw [hlv G] at hl
  exact hb s.heap [] _ hP hD va_S.rf (lvOk_of hl)
theorem cas_ISE : Cond.castable "java/lang/IllegalStateException" "java/lang/IllegalStateException" ∈ lw_nst := in_nst (i := 361) (by decide +kernel) rfl
theorem cas_IO : Cond.castable "java/lang/IndexOutOfBoundsException" "java/lang/IndexOutOfBoundsException" ∈ lw_nst := in_nst (i := 483) (by decide +kernel) rfl
theorem cas_IA : Cond.castable "java/lang/IllegalArgumentException" "java/lang/IllegalArgumentException" ∈ lw_nst := in_nst (i := 527) (by decide +kernel) rfl
theorem cas_AR : Cond.castable "java/lang/ArithmeticException" "java/lang/ArithmeticException" ∈ lw_nst := in_nst (i := 568) (by decide +kernel) rfl
theorem cas_NS : Cond.castable "java/util/NoSuchElementException" "java/util/NoSuchElementException" ∈ lw_nst := in_nst (i := 625) (by decide +kernel) rfl
set_option maxHeartbeats 4000000 in
set_option maxRecDepth 100000 in
/-- L_addRow -/
theorem con_L_addRow (l : Launch) (hfl : l.stackTraces = false) {A : DA}  (X : St) (hD : DInv X A) : ConN l yL_addRow cL_addRow 3 (some (FieldType.int)) [(0, 8, 11, 13)] 8 130 1 (fun G => [.ref (G.2.1 0), .ref (G.2.1 36)]) X (kI (fun r9 X' => (∃ r1 X1, (r1 = nI A.R ∧ A.R < 10 ∧ DInv X1 (A.tab (A.R + 1) A.C (sb A.ra A.R) A.ca A.z) ∧ Fr Dp X X1) ∧ r9 = 0 ∧ X' = Yu X1 36 (vp_updL (Zu X1 36) 0 r1.toInt64)) ∨ (r9 = 1 ∧ X = X' ∧ A.R = 10))) := by
  refine conN_of (lv := fun G => [(0, .ref (G.2.1 0)), (1, .ref (G.2.1 36))]) hfl (by decide +kernel) (fun _ => rfl) (fun _ => Nat.le_of_ble_eq_true rfl) ?_
  intro G J JX CN
  have CE := CN.c
  have C := CE.b
  refine r_aload_n C dL_addRow_0 rfl rfl ?_
  refine r_iconst (v := 0) C dL_addRow_1 (by decide) ?_
  refine r_aload_n C dL_addRow_2 rfl rfl ?_
  refine cl_RL_7 C (con_X5_addRow l hfl _ hD) dL_addRow_3 rfl ⟨Nat.le_of_ble_eq_true rfl, Nat.le_of_ble_eq_true rfl⟩ (by omega) (Nat.le_of_ble_eq_true rfl) (fun E_3 X_3 x_3 => ?_) (fun r_3 X_3 h_3 => ?_)
  · -- thrown
    obtain ⟨rfl, hx1, hx2⟩ := x_3
    refine r_catch CN [] _ [] rfl (by decide +kernel) (by decide +kernel) (by decide +kernel) ck_RL_13 cas_ISE (fun q => ?_)
    refine r_astore_n C dL_addRow_11 rfl (by decide) ?_
    refine r_iconst (v := 1) C dL_addRow_12 (by decide) ?_
    exact r_iret CE rfl rfl dL_addRow_13 (Nat.le_of_ble_eq_true rfl) ⟨_, rfl, Or.inr ⟨rfl, hx1, hx2⟩⟩
  skip
  refine r_i2l C dL_addRow_6 ?_
  refine r_last C (0) (by decide) rfl rfl (by decide) dL_addRow_7 ?_
  refine r_goto (tgt := 14) C dL_addRow_8 (by decide) ?_
  refine r_iconst (v := 0) C dL_addRow_14 (by decide) ?_
  exact r_iret CE rfl rfl dL_addRow_15 (Nat.le_of_ble_eq_true rfl) ⟨_, rfl, Or.inl ⟨_, _, h_3, rfl, rfl⟩⟩
set_option maxHeartbeats 4000000 in
set_option maxRecDepth 100000 in
/-- L_addColumn -/
theorem con_L_addColumn (l : Launch) (hfl : l.stackTraces = false) {A : DA}  (X : St) (hD : DInv X A) : ConN l yL_addColumn cL_addColumn 3 (some (FieldType.int)) [(0, 8, 11, 13)] 8 130 1 (fun G => [.ref (G.2.1 0), .ref (G.2.1 36)]) X (kI (fun r9 X' => (∃ r1 X1, (r1 = nI A.C ∧ A.C < 10 ∧ DInv X1 (A.tab A.R (A.C + 1) A.ra (sb A.ca A.C) A.z) ∧ Fr Dp X X1) ∧ r9 = 0 ∧ X' = Yu X1 36 (vp_updL (Zu X1 36) 0 r1.toInt64)) ∨ (r9 = 1 ∧ X = X' ∧ A.C = 10))) := by
  refine conN_of (lv := fun G => [(0, .ref (G.2.1 0)), (1, .ref (G.2.1 36))]) hfl (by decide +kernel) (fun _ => rfl) (fun _ => Nat.le_of_ble_eq_true rfl) ?_
  intro G J JX CN
  have CE := CN.c
  have C := CE.b
  refine r_aload_n C dL_addColumn_0 rfl rfl ?_
  refine r_iconst (v := 0) C dL_addColumn_1 (by decide) ?_
  refine r_aload_n C dL_addColumn_2 rfl rfl ?_
  refine cl_RL_15 C (con_X5_addColumn l hfl _ hD) dL_addColumn_3 rfl ⟨Nat.le_of_ble_eq_true rfl, Nat.le_of_ble_eq_true rfl⟩ (by omega) (Nat.le_of_ble_eq_true rfl) (fun E_3 X_3 x_3 => ?_) (fun r_3 X_3 h_3 => ?_)
  · -- thrown
    obtain ⟨rfl, hx1, hx2⟩ := x_3
    refine r_catch CN [] _ [] rfl (by decide +kernel) (by decide +kernel) (by decide +kernel) ck_RL_13 cas_ISE (fun q => ?_)
    refine r_astore_n C dL_addColumn_11 rfl (by decide) ?_
    refine r_iconst (v := 1) C dL_addColumn_12 (by decide) ?_
    exact r_iret CE rfl rfl dL_addColumn_13 (Nat.le_of_ble_eq_true rfl) ⟨_, rfl, Or.inr ⟨rfl, hx1, hx2⟩⟩
  skip
  refine r_i2l C dL_addColumn_6 ?_
  refine r_last C (0) (by decide) rfl rfl (by decide) dL_addColumn_7 ?_
  refine r_goto (tgt := 14) C dL_addColumn_8 (by decide) ?_
  refine r_iconst (v := 0) C dL_addColumn_14 (by decide) ?_
  exact r_iret CE rfl rfl dL_addColumn_15 (Nat.le_of_ble_eq_true rfl) ⟨_, rfl, Or.inl ⟨_, _, h_3, rfl, rfl⟩⟩
set_option maxHeartbeats 4000000 in
set_option maxRecDepth 100000 in
/-- L_setRow -/
theorem con_L_setRow (l : Launch) (hfl : l.stackTraces = false) {A : DA} {x : Int32} {b : Bool}  (X : St) (hD : DInv X A) : ConN l yL_setRow cL_setRow 5 (some (FieldType.int)) [(0, 17, 20, 22)] 8 163 1 (fun G => [.ref (G.2.1 0), .int x, .int (bI b), .ref (G.2.1 36)]) X (kI (fun r9 X' => (∃ r1 X1, (∃ r, r < A.R ∧ x = nI r ∧ r1 = bI (A.ra.testBit r) ∧ DInv X1 (A.tab A.R A.C (wb A.ra r b) A.ca A.z) ∧ Fr Dp X X1) ∧ r9 = 0 ∧ X' = Yu X1 36 (vp_updL (Zu X1 36) 0 (if r1 = 0 then 0 else 1))) ∨ (r9 = 1 ∧ X = X' ∧ inI x A.R = false))) := by
  refine conN_of (lv := fun G => [(0, .ref (G.2.1 0)), (1, .int x), (2, .int (bI b)), (3, .ref (G.2.1 36))]) hfl (by decide +kernel) (fun _ => rfl) (fun _ => Nat.le_of_ble_eq_true rfl) ?_
  intro G J JX CN
  have CE := CN.c
  have C := CE.b
  refine r_aload_n C dL_setRow_0 rfl rfl ?_
  refine r_iconst (v := 0) C dL_setRow_1 (by decide) ?_
  refine r_aload_n C dL_setRow_2 rfl rfl ?_
  refine r_iload_n C dL_setRow_3 rfl rfl ?_
  refine r_iload_n C dL_setRow_4 rfl rfl ?_
  refine cl_RL_18 C (con_X5_setRow l hfl _ hD) dL_setRow_5 rfl ⟨Nat.le_of_ble_eq_true rfl, Nat.le_of_ble_eq_true rfl⟩ (by omega) (Nat.le_of_ble_eq_true rfl) (fun E_5 X_5 x_5 => ?_) (fun r_5 X_5 h_5 => ?_)
  · -- thrown
    obtain ⟨rfl, hx1, hx2⟩ := x_5
    refine r_catch CN [] _ [] rfl (by decide +kernel) (by decide +kernel) (by decide +kernel) ck_RL_22 cas_IO (fun q => ?_)
    refine r_astore C dL_setRow_20 (by decide) ?_
    refine r_iconst (v := 1) C dL_setRow_22 (by decide) ?_
    exact r_iret CE rfl rfl dL_setRow_23 (Nat.le_of_ble_eq_true rfl) ⟨_, rfl, Or.inr ⟨rfl, hx1, hx2⟩⟩
  skip
  refine r_if_eq (tgt := 15) C dL_setRow_8 (by decide) (fun c_8 => ?_) (fun c_8 => ?_)
  · -- 15
    refine r_lconst (v := 0) C dL_setRow_15 (by decide) ?_
    refine r_last C (0) (by decide) rfl rfl (by decide) dL_setRow_16 ?_
    refine r_goto (tgt := 24) C dL_setRow_17 (by decide) ?_
    refine r_iconst (v := 0) C dL_setRow_24 (by decide) ?_
    exact r_iret CE rfl rfl dL_setRow_25 (Nat.le_of_ble_eq_true rfl) ⟨_, rfl, Or.inl ⟨_, _, h_5, rfl, by first | rw [if_pos c_8] | rw [if_neg c_8]⟩⟩
  · -- 11
    refine r_lconst (v := 1) C dL_setRow_11 (by decide) ?_
    refine r_goto (tgt := 16) C dL_setRow_12 (by decide) ?_
    refine r_last C (0) (by decide) rfl rfl (by decide) dL_setRow_16 ?_
    refine r_goto (tgt := 24) C dL_setRow_17 (by decide) ?_
    refine r_iconst (v := 0) C dL_setRow_24 (by decide) ?_
    exact r_iret CE rfl rfl dL_setRow_25 (Nat.le_of_ble_eq_true rfl) ⟨_, rfl, Or.inl ⟨_, _, h_5, rfl, by first | rw [if_pos c_8] | rw [if_neg c_8]⟩⟩
set_option maxHeartbeats 4000000 in
set_option maxRecDepth 100000 in
/-- L_setColumn -/
theorem con_L_setColumn (l : Launch) (hfl : l.stackTraces = false) {A : DA} {x : Int32} {b : Bool}  (X : St) (hD : DInv X A) : ConN l yL_setColumn cL_setColumn 5 (some (FieldType.int)) [(0, 17, 20, 22)] 8 163 1 (fun G => [.ref (G.2.1 0), .int x, .int (bI b), .ref (G.2.1 36)]) X (kI (fun r9 X' => (∃ r1 X1, (∃ c, c < A.C ∧ x = nI c ∧ r1 = bI (A.ca.testBit c) ∧ DInv X1 (A.tab A.R A.C A.ra (wb A.ca c b) A.z) ∧ Fr Dp X X1) ∧ r9 = 0 ∧ X' = Yu X1 36 (vp_updL (Zu X1 36) 0 (if r1 = 0 then 0 else 1))) ∨ (r9 = 1 ∧ X = X' ∧ inI x A.C = false))) := by
  refine conN_of (lv := fun G => [(0, .ref (G.2.1 0)), (1, .int x), (2, .int (bI b)), (3, .ref (G.2.1 36))]) hfl (by decide +kernel) (fun _ => rfl) (fun _ => Nat.le_of_ble_eq_true rfl) ?_
  intro G J JX CN
  have CE := CN.c
  have C := CE.b
  refine r_aload_n C dL_setColumn_0 rfl rfl ?_
  refine r_iconst (v := 0) C dL_setColumn_1 (by decide) ?_
  refine r_aload_n C dL_setColumn_2 rfl rfl ?_
  refine r_iload_n C dL_setColumn_3 rfl rfl ?_
  refine r_iload_n C dL_setColumn_4 rfl rfl ?_
  refine cl_RL_24 C (con_X5_setColumn l hfl _ hD) dL_setColumn_5 rfl ⟨Nat.le_of_ble_eq_true rfl, Nat.le_of_ble_eq_true rfl⟩ (by omega) (Nat.le_of_ble_eq_true rfl) (fun E_5 X_5 x_5 => ?_) (fun r_5 X_5 h_5 => ?_)
  · -- thrown
    obtain ⟨rfl, hx1, hx2⟩ := x_5
    refine r_catch CN [] _ [] rfl (by decide +kernel) (by decide +kernel) (by decide +kernel) ck_RL_22 cas_IO (fun q => ?_)
    refine r_astore C dL_setColumn_20 (by decide) ?_
    refine r_iconst (v := 1) C dL_setColumn_22 (by decide) ?_
    exact r_iret CE rfl rfl dL_setColumn_23 (Nat.le_of_ble_eq_true rfl) ⟨_, rfl, Or.inr ⟨rfl, hx1, hx2⟩⟩
  skip
  refine r_if_eq (tgt := 15) C dL_setColumn_8 (by decide) (fun c_8 => ?_) (fun c_8 => ?_)
  · -- 15
    refine r_lconst (v := 0) C dL_setColumn_15 (by decide) ?_
    refine r_last C (0) (by decide) rfl rfl (by decide) dL_setColumn_16 ?_
    refine r_goto (tgt := 24) C dL_setColumn_17 (by decide) ?_
    refine r_iconst (v := 0) C dL_setColumn_24 (by decide) ?_
    exact r_iret CE rfl rfl dL_setColumn_25 (Nat.le_of_ble_eq_true rfl) ⟨_, rfl, Or.inl ⟨_, _, h_5, rfl, by first | rw [if_pos c_8] | rw [if_neg c_8]⟩⟩
  · -- 11
    refine r_lconst (v := 1) C dL_setColumn_11 (by decide) ?_
    refine r_goto (tgt := 16) C dL_setColumn_12 (by decide) ?_
    refine r_last C (0) (by decide) rfl rfl (by decide) dL_setColumn_16 ?_
    refine r_goto (tgt := 24) C dL_setColumn_17 (by decide) ?_
    refine r_iconst (v := 0) C dL_setColumn_24 (by decide) ?_
    exact r_iret CE rfl rfl dL_setColumn_25 (Nat.le_of_ble_eq_true rfl) ⟨_, rfl, Or.inl ⟨_, _, h_5, rfl, by first | rw [if_pos c_8] | rw [if_neg c_8]⟩⟩
set_option maxHeartbeats 4000000 in
set_option maxRecDepth 100000 in
/-- L_setCost -/
theorem con_L_setCost (l : Launch) (hfl : l.stackTraces = false) {A : DA} {x y v : Int32}  (X : St) (hD : DInv X A) : ConN l yL_setCost cL_setCost 6 (some (FieldType.int)) [(0, 19, 22, 22), (0, 19, 26, 31)] 9 193 3 (fun G => [.ref (G.2.1 0), .int x, .int y, .int v, .ref (G.2.1 36)]) X (kI (fun r9 X' => (∃ r1 X1, (∃ r c, r < A.R ∧ c < A.C ∧ x = nI r ∧ y = nI c ∧ inC v.toInt = true ∧ r1 = bI (al A.z (10 * r + c)) ∧ DInv X1 (A.tab A.R A.C A.ra A.ca (zup A.z (10 * r + c) v.toInt)) ∧ Fr Dp X X1) ∧ r9 = 0 ∧ X' = Yu X1 36 (vp_updL (Zu X1 36) 0 (if r1 = 0 then 0 else 1))) ∨ (r9 = 1 ∧ X = X' ∧ (inI x A.R && inI y A.C) = false) ∨ (r9 = 2 ∧ X = X' ∧ inI x A.R = true ∧ inI y A.C = true ∧ inC v.toInt = false))) := by
  refine conN_of (lv := fun G => [(0, .ref (G.2.1 0)), (1, .int x), (2, .int y), (3, .int v), (4, .ref (G.2.1 36))]) hfl (by decide +kernel) (fun _ => rfl) (fun _ => Nat.le_of_ble_eq_true rfl) ?_
  intro G J JX CN
  have CE := CN.c
  have C := CE.b
  refine r_aload C dL_setCost_0 rfl ?_
  refine r_iconst (v := 0) C dL_setCost_2 (by decide) ?_
  refine r_aload_n C dL_setCost_3 rfl rfl ?_
  refine r_iload_n C dL_setCost_4 rfl rfl ?_
  refine r_iload_n C dL_setCost_5 rfl rfl ?_
  refine r_iload_n C dL_setCost_6 rfl rfl ?_
  refine cl_RL_27 C (con_X5_setCost l hfl _ hD) dL_setCost_7 rfl ⟨Nat.le_of_ble_eq_true rfl, Nat.le_of_ble_eq_true rfl⟩ (by omega) (Nat.le_of_ble_eq_true rfl) (fun E_7 X_7 x_7 => ?_) (fun r_7 X_7 h_7 => ?_)
  · -- thrown
    rcases x_7 with ⟨rfl, hx1, hx2⟩ | ⟨rfl, hx1, hx2⟩
    · refine r_catch CN [] _ (tableOf [(0, 19, 26, 31)]) rfl (by decide +kernel) (by decide +kernel) (by decide +kernel) ck_RL_22 cas_IO (fun q => ?_)
      refine r_astore C dL_setCost_22 (by decide) ?_
      refine r_iconst (v := 1) C dL_setCost_24 (by decide) ?_
      exact r_iret CE rfl rfl dL_setCost_25 (Nat.le_of_ble_eq_true rfl) ⟨_, rfl, Or.inr (Or.inl ⟨rfl, hx1, hx2⟩)⟩
    · refine r_catch CN (tableOf [(0, 19, 22, 22)]) _ [] rfl (by decide +kernel) (by decide +kernel) (by decide +kernel) ck_RL_31 cas_IA (fun q => ?_)
      refine r_astore C dL_setCost_26 (by decide) ?_
      refine r_iconst (v := 2) C dL_setCost_28 (by decide) ?_
      exact r_iret CE rfl rfl dL_setCost_29 (Nat.le_of_ble_eq_true rfl) ⟨_, rfl, Or.inr (Or.inr (⟨rfl, hx1, hx2⟩))⟩
  skip
  refine r_if_eq (tgt := 17) C dL_setCost_10 (by decide) (fun c_10 => ?_) (fun c_10 => ?_)
  · -- 17
    refine r_lconst (v := 0) C dL_setCost_17 (by decide) ?_
    refine r_last C (0) (by decide) rfl rfl (by decide) dL_setCost_18 ?_
    refine r_goto (tgt := 30) C dL_setCost_19 (by decide) ?_
    refine r_iconst (v := 0) C dL_setCost_30 (by decide) ?_
    exact r_iret CE rfl rfl dL_setCost_31 (Nat.le_of_ble_eq_true rfl) ⟨_, rfl, Or.inl ⟨_, _, h_7, rfl, by first | rw [if_pos c_10] | rw [if_neg c_10]⟩⟩
  · -- 13
    refine r_lconst (v := 1) C dL_setCost_13 (by decide) ?_
    refine r_goto (tgt := 18) C dL_setCost_14 (by decide) ?_
    refine r_last C (0) (by decide) rfl rfl (by decide) dL_setCost_18 ?_
    refine r_goto (tgt := 30) C dL_setCost_19 (by decide) ?_
    refine r_iconst (v := 0) C dL_setCost_30 (by decide) ?_
    exact r_iret CE rfl rfl dL_setCost_31 (Nat.le_of_ble_eq_true rfl) ⟨_, rfl, Or.inl ⟨_, _, h_7, rfl, by first | rw [if_pos c_10] | rw [if_neg c_10]⟩⟩
set_option maxHeartbeats 4000000 in
set_option maxRecDepth 100000 in
/-- L_forbid -/
theorem con_L_forbid (l : Launch) (hfl : l.stackTraces = false) {A : DA} {x y : Int32}  (X : St) (hD : DInv X A) : ConN l yL_forbid cL_forbid 5 (some (FieldType.int)) [(0, 17, 20, 22)] 9 192 2 (fun G => [.ref (G.2.1 0), .int x, .int y, .ref (G.2.1 36)]) X (kI (fun r9 X' => (∃ r1 X1, (∃ r c, r < A.R ∧ c < A.C ∧ x = nI r ∧ y = nI c ∧ r1 = bI (al A.z (10 * r + c)) ∧ DInv X1 (A.tab A.R A.C A.ra A.ca (zup A.z (10 * r + c) 20000)) ∧ Fr Dp X X1) ∧ r9 = 0 ∧ X' = Yu X1 36 (vp_updL (Zu X1 36) 0 (if r1 = 0 then 0 else 1))) ∨ (r9 = 1 ∧ X = X' ∧ (inI x A.R && inI y A.C) = false))) := by
  refine conN_of (lv := fun G => [(0, .ref (G.2.1 0)), (1, .int x), (2, .int y), (3, .ref (G.2.1 36))]) hfl (by decide +kernel) (fun _ => rfl) (fun _ => Nat.le_of_ble_eq_true rfl) ?_
  intro G J JX CN
  have CE := CN.c
  have C := CE.b
  refine r_aload_n C dL_forbid_0 rfl rfl ?_
  refine r_iconst (v := 0) C dL_forbid_1 (by decide) ?_
  refine r_aload_n C dL_forbid_2 rfl rfl ?_
  refine r_iload_n C dL_forbid_3 rfl rfl ?_
  refine r_iload_n C dL_forbid_4 rfl rfl ?_
  refine cl_RL_33 C (con_X5_forbid l hfl _ hD) dL_forbid_5 rfl ⟨Nat.le_of_ble_eq_true rfl, Nat.le_of_ble_eq_true rfl⟩ (by omega) (Nat.le_of_ble_eq_true rfl) (fun E_5 X_5 x_5 => ?_) (fun r_5 X_5 h_5 => ?_)
  · -- thrown
    obtain ⟨rfl, hx1, hx2⟩ := x_5
    refine r_catch CN [] _ [] rfl (by decide +kernel) (by decide +kernel) (by decide +kernel) ck_RL_22 cas_IO (fun q => ?_)
    refine r_astore C dL_forbid_20 (by decide) ?_
    refine r_iconst (v := 1) C dL_forbid_22 (by decide) ?_
    exact r_iret CE rfl rfl dL_forbid_23 (Nat.le_of_ble_eq_true rfl) ⟨_, rfl, Or.inr ⟨rfl, hx1, hx2⟩⟩
  skip
  refine r_if_eq (tgt := 15) C dL_forbid_8 (by decide) (fun c_8 => ?_) (fun c_8 => ?_)
  · -- 15
    refine r_lconst (v := 0) C dL_forbid_15 (by decide) ?_
    refine r_last C (0) (by decide) rfl rfl (by decide) dL_forbid_16 ?_
    refine r_goto (tgt := 24) C dL_forbid_17 (by decide) ?_
    refine r_iconst (v := 0) C dL_forbid_24 (by decide) ?_
    exact r_iret CE rfl rfl dL_forbid_25 (Nat.le_of_ble_eq_true rfl) ⟨_, rfl, Or.inl ⟨_, _, h_5, rfl, by first | rw [if_pos c_8] | rw [if_neg c_8]⟩⟩
  · -- 11
    refine r_lconst (v := 1) C dL_forbid_11 (by decide) ?_
    refine r_goto (tgt := 16) C dL_forbid_12 (by decide) ?_
    refine r_last C (0) (by decide) rfl rfl (by decide) dL_forbid_16 ?_
    refine r_goto (tgt := 24) C dL_forbid_17 (by decide) ?_
    refine r_iconst (v := 0) C dL_forbid_24 (by decide) ?_
    exact r_iret CE rfl rfl dL_forbid_25 (Nat.le_of_ble_eq_true rfl) ⟨_, rfl, Or.inl ⟨_, _, h_5, rfl, by first | rw [if_pos c_8] | rw [if_neg c_8]⟩⟩
set_option maxHeartbeats 4000000 in
set_option maxRecDepth 100000 in
/-- L_addToRow -/
theorem con_L_addToRow (l : Launch) (hfl : l.stackTraces = false) {A : DA} {x v : Int32}  (X : St) (hD : DInv X A) : ConN l yL_addToRow cL_addToRow 5 (some (FieldType.int)) [(0, 10, 13, 22), (0, 10, 17, 41)] 9 162 2 (fun G => [.ref (G.2.1 0), .int x, .int v, .ref (G.2.1 36)]) X (kI (fun r9 X' => (∃ r1 X1, (∃ r, r < A.R ∧ x = nI r ∧ shok A.z r v.toInt 10 = true ∧ r1 = nI (alw A.z r 10) ∧ DInv X1 (A.tab A.R A.C A.ra A.ca (shz A.z r v.toInt)) ∧ Fr Dp X X1) ∧ r9 = 0 ∧ X' = Yu X1 36 (vp_updL (Zu X1 36) 0 r1.toInt64)) ∨ (r9 = 1 ∧ X = X' ∧ inI x A.R = false) ∨ (r9 = 2 ∧ X = X' ∧ inI x A.R = true ∧ ∀ r, r < 10 → x = nI r → shok A.z r v.toInt 10 = false))) := by
  refine conN_of (lv := fun G => [(0, .ref (G.2.1 0)), (1, .int x), (2, .int v), (3, .ref (G.2.1 36))]) hfl (by decide +kernel) (fun _ => rfl) (fun _ => Nat.le_of_ble_eq_true rfl) ?_
  intro G J JX CN
  have CE := CN.c
  have C := CE.b
  refine r_aload_n C dL_addToRow_0 rfl rfl ?_
  refine r_iconst (v := 0) C dL_addToRow_1 (by decide) ?_
  refine r_aload_n C dL_addToRow_2 rfl rfl ?_
  refine r_iload_n C dL_addToRow_3 rfl rfl ?_
  refine r_iload_n C dL_addToRow_4 rfl rfl ?_
  refine cl_RL_37 C (con_X5_addToRow l hfl _ hD) dL_addToRow_5 rfl ⟨Nat.le_of_ble_eq_true rfl, Nat.le_of_ble_eq_true rfl⟩ (by omega) (Nat.le_of_ble_eq_true rfl) (fun E_5 X_5 x_5 => ?_) (fun r_5 X_5 h_5 => ?_)
  · -- thrown
    rcases x_5 with ⟨rfl, hx1, hx2⟩ | ⟨rfl, hx1, hx2⟩
    · refine r_catch CN [] _ (tableOf [(0, 10, 17, 41)]) rfl (by decide +kernel) (by decide +kernel) (by decide +kernel) ck_RL_22 cas_IO (fun q => ?_)
      refine r_astore C dL_addToRow_13 (by decide) ?_
      refine r_iconst (v := 1) C dL_addToRow_15 (by decide) ?_
      exact r_iret CE rfl rfl dL_addToRow_16 (Nat.le_of_ble_eq_true rfl) ⟨_, rfl, Or.inr (Or.inl ⟨rfl, hx1, hx2⟩)⟩
    · refine r_catch CN (tableOf [(0, 10, 13, 22)]) _ [] rfl (by decide +kernel) (by decide +kernel) (by decide +kernel) ck_RL_41 cas_AR (fun q => ?_)
      refine r_astore C dL_addToRow_17 (by decide) ?_
      refine r_iconst (v := 2) C dL_addToRow_19 (by decide) ?_
      exact r_iret CE rfl rfl dL_addToRow_20 (Nat.le_of_ble_eq_true rfl) ⟨_, rfl, Or.inr (Or.inr (⟨rfl, hx1, hx2⟩))⟩
  skip
  refine r_i2l C dL_addToRow_8 ?_
  refine r_last C (0) (by decide) rfl rfl (by decide) dL_addToRow_9 ?_
  refine r_goto (tgt := 21) C dL_addToRow_10 (by decide) ?_
  refine r_iconst (v := 0) C dL_addToRow_21 (by decide) ?_
  exact r_iret CE rfl rfl dL_addToRow_22 (Nat.le_of_ble_eq_true rfl) ⟨_, rfl, Or.inl ⟨_, _, h_5, rfl, rfl⟩⟩
set_option maxHeartbeats 4000000 in
set_option maxRecDepth 100000 in
/-- L_scaleColumn -/
theorem con_L_scaleColumn (l : Launch) (hfl : l.stackTraces = false) {A : DA} {x : Int32} {sf : Bool} {nf : Nat} {f : UInt64}  (X : St) (hD : DInv X A) (hf : Pd 3 sf nf f) : ConN l yL_scaleColumn cL_scaleColumn 6 (some (FieldType.int)) [(0, 11, 14, 22), (0, 11, 18, 31), (0, 11, 22, 41)] 9 163 2 (fun G => [.ref (G.2.1 0), .int x, .double f, .ref (G.2.1 36)]) X (kI (fun r9 X' => (∃ r1 X1, (∃ c, c < A.C ∧ x = nI c ∧ nf ≤ 800 ∧ stok A.z c sf nf 10 = true ∧ r1 = nI (chg A.z c sf nf 10) ∧ DInv X1 (A.tab A.R A.C A.ra A.ca (stz A.z c sf nf)) ∧ Fr Dp X X1) ∧ r9 = 0 ∧ X' = Yu X1 36 (vp_updL (Zu X1 36) 0 r1.toInt64)) ∨ (r9 = 1 ∧ X = X' ∧ inI x A.C = false) ∨ (r9 = 2 ∧ X = X' ∧ inI x A.C = true ∧ ¬ nf ≤ 800) ∨ (r9 = 3 ∧ X = X' ∧ inI x A.C = true ∧ nf ≤ 800 ∧ ∀ c, c < 10 → x = nI c → stok A.z c sf nf 10 = false))) := by
  refine conN_of (lv := fun G => [(0, .ref (G.2.1 0)), (1, .int x), (2, .double f), (4, .ref (G.2.1 36))]) hfl (by decide +kernel) (fun _ => rfl) (fun _ => Nat.le_of_ble_eq_true rfl) ?_
  intro G J JX CN
  have CE := CN.c
  have C := CE.b
  refine r_aload C dL_scaleColumn_0 rfl ?_
  refine r_iconst (v := 0) C dL_scaleColumn_2 (by decide) ?_
  refine r_aload_n C dL_scaleColumn_3 rfl rfl ?_
  refine r_iload_n C dL_scaleColumn_4 rfl rfl ?_
  refine r_dload_n C dL_scaleColumn_5 rfl rfl ?_
  refine cl_RL_43 C (con_X5_scaleColumn l hfl _ hD hf) dL_scaleColumn_6 rfl ⟨Nat.le_of_ble_eq_true rfl, Nat.le_of_ble_eq_true rfl⟩ (by omega) (Nat.le_of_ble_eq_true rfl) (fun E_6 X_6 x_6 => ?_) (fun r_6 X_6 h_6 => ?_)
  · -- thrown
    rcases x_6 with ⟨rfl, hx1, hx2⟩ | ⟨rfl, hx1, hx2⟩ | ⟨rfl, hx1, hx2⟩
    · refine r_catch CN [] _ (tableOf [(0, 11, 18, 31), (0, 11, 22, 41)]) rfl (by decide +kernel) (by decide +kernel) (by decide +kernel) ck_RL_22 cas_IO (fun q => ?_)
      refine r_astore C dL_scaleColumn_14 (by decide) ?_
      refine r_iconst (v := 1) C dL_scaleColumn_16 (by decide) ?_
      exact r_iret CE rfl rfl dL_scaleColumn_17 (Nat.le_of_ble_eq_true rfl) ⟨_, rfl, Or.inr (Or.inl ⟨rfl, hx1, hx2⟩)⟩
    · refine r_catch CN (tableOf [(0, 11, 14, 22)]) _ (tableOf [(0, 11, 22, 41)]) rfl (by decide +kernel) (by decide +kernel) (by decide +kernel) ck_RL_31 cas_IA (fun q => ?_)
      refine r_astore C dL_scaleColumn_18 (by decide) ?_
      refine r_iconst (v := 2) C dL_scaleColumn_20 (by decide) ?_
      exact r_iret CE rfl rfl dL_scaleColumn_21 (Nat.le_of_ble_eq_true rfl) ⟨_, rfl, Or.inr (Or.inr (Or.inl ⟨rfl, hx1, hx2⟩))⟩
    · refine r_catch CN (tableOf [(0, 11, 14, 22), (0, 11, 18, 31)]) _ [] rfl (by decide +kernel) (by decide +kernel) (by decide +kernel) ck_RL_41 cas_AR (fun q => ?_)
      refine r_astore C dL_scaleColumn_22 (by decide) ?_
      refine r_iconst (v := 3) C dL_scaleColumn_24 (by decide) ?_
      exact r_iret CE rfl rfl dL_scaleColumn_25 (Nat.le_of_ble_eq_true rfl) ⟨_, rfl, Or.inr (Or.inr (Or.inr (⟨rfl, hx1, hx2⟩)))⟩
  skip
  refine r_i2l C dL_scaleColumn_9 ?_
  refine r_last C (0) (by decide) rfl rfl (by decide) dL_scaleColumn_10 ?_
  refine r_goto (tgt := 26) C dL_scaleColumn_11 (by decide) ?_
  refine r_iconst (v := 0) C dL_scaleColumn_26 (by decide) ?_
  exact r_iret CE rfl rfl dL_scaleColumn_27 (Nat.le_of_ble_eq_true rfl) ⟨_, rfl, Or.inl ⟨_, _, h_6, rfl, rfl⟩⟩
set_option maxHeartbeats 4000000 in
set_option maxRecDepth 100000 in
/-- L_isAllowed -/
theorem con_L_isAllowed (l : Launch) (hfl : l.stackTraces = false) {A : DA} {x y : Int32}  (X : St) (hD : DInv X A) : ConN l yL_isAllowed cL_isAllowed 5 (some (FieldType.int)) [(0, 17, 20, 22)] 9 192 2 (fun G => [.ref (G.2.1 0), .int x, .int y, .ref (G.2.1 36)]) X (kI (fun r9 X' => (∃ r1 X1, (∃ r c, r < A.R ∧ c < A.C ∧ x = nI r ∧ y = nI c ∧ r1 = bI (al A.z (10 * r + c)) ∧ X = X1) ∧ r9 = 0 ∧ X' = Yu X1 36 (vp_updL (Zu X1 36) 0 (if r1 = 0 then 0 else 1))) ∨ (r9 = 1 ∧ X = X' ∧ (inI x A.R && inI y A.C) = false))) := by
  refine conN_of (lv := fun G => [(0, .ref (G.2.1 0)), (1, .int x), (2, .int y), (3, .ref (G.2.1 36))]) hfl (by decide +kernel) (fun _ => rfl) (fun _ => Nat.le_of_ble_eq_true rfl) ?_
  intro G J JX CN
  have CE := CN.c
  have C := CE.b
  refine r_aload_n C dL_isAllowed_0 rfl rfl ?_
  refine r_iconst (v := 0) C dL_isAllowed_1 (by decide) ?_
  refine r_aload_n C dL_isAllowed_2 rfl rfl ?_
  refine r_iload_n C dL_isAllowed_3 rfl rfl ?_
  refine r_iload_n C dL_isAllowed_4 rfl rfl ?_
  refine cl_RL_47 C (con_X5_isAllowed l hfl _ hD) dL_isAllowed_5 rfl ⟨Nat.le_of_ble_eq_true rfl, Nat.le_of_ble_eq_true rfl⟩ (by omega) (Nat.le_of_ble_eq_true rfl) (fun E_5 X_5 x_5 => ?_) (fun r_5 X_5 h_5 => ?_)
  · -- thrown
    obtain ⟨rfl, hx1, hx2⟩ := x_5
    refine r_catch CN [] _ [] rfl (by decide +kernel) (by decide +kernel) (by decide +kernel) ck_RL_22 cas_IO (fun q => ?_)
    refine r_astore C dL_isAllowed_20 (by decide) ?_
    refine r_iconst (v := 1) C dL_isAllowed_22 (by decide) ?_
    exact r_iret CE rfl rfl dL_isAllowed_23 (Nat.le_of_ble_eq_true rfl) ⟨_, rfl, Or.inr ⟨rfl, hx1, hx2⟩⟩
  skip
  refine r_if_eq (tgt := 15) C dL_isAllowed_8 (by decide) (fun c_8 => ?_) (fun c_8 => ?_)
  · -- 15
    refine r_lconst (v := 0) C dL_isAllowed_15 (by decide) ?_
    refine r_last C (0) (by decide) rfl rfl (by decide) dL_isAllowed_16 ?_
    refine r_goto (tgt := 24) C dL_isAllowed_17 (by decide) ?_
    refine r_iconst (v := 0) C dL_isAllowed_24 (by decide) ?_
    exact r_iret CE rfl rfl dL_isAllowed_25 (Nat.le_of_ble_eq_true rfl) ⟨_, rfl, Or.inl ⟨_, _, h_5, rfl, by first | rw [if_pos c_8] | rw [if_neg c_8]⟩⟩
  · -- 11
    refine r_lconst (v := 1) C dL_isAllowed_11 (by decide) ?_
    refine r_goto (tgt := 16) C dL_isAllowed_12 (by decide) ?_
    refine r_last C (0) (by decide) rfl rfl (by decide) dL_isAllowed_16 ?_
    refine r_goto (tgt := 24) C dL_isAllowed_17 (by decide) ?_
    refine r_iconst (v := 0) C dL_isAllowed_24 (by decide) ?_
    exact r_iret CE rfl rfl dL_isAllowed_25 (Nat.le_of_ble_eq_true rfl) ⟨_, rfl, Or.inl ⟨_, _, h_5, rfl, by first | rw [if_pos c_8] | rw [if_neg c_8]⟩⟩
set_option maxHeartbeats 4000000 in
set_option maxRecDepth 100000 in
/-- L_cost -/
theorem con_L_cost (l : Launch) (hfl : l.stackTraces = false) {A : DA} {x y : Int32}  (X : St) (hD : DInv X A) : ConN l yL_cost cL_cost 5 (some (FieldType.int)) [(0, 10, 13, 22), (0, 10, 17, 53)] 9 193 3 (fun G => [.ref (G.2.1 0), .int x, .int y, .ref (G.2.1 36)]) X (kI (fun r9 X' => (∃ r1 X1, (∃ r c, r < A.R ∧ c < A.C ∧ x = nI r ∧ y = nI c ∧ A.z (10 * r + c) ≠ 20000 ∧ r1 = i32 (A.z (10 * r + c)) ∧ X = X1) ∧ r9 = 0 ∧ X' = Yu X1 36 (vp_updL (Zu X1 36) 0 r1.toInt64)) ∨ (r9 = 1 ∧ X = X' ∧ (inI x A.R && inI y A.C) = false) ∨ (r9 = 2 ∧ X = X' ∧ inI x A.R = true ∧ inI y A.C = true ∧ ∀ r c, r < 10 → c < 10 → x = nI r → y = nI c → A.z (10 * r + c) = 20000))) := by
  refine conN_of (lv := fun G => [(0, .ref (G.2.1 0)), (1, .int x), (2, .int y), (3, .ref (G.2.1 36))]) hfl (by decide +kernel) (fun _ => rfl) (fun _ => Nat.le_of_ble_eq_true rfl) ?_
  intro G J JX CN
  have CE := CN.c
  have C := CE.b
  refine r_aload_n C dL_cost_0 rfl rfl ?_
  refine r_iconst (v := 0) C dL_cost_1 (by decide) ?_
  refine r_aload_n C dL_cost_2 rfl rfl ?_
  refine r_iload_n C dL_cost_3 rfl rfl ?_
  refine r_iload_n C dL_cost_4 rfl rfl ?_
  refine cl_RL_50 C (con_X5_cost l hfl _ hD) dL_cost_5 rfl ⟨Nat.le_of_ble_eq_true rfl, Nat.le_of_ble_eq_true rfl⟩ (by omega) (Nat.le_of_ble_eq_true rfl) (fun E_5 X_5 x_5 => ?_) (fun r_5 X_5 h_5 => ?_)
  · -- thrown
    rcases x_5 with ⟨rfl, hx1, hx2⟩ | ⟨rfl, hx1, hx2⟩
    · refine r_catch CN [] _ (tableOf [(0, 10, 17, 53)]) rfl (by decide +kernel) (by decide +kernel) (by decide +kernel) ck_RL_22 cas_IO (fun q => ?_)
      refine r_astore C dL_cost_13 (by decide) ?_
      refine r_iconst (v := 1) C dL_cost_15 (by decide) ?_
      exact r_iret CE rfl rfl dL_cost_16 (Nat.le_of_ble_eq_true rfl) ⟨_, rfl, Or.inr (Or.inl ⟨rfl, hx1, hx2⟩)⟩
    · refine r_catch CN (tableOf [(0, 10, 13, 22)]) _ [] rfl (by decide +kernel) (by decide +kernel) (by decide +kernel) ck_RL_53 cas_NS (fun q => ?_)
      refine r_astore C dL_cost_17 (by decide) ?_
      refine r_iconst (v := 2) C dL_cost_19 (by decide) ?_
      exact r_iret CE rfl rfl dL_cost_20 (Nat.le_of_ble_eq_true rfl) ⟨_, rfl, Or.inr (Or.inr (⟨rfl, hx1, hx2⟩))⟩
  skip
  refine r_i2l C dL_cost_8 ?_
  refine r_last C (0) (by decide) rfl rfl (by decide) dL_cost_9 ?_
  refine r_goto (tgt := 21) C dL_cost_10 (by decide) ?_
  refine r_iconst (v := 0) C dL_cost_21 (by decide) ?_
  exact r_iret CE rfl rfl dL_cost_22 (Nat.le_of_ble_eq_true rfl) ⟨_, rfl, Or.inl ⟨_, _, h_5, rfl, rfl⟩⟩
set_option maxHeartbeats 4000000 in
set_option maxRecDepth 100000 in
/-- L_columnOf -/
theorem con_L_columnOf (l : Launch) (hfl : l.stackTraces = false) {A : DA} {x : Int32}  (X : St) (hD : DInv X A) : ConN l yL_columnOf cL_columnOf 4 (some (FieldType.int)) [(0, 9, 12, 22)] 8 231 1 (fun G => [.ref (G.2.1 0), .int x, .ref (G.2.1 36)]) X (kI (fun r9 X' => (∃ r1 X1, (∃ r, r < A.R ∧ x = nI r ∧ r1 = cI (kcol A.ra A.ca A.z r (kfree A.ra A.ca A.z r)) ∧ DInv X1 A ∧ Fr Dp X X1) ∧ r9 = 0 ∧ X' = Yu X1 36 (vp_updL (Zu X1 36) 0 r1.toInt64)) ∨ (r9 = 1 ∧ X = X' ∧ inI x A.R = false))) := by
  refine conN_of (lv := fun G => [(0, .ref (G.2.1 0)), (1, .int x), (2, .ref (G.2.1 36))]) hfl (by decide +kernel) (fun _ => rfl) (fun _ => Nat.le_of_ble_eq_true rfl) ?_
  intro G J JX CN
  have CE := CN.c
  have C := CE.b
  refine r_aload_n C dL_columnOf_0 rfl rfl ?_
  refine r_iconst (v := 0) C dL_columnOf_1 (by decide) ?_
  refine r_aload_n C dL_columnOf_2 rfl rfl ?_
  refine r_iload_n C dL_columnOf_3 rfl rfl ?_
  refine cl_RL_55 C (con_X5_columnOf l hfl _ hD) dL_columnOf_4 rfl ⟨Nat.le_of_ble_eq_true rfl, Nat.le_of_ble_eq_true rfl⟩ (by omega) (Nat.le_of_ble_eq_true rfl) (fun E_4 X_4 x_4 => ?_) (fun r_4 X_4 h_4 => ?_)
  · -- thrown
    obtain ⟨rfl, hx1, hx2⟩ := x_4
    refine r_catch CN [] _ [] rfl (by decide +kernel) (by decide +kernel) (by decide +kernel) ck_RL_22 cas_IO (fun q => ?_)
    refine r_astore_n C dL_columnOf_12 rfl (by decide) ?_
    refine r_iconst (v := 1) C dL_columnOf_13 (by decide) ?_
    exact r_iret CE rfl rfl dL_columnOf_14 (Nat.le_of_ble_eq_true rfl) ⟨_, rfl, Or.inr ⟨rfl, hx1, hx2⟩⟩
  skip
  refine r_i2l C dL_columnOf_7 ?_
  refine r_last C (0) (by decide) rfl rfl (by decide) dL_columnOf_8 ?_
  refine r_goto (tgt := 15) C dL_columnOf_9 (by decide) ?_
  refine r_iconst (v := 0) C dL_columnOf_15 (by decide) ?_
  exact r_iret CE rfl rfl dL_columnOf_16 (Nat.le_of_ble_eq_true rfl) ⟨_, rfl, Or.inl ⟨_, _, h_4, rfl, rfl⟩⟩
set_option maxHeartbeats 4000000 in
set_option maxRecDepth 100000 in
/-- L_rowOf -/
theorem con_L_rowOf (l : Launch) (hfl : l.stackTraces = false) {A : DA} {x : Int32}  (X : St) (hD : DInv X A) : ConN l yL_rowOf cL_rowOf 4 (some (FieldType.int)) [(0, 9, 12, 22)] 8 233 1 (fun G => [.ref (G.2.1 0), .int x, .ref (G.2.1 36)]) X (kI (fun r9 X' => (∃ r1 X1, (inI x A.C = true ∧ r1 = rof A.ra A.ca A.z x 10 ∧ DInv X1 A ∧ Fr Dp X X1) ∧ r9 = 0 ∧ X' = Yu X1 36 (vp_updL (Zu X1 36) 0 r1.toInt64)) ∨ (r9 = 1 ∧ X = X' ∧ inI x A.C = false))) := by
  refine conN_of (lv := fun G => [(0, .ref (G.2.1 0)), (1, .int x), (2, .ref (G.2.1 36))]) hfl (by decide +kernel) (fun _ => rfl) (fun _ => Nat.le_of_ble_eq_true rfl) ?_
  intro G J JX CN
  have CE := CN.c
  have C := CE.b
  refine r_aload_n C dL_rowOf_0 rfl rfl ?_
  refine r_iconst (v := 0) C dL_rowOf_1 (by decide) ?_
  refine r_aload_n C dL_rowOf_2 rfl rfl ?_
  refine r_iload_n C dL_rowOf_3 rfl rfl ?_
  refine cl_RL_59 C (con_X5_rowOf l hfl _ hD) dL_rowOf_4 rfl ⟨Nat.le_of_ble_eq_true rfl, Nat.le_of_ble_eq_true rfl⟩ (by omega) (Nat.le_of_ble_eq_true rfl) (fun E_4 X_4 x_4 => ?_) (fun r_4 X_4 h_4 => ?_)
  · -- thrown
    obtain ⟨rfl, hx1, hx2⟩ := x_4
    refine r_catch CN [] _ [] rfl (by decide +kernel) (by decide +kernel) (by decide +kernel) ck_RL_22 cas_IO (fun q => ?_)
    refine r_astore_n C dL_rowOf_12 rfl (by decide) ?_
    refine r_iconst (v := 1) C dL_rowOf_13 (by decide) ?_
    exact r_iret CE rfl rfl dL_rowOf_14 (Nat.le_of_ble_eq_true rfl) ⟨_, rfl, Or.inr ⟨rfl, hx1, hx2⟩⟩
  skip
  refine r_i2l C dL_rowOf_7 ?_
  refine r_last C (0) (by decide) rfl rfl (by decide) dL_rowOf_8 ?_
  refine r_goto (tgt := 15) C dL_rowOf_9 (by decide) ?_
  refine r_iconst (v := 0) C dL_rowOf_15 (by decide) ?_
  exact r_iret CE rfl rfl dL_rowOf_16 (Nat.le_of_ble_eq_true rfl) ⟨_, rfl, Or.inl ⟨_, _, h_4, rfl, rfl⟩⟩
set_option maxHeartbeats 4000000 in
set_option maxRecDepth 100000 in
/-- L_isPossible -/
theorem con_L_isPossible (l : Launch) (hfl : l.stackTraces = false) {A : DA} {x y : Int32}  (X : St) (hD : DInv X A) : ConN l yL_isPossible cL_isPossible 5 (some (FieldType.int)) [(0, 17, 20, 22)] 9 232 2 (fun G => [.ref (G.2.1 0), .int x, .int y, .ref (G.2.1 36)]) X (kI (fun r9 X' => (∃ r1 X1, (∃ r c, r < A.R ∧ c < A.C ∧ x = nI r ∧ y = nI c ∧ r1 = bI ((us A.ra A.ca A.z r).testBit c && decide (xW A.ra A.ca A.z r c = 0)) ∧ DInv X1 A ∧ Fr Dp X X1) ∧ r9 = 0 ∧ X' = Yu X1 36 (vp_updL (Zu X1 36) 0 (if r1 = 0 then 0 else 1))) ∨ (r9 = 1 ∧ X = X' ∧ (inI x A.R && inI y A.C) = false))) := by
  refine conN_of (lv := fun G => [(0, .ref (G.2.1 0)), (1, .int x), (2, .int y), (3, .ref (G.2.1 36))]) hfl (by decide +kernel) (fun _ => rfl) (fun _ => Nat.le_of_ble_eq_true rfl) ?_
  intro G J JX CN
  have CE := CN.c
  have C := CE.b
  refine r_aload_n C dL_isPossible_0 rfl rfl ?_
  refine r_iconst (v := 0) C dL_isPossible_1 (by decide) ?_
  refine r_aload_n C dL_isPossible_2 rfl rfl ?_
  refine r_iload_n C dL_isPossible_3 rfl rfl ?_
  refine r_iload_n C dL_isPossible_4 rfl rfl ?_
  refine cl_RL_62 C (con_X5_isPossible l hfl _ hD) dL_isPossible_5 rfl ⟨Nat.le_of_ble_eq_true rfl, Nat.le_of_ble_eq_true rfl⟩ (by omega) (Nat.le_of_ble_eq_true rfl) (fun E_5 X_5 x_5 => ?_) (fun r_5 X_5 h_5 => ?_)
  · -- thrown
    obtain ⟨rfl, hx1, hx2⟩ := x_5
    refine r_catch CN [] _ [] rfl (by decide +kernel) (by decide +kernel) (by decide +kernel) ck_RL_22 cas_IO (fun q => ?_)
    refine r_astore C dL_isPossible_20 (by decide) ?_
    refine r_iconst (v := 1) C dL_isPossible_22 (by decide) ?_
    exact r_iret CE rfl rfl dL_isPossible_23 (Nat.le_of_ble_eq_true rfl) ⟨_, rfl, Or.inr ⟨rfl, hx1, hx2⟩⟩
  skip
  refine r_if_eq (tgt := 15) C dL_isPossible_8 (by decide) (fun c_8 => ?_) (fun c_8 => ?_)
  · -- 15
    refine r_lconst (v := 0) C dL_isPossible_15 (by decide) ?_
    refine r_last C (0) (by decide) rfl rfl (by decide) dL_isPossible_16 ?_
    refine r_goto (tgt := 24) C dL_isPossible_17 (by decide) ?_
    refine r_iconst (v := 0) C dL_isPossible_24 (by decide) ?_
    exact r_iret CE rfl rfl dL_isPossible_25 (Nat.le_of_ble_eq_true rfl) ⟨_, rfl, Or.inl ⟨_, _, h_5, rfl, by first | rw [if_pos c_8] | rw [if_neg c_8]⟩⟩
  · -- 11
    refine r_lconst (v := 1) C dL_isPossible_11 (by decide) ?_
    refine r_goto (tgt := 16) C dL_isPossible_12 (by decide) ?_
    refine r_last C (0) (by decide) rfl rfl (by decide) dL_isPossible_16 ?_
    refine r_goto (tgt := 24) C dL_isPossible_17 (by decide) ?_
    refine r_iconst (v := 0) C dL_isPossible_24 (by decide) ?_
    exact r_iret CE rfl rfl dL_isPossible_25 (Nat.le_of_ble_eq_true rfl) ⟨_, rfl, Or.inl ⟨_, _, h_5, rfl, by first | rw [if_pos c_8] | rw [if_neg c_8]⟩⟩
set_option maxHeartbeats 4000000 in
set_option maxRecDepth 100000 in
/-- L_isCertain -/
theorem con_L_isCertain (l : Launch) (hfl : l.stackTraces = false) {A : DA} {x y : Int32}  (X : St) (hD : DInv X A) : ConN l yL_isCertain cL_isCertain 5 (some (FieldType.int)) [(0, 17, 20, 22)] 9 232 2 (fun G => [.ref (G.2.1 0), .int x, .int y, .ref (G.2.1 36)]) X (kI (fun r9 X' => (∃ r1 X1, (∃ r c, r < A.R ∧ c < A.C ∧ x = nI r ∧ y = nI c ∧ r1 = bI (!decide (xO A.ra A.ca A.z r c = 0)) ∧ DInv X1 A ∧ Fr Dp X X1) ∧ r9 = 0 ∧ X' = Yu X1 36 (vp_updL (Zu X1 36) 0 (if r1 = 0 then 0 else 1))) ∨ (r9 = 1 ∧ X = X' ∧ (inI x A.R && inI y A.C) = false))) := by
  refine conN_of (lv := fun G => [(0, .ref (G.2.1 0)), (1, .int x), (2, .int y), (3, .ref (G.2.1 36))]) hfl (by decide +kernel) (fun _ => rfl) (fun _ => Nat.le_of_ble_eq_true rfl) ?_
  intro G J JX CN
  have CE := CN.c
  have C := CE.b
  refine r_aload_n C dL_isCertain_0 rfl rfl ?_
  refine r_iconst (v := 0) C dL_isCertain_1 (by decide) ?_
  refine r_aload_n C dL_isCertain_2 rfl rfl ?_
  refine r_iload_n C dL_isCertain_3 rfl rfl ?_
  refine r_iload_n C dL_isCertain_4 rfl rfl ?_
  refine cl_RL_65 C (con_X5_isCertain l hfl _ hD) dL_isCertain_5 rfl ⟨Nat.le_of_ble_eq_true rfl, Nat.le_of_ble_eq_true rfl⟩ (by omega) (Nat.le_of_ble_eq_true rfl) (fun E_5 X_5 x_5 => ?_) (fun r_5 X_5 h_5 => ?_)
  · -- thrown
    obtain ⟨rfl, hx1, hx2⟩ := x_5
    refine r_catch CN [] _ [] rfl (by decide +kernel) (by decide +kernel) (by decide +kernel) ck_RL_22 cas_IO (fun q => ?_)
    refine r_astore C dL_isCertain_20 (by decide) ?_
    refine r_iconst (v := 1) C dL_isCertain_22 (by decide) ?_
    exact r_iret CE rfl rfl dL_isCertain_23 (Nat.le_of_ble_eq_true rfl) ⟨_, rfl, Or.inr ⟨rfl, hx1, hx2⟩⟩
  skip
  refine r_if_eq (tgt := 15) C dL_isCertain_8 (by decide) (fun c_8 => ?_) (fun c_8 => ?_)
  · -- 15
    refine r_lconst (v := 0) C dL_isCertain_15 (by decide) ?_
    refine r_last C (0) (by decide) rfl rfl (by decide) dL_isCertain_16 ?_
    refine r_goto (tgt := 24) C dL_isCertain_17 (by decide) ?_
    refine r_iconst (v := 0) C dL_isCertain_24 (by decide) ?_
    exact r_iret CE rfl rfl dL_isCertain_25 (Nat.le_of_ble_eq_true rfl) ⟨_, rfl, Or.inl ⟨_, _, h_5, rfl, by first | rw [if_pos c_8] | rw [if_neg c_8]⟩⟩
  · -- 11
    refine r_lconst (v := 1) C dL_isCertain_11 (by decide) ?_
    refine r_goto (tgt := 16) C dL_isCertain_12 (by decide) ?_
    refine r_last C (0) (by decide) rfl rfl (by decide) dL_isCertain_16 ?_
    refine r_goto (tgt := 24) C dL_isCertain_17 (by decide) ?_
    refine r_iconst (v := 0) C dL_isCertain_24 (by decide) ?_
    exact r_iret CE rfl rfl dL_isCertain_25 (Nat.le_of_ble_eq_true rfl) ⟨_, rfl, Or.inl ⟨_, _, h_5, rfl, by first | rw [if_pos c_8] | rw [if_neg c_8]⟩⟩
set_option maxHeartbeats 4000000 in
set_option maxRecDepth 100000 in
/-- L_regret -/
theorem con_L_regret (l : Launch) (hfl : l.stackTraces = false) {A : DA} {x y : Int32}  (X : St) (hD : DInv X A) : ConN l yL_regret cL_regret 5 (some (FieldType.int)) [(0, 10, 13, 22), (0, 10, 17, 53)] 10 232 3 (fun G => [.ref (G.2.1 0), .int x, .int y, .ref (G.2.1 36)]) X (kI (fun r9 X' => (∃ r1 X1, (∃ r c, r < A.R ∧ c < A.C ∧ x = nI r ∧ y = nI c ∧ (us A.ra A.ca A.z r).testBit c = true ∧ r1 = i32 (xW A.ra A.ca A.z r c) ∧ DInv X1 A ∧ Fr Dp X X1) ∧ r9 = 0 ∧ X' = Yu X1 36 (vp_updL (Zu X1 36) 0 r1.toInt64)) ∨ (r9 = 1 ∧ X = X' ∧ (inI x A.R && inI y A.C) = false) ∨ (r9 = 2 ∧ X = X' ∧ inI x A.R = true ∧ inI y A.C = true ∧ ∀ r c, x = nI r → y = nI c → r < 10 → c < 10 → (us A.ra A.ca A.z r).testBit c = false))) := by
  refine conN_of (lv := fun G => [(0, .ref (G.2.1 0)), (1, .int x), (2, .int y), (3, .ref (G.2.1 36))]) hfl (by decide +kernel) (fun _ => rfl) (fun _ => Nat.le_of_ble_eq_true rfl) ?_
  intro G J JX CN
  have CE := CN.c
  have C := CE.b
  refine r_aload_n C dL_regret_0 rfl rfl ?_
  refine r_iconst (v := 0) C dL_regret_1 (by decide) ?_
  refine r_aload_n C dL_regret_2 rfl rfl ?_
  refine r_iload_n C dL_regret_3 rfl rfl ?_
  refine r_iload_n C dL_regret_4 rfl rfl ?_
  refine cl_RL_68 C (con_X5_regret l hfl _ hD) dL_regret_5 rfl ⟨Nat.le_of_ble_eq_true rfl, Nat.le_of_ble_eq_true rfl⟩ (by omega) (Nat.le_of_ble_eq_true rfl) (fun E_5 X_5 x_5 => ?_) (fun r_5 X_5 h_5 => ?_)
  · -- thrown
    rcases x_5 with ⟨rfl, hx1, hx2⟩ | ⟨rfl, hx1, hx2⟩
    · refine r_catch CN [] _ (tableOf [(0, 10, 17, 53)]) rfl (by decide +kernel) (by decide +kernel) (by decide +kernel) ck_RL_22 cas_IO (fun q => ?_)
      refine r_astore C dL_regret_13 (by decide) ?_
      refine r_iconst (v := 1) C dL_regret_15 (by decide) ?_
      exact r_iret CE rfl rfl dL_regret_16 (Nat.le_of_ble_eq_true rfl) ⟨_, rfl, Or.inr (Or.inl ⟨rfl, hx1, hx2⟩)⟩
    · refine r_catch CN (tableOf [(0, 10, 13, 22)]) _ [] rfl (by decide +kernel) (by decide +kernel) (by decide +kernel) ck_RL_53 cas_NS (fun q => ?_)
      refine r_astore C dL_regret_17 (by decide) ?_
      refine r_iconst (v := 2) C dL_regret_19 (by decide) ?_
      exact r_iret CE rfl rfl dL_regret_20 (Nat.le_of_ble_eq_true rfl) ⟨_, rfl, Or.inr (Or.inr (⟨rfl, hx1, hx2⟩))⟩
  skip
  refine r_i2l C dL_regret_8 ?_
  refine r_last C (0) (by decide) rfl rfl (by decide) dL_regret_9 ?_
  refine r_goto (tgt := 21) C dL_regret_10 (by decide) ?_
  refine r_iconst (v := 0) C dL_regret_21 (by decide) ?_
  exact r_iret CE rfl rfl dL_regret_22 (Nat.le_of_ble_eq_true rfl) ⟨_, rfl, Or.inl ⟨_, _, h_5, rfl, rfl⟩⟩
set_option maxHeartbeats 4000000 in
set_option maxRecDepth 100000 in
/-- L_loss -/
theorem con_L_loss (l : Launch) (hfl : l.stackTraces = false) {A : DA} {x y : Int32}  (X : St) (hD : DInv X A) : ConN l yL_loss cL_loss 5 (some (FieldType.int)) [(0, 10, 13, 22)] 9 232 2 (fun G => [.ref (G.2.1 0), .int x, .int y, .ref (G.2.1 36)]) X (kI (fun r9 X' => (∃ r1 X1, (∃ r c, r < A.R ∧ c < A.C ∧ x = nI r ∧ y = nI c ∧ r1 = i32 (xO A.ra A.ca A.z r c) ∧ DInv X1 A ∧ Fr Dp X X1) ∧ r9 = 0 ∧ X' = Yu X1 36 (vp_updL (Zu X1 36) 0 r1.toInt64)) ∨ (r9 = 1 ∧ X = X' ∧ (inI x A.R && inI y A.C) = false))) := by
  refine conN_of (lv := fun G => [(0, .ref (G.2.1 0)), (1, .int x), (2, .int y), (3, .ref (G.2.1 36))]) hfl (by decide +kernel) (fun _ => rfl) (fun _ => Nat.le_of_ble_eq_true rfl) ?_
  intro G J JX CN
  have CE := CN.c
  have C := CE.b
  refine r_aload_n C dL_loss_0 rfl rfl ?_
  refine r_iconst (v := 0) C dL_loss_1 (by decide) ?_
  refine r_aload_n C dL_loss_2 rfl rfl ?_
  refine r_iload_n C dL_loss_3 rfl rfl ?_
  refine r_iload_n C dL_loss_4 rfl rfl ?_
  refine cl_RL_71 C (con_X5_loss l hfl _ hD) dL_loss_5 rfl ⟨Nat.le_of_ble_eq_true rfl, Nat.le_of_ble_eq_true rfl⟩ (by omega) (Nat.le_of_ble_eq_true rfl) (fun E_5 X_5 x_5 => ?_) (fun r_5 X_5 h_5 => ?_)
  · -- thrown
    obtain ⟨rfl, hx1, hx2⟩ := x_5
    refine r_catch CN [] _ [] rfl (by decide +kernel) (by decide +kernel) (by decide +kernel) ck_RL_22 cas_IO (fun q => ?_)
    refine r_astore C dL_loss_13 (by decide) ?_
    refine r_iconst (v := 1) C dL_loss_15 (by decide) ?_
    exact r_iret CE rfl rfl dL_loss_16 (Nat.le_of_ble_eq_true rfl) ⟨_, rfl, Or.inr ⟨rfl, hx1, hx2⟩⟩
  skip
  refine r_i2l C dL_loss_8 ?_
  refine r_last C (0) (by decide) rfl rfl (by decide) dL_loss_9 ?_
  refine r_goto (tgt := 17) C dL_loss_10 (by decide) ?_
  refine r_iconst (v := 0) C dL_loss_17 (by decide) ?_
  exact r_iret CE rfl rfl dL_loss_18 (Nat.le_of_ble_eq_true rfl) ⟨_, rfl, Or.inl ⟨_, _, h_5, rfl, rfl⟩⟩
set_option maxHeartbeats 4000000 in
set_option maxRecDepth 100000 in
/-- L_greatestCost -/
theorem con_L_greatestCost (l : Launch) (hfl : l.stackTraces = false) {A : DA} {x y : Int32}  (X : St) (hD : DInv X A) : ConN l yL_greatestCost cL_greatestCost 5 (some (FieldType.int)) [(0, 10, 13, 22), (0, 10, 17, 53)] 10 235 3 (fun G => [.ref (G.2.1 0), .int x, .int y, .ref (G.2.1 36)]) X (kI (fun r9 X' => (∃ r1 X1, (∃ r c, r < A.R ∧ c < A.C ∧ x = nI r ∧ y = nI c ∧ (us A.ra A.ca A.z r).testBit c = true ∧ r1 = i32 (gcf (A.z (10 * r + c)) (xW A.ra A.ca A.z r c) (xO A.ra A.ca A.z r c)) ∧ DInv X1 A ∧ Fr Dp X X1) ∧ r9 = 0 ∧ X' = Yu X1 36 (vp_updL (Zu X1 36) 0 r1.toInt64)) ∨ (r9 = 1 ∧ X = X' ∧ (inI x A.R && inI y A.C) = false) ∨ (r9 = 2 ∧ X = X' ∧ inI x A.R = true ∧ inI y A.C = true ∧ ∀ r c, x = nI r → y = nI c → r < 10 → c < 10 → (us A.ra A.ca A.z r).testBit c = false))) := by
  refine conN_of (lv := fun G => [(0, .ref (G.2.1 0)), (1, .int x), (2, .int y), (3, .ref (G.2.1 36))]) hfl (by decide +kernel) (fun _ => rfl) (fun _ => Nat.le_of_ble_eq_true rfl) ?_
  intro G J JX CN
  have CE := CN.c
  have C := CE.b
  refine r_aload_n C dL_greatestCost_0 rfl rfl ?_
  refine r_iconst (v := 0) C dL_greatestCost_1 (by decide) ?_
  refine r_aload_n C dL_greatestCost_2 rfl rfl ?_
  refine r_iload_n C dL_greatestCost_3 rfl rfl ?_
  refine r_iload_n C dL_greatestCost_4 rfl rfl ?_
  refine cl_RL_74 C (con_X5_greatestCost l hfl _ hD) dL_greatestCost_5 rfl ⟨Nat.le_of_ble_eq_true rfl, Nat.le_of_ble_eq_true rfl⟩ (by omega) (Nat.le_of_ble_eq_true rfl) (fun E_5 X_5 x_5 => ?_) (fun r_5 X_5 h_5 => ?_)
  · -- thrown
    rcases x_5 with ⟨rfl, hx1, hx2⟩ | ⟨rfl, hx1, hx2⟩
    · refine r_catch CN [] _ (tableOf [(0, 10, 17, 53)]) rfl (by decide +kernel) (by decide +kernel) (by decide +kernel) ck_RL_22 cas_IO (fun q => ?_)
      refine r_astore C dL_greatestCost_13 (by decide) ?_
      refine r_iconst (v := 1) C dL_greatestCost_15 (by decide) ?_
      exact r_iret CE rfl rfl dL_greatestCost_16 (Nat.le_of_ble_eq_true rfl) ⟨_, rfl, Or.inr (Or.inl ⟨rfl, hx1, hx2⟩)⟩
    · refine r_catch CN (tableOf [(0, 10, 13, 22)]) _ [] rfl (by decide +kernel) (by decide +kernel) (by decide +kernel) ck_RL_53 cas_NS (fun q => ?_)
      refine r_astore C dL_greatestCost_17 (by decide) ?_
      refine r_iconst (v := 2) C dL_greatestCost_19 (by decide) ?_
      exact r_iret CE rfl rfl dL_greatestCost_20 (Nat.le_of_ble_eq_true rfl) ⟨_, rfl, Or.inr (Or.inr (⟨rfl, hx1, hx2⟩))⟩
  skip
  refine r_i2l C dL_greatestCost_8 ?_
  refine r_last C (0) (by decide) rfl rfl (by decide) dL_greatestCost_9 ?_
  refine r_goto (tgt := 21) C dL_greatestCost_10 (by decide) ?_
  refine r_iconst (v := 0) C dL_greatestCost_21 (by decide) ?_
  exact r_iret CE rfl rfl dL_greatestCost_22 (Nat.le_of_ble_eq_true rfl) ⟨_, rfl, Or.inl ⟨_, _, h_5, rfl, rfl⟩⟩
set_option maxHeartbeats 4000000 in
set_option maxRecDepth 100000 in
/-- L_rank -/
theorem con_L_rank (l : Launch) (hfl : l.stackTraces = false) {A : DA} {x : Int32}  (X : St) (hD : DInv X A) : ConN l yL_rank cL_rank 4 (some (FieldType.int)) [(0, 9, 12, 31)] 8 251 1 (fun G => [.ref (G.2.1 0), .int x, .ref (G.2.1 36)]) X (kI (fun r9 X' => (∃ r1 X1, (∃ n, 1 ≤ n ∧ n ≤ 30 ∧ x = nI n ∧ r1 = nI (rankB A.ra A.ca A.z n (Ls A.ra A.ca A.z 10 A.ca) 10).length ∧ DInv X1 (A.lis (rankB A.ra A.ca A.z n (Ls A.ra A.ca A.z 10 A.ca) 10)) ∧ Fr Dp X X1) ∧ r9 = 0 ∧ X' = Yu X1 36 (vp_updL (Zu X1 36) 0 r1.toInt64)) ∨ (r9 = 1 ∧ X = X' ∧ inL x = false))) := by
  refine conN_of (lv := fun G => [(0, .ref (G.2.1 0)), (1, .int x), (2, .ref (G.2.1 36))]) hfl (by decide +kernel) (fun _ => rfl) (fun _ => Nat.le_of_ble_eq_true rfl) ?_
  intro G J JX CN
  have CE := CN.c
  have C := CE.b
  refine r_aload_n C dL_rank_0 rfl rfl ?_
  refine r_iconst (v := 0) C dL_rank_1 (by decide) ?_
  refine r_aload_n C dL_rank_2 rfl rfl ?_
  refine r_iload_n C dL_rank_3 rfl rfl ?_
  refine cl_RL_77 C (con_X5_rank l hfl _ hD) dL_rank_4 rfl ⟨Nat.le_of_ble_eq_true rfl, Nat.le_of_ble_eq_true rfl⟩ (by omega) (Nat.le_of_ble_eq_true rfl) (fun E_4 X_4 x_4 => ?_) (fun r_4 X_4 h_4 => ?_)
  · -- thrown
    obtain ⟨rfl, hx1, hx2⟩ := x_4
    refine r_catch CN [] _ [] rfl (by decide +kernel) (by decide +kernel) (by decide +kernel) ck_RL_31 cas_IA (fun q => ?_)
    refine r_astore_n C dL_rank_12 rfl (by decide) ?_
    refine r_iconst (v := 1) C dL_rank_13 (by decide) ?_
    exact r_iret CE rfl rfl dL_rank_14 (Nat.le_of_ble_eq_true rfl) ⟨_, rfl, Or.inr ⟨rfl, hx1, hx2⟩⟩
  skip
  refine r_i2l C dL_rank_7 ?_
  refine r_last C (0) (by decide) rfl rfl (by decide) dL_rank_8 ?_
  refine r_goto (tgt := 15) C dL_rank_9 (by decide) ?_
  refine r_iconst (v := 0) C dL_rank_15 (by decide) ?_
  exact r_iret CE rfl rfl dL_rank_16 (Nat.le_of_ble_eq_true rfl) ⟨_, rfl, Or.inl ⟨_, _, h_4, rfl, rfl⟩⟩
set_option maxHeartbeats 4000000 in
set_option maxRecDepth 100000 in
/-- L_rankedCost -/
theorem con_L_rankedCost (l : Launch) (hfl : l.stackTraces = false) {A : DA} {x : Int32}  (X : St) (hD : DInv X A) : ConN l yL_rankedCost cL_rankedCost 4 (some (FieldType.int)) [(0, 9, 12, 22)] 8 151 1 (fun G => [.ref (G.2.1 0), .int x, .ref (G.2.1 36)]) X (kI (fun r9 X' => (∃ r1 X1, (∃ (i : Nat) (e : BE), A.rl[i]? = some e ∧ x = nI i ∧ r1 = i32 (csf e.1) ∧ X = X1) ∧ r9 = 0 ∧ X' = Yu X1 36 (vp_updL (Zu X1 36) 0 r1.toInt64)) ∨ (r9 = 1 ∧ X = X' ∧ inI x A.rl.length = false))) := by
  refine conN_of (lv := fun G => [(0, .ref (G.2.1 0)), (1, .int x), (2, .ref (G.2.1 36))]) hfl (by decide +kernel) (fun _ => rfl) (fun _ => Nat.le_of_ble_eq_true rfl) ?_
  intro G J JX CN
  have CE := CN.c
  have C := CE.b
  refine r_aload_n C dL_rankedCost_0 rfl rfl ?_
  refine r_iconst (v := 0) C dL_rankedCost_1 (by decide) ?_
  refine r_aload_n C dL_rankedCost_2 rfl rfl ?_
  refine r_iload_n C dL_rankedCost_3 rfl rfl ?_
  refine cl_RL_80 C (con_X5_rankedCost l hfl _ hD) dL_rankedCost_4 rfl ⟨Nat.le_of_ble_eq_true rfl, Nat.le_of_ble_eq_true rfl⟩ (by omega) (Nat.le_of_ble_eq_true rfl) (fun E_4 X_4 x_4 => ?_) (fun r_4 X_4 h_4 => ?_)
  · -- thrown
    obtain ⟨rfl, hx1, hx2⟩ := x_4
    refine r_catch CN [] _ [] rfl (by decide +kernel) (by decide +kernel) (by decide +kernel) ck_RL_22 cas_IO (fun q => ?_)
    refine r_astore_n C dL_rankedCost_12 rfl (by decide) ?_
    refine r_iconst (v := 1) C dL_rankedCost_13 (by decide) ?_
    exact r_iret CE rfl rfl dL_rankedCost_14 (Nat.le_of_ble_eq_true rfl) ⟨_, rfl, Or.inr ⟨rfl, hx1, hx2⟩⟩
  skip
  refine r_i2l C dL_rankedCost_7 ?_
  refine r_last C (0) (by decide) rfl rfl (by decide) dL_rankedCost_8 ?_
  refine r_goto (tgt := 15) C dL_rankedCost_9 (by decide) ?_
  refine r_iconst (v := 0) C dL_rankedCost_15 (by decide) ?_
  exact r_iret CE rfl rfl dL_rankedCost_16 (Nat.le_of_ble_eq_true rfl) ⟨_, rfl, Or.inl ⟨_, _, h_4, rfl, rfl⟩⟩
set_option maxHeartbeats 4000000 in
set_option maxRecDepth 100000 in
/-- L_rankedColumn -/
theorem con_L_rankedColumn (l : Launch) (hfl : l.stackTraces = false) {A : DA} {x y : Int32}  (X : St) (hD : DInv X A) : ConN l yL_rankedColumn cL_rankedColumn 5 (some (FieldType.int)) [(0, 10, 13, 22)] 8 152 2 (fun G => [.ref (G.2.1 0), .int x, .int y, .ref (G.2.1 36)]) X (kI (fun r9 X' => (∃ r1 X1, (∃ (i : Nat) (e : BE) (r : Nat), A.rl[i]? = some e ∧ x = nI i ∧ r < A.R ∧ y = nI r ∧ r1 = clf e.2.1 r ∧ X = X1) ∧ r9 = 0 ∧ X' = Yu X1 36 (vp_updL (Zu X1 36) 0 r1.toInt64)) ∨ (r9 = 1 ∧ X = X' ∧ (inI x A.rl.length && inI y A.R) = false))) := by
  refine conN_of (lv := fun G => [(0, .ref (G.2.1 0)), (1, .int x), (2, .int y), (3, .ref (G.2.1 36))]) hfl (by decide +kernel) (fun _ => rfl) (fun _ => Nat.le_of_ble_eq_true rfl) ?_
  intro G J JX CN
  have CE := CN.c
  have C := CE.b
  refine r_aload_n C dL_rankedColumn_0 rfl rfl ?_
  refine r_iconst (v := 0) C dL_rankedColumn_1 (by decide) ?_
  refine r_aload_n C dL_rankedColumn_2 rfl rfl ?_
  refine r_iload_n C dL_rankedColumn_3 rfl rfl ?_
  refine r_iload_n C dL_rankedColumn_4 rfl rfl ?_
  refine cl_RL_83 C (con_X5_rankedColumn l hfl _ hD) dL_rankedColumn_5 rfl ⟨Nat.le_of_ble_eq_true rfl, Nat.le_of_ble_eq_true rfl⟩ (by omega) (Nat.le_of_ble_eq_true rfl) (fun E_5 X_5 x_5 => ?_) (fun r_5 X_5 h_5 => ?_)
  · -- thrown
    obtain ⟨rfl, hx1, hx2⟩ := x_5
    refine r_catch CN [] _ [] rfl (by decide +kernel) (by decide +kernel) (by decide +kernel) ck_RL_22 cas_IO (fun q => ?_)
    refine r_astore C dL_rankedColumn_13 (by decide) ?_
    refine r_iconst (v := 1) C dL_rankedColumn_15 (by decide) ?_
    exact r_iret CE rfl rfl dL_rankedColumn_16 (Nat.le_of_ble_eq_true rfl) ⟨_, rfl, Or.inr ⟨rfl, hx1, hx2⟩⟩
  skip
  refine r_i2l C dL_rankedColumn_8 ?_
  refine r_last C (0) (by decide) rfl rfl (by decide) dL_rankedColumn_9 ?_
  refine r_goto (tgt := 17) C dL_rankedColumn_10 (by decide) ?_
  refine r_iconst (v := 0) C dL_rankedColumn_17 (by decide) ?_
  exact r_iret CE rfl rfl dL_rankedColumn_18 (Nat.le_of_ble_eq_true rfl) ⟨_, rfl, Or.inl ⟨_, _, h_5, rfl, rfl⟩⟩
set_option maxHeartbeats 4000000 in
set_option maxRecDepth 100000 in
/-- L_push -/
theorem con_L_push (l : Launch) (hfl : l.stackTraces = false) {A : DA}  (X : St) (hD : DInv X A) : ConN l yL_push cL_push 3 (some (FieldType.int)) [(0, 8, 11, 13)] 8 130 1 (fun G => [.ref (G.2.1 0), .ref (G.2.1 36)]) X (kI (fun r9 X' => (∃ r1 X1, (A.lv.length < 8 ∧ r1 = nI (A.lv.length + 1) ∧ DInv X1 (A.lvl (A.lv ++ [(A.ra, A.ca, A.z)])) ∧ Fr Dp X X1) ∧ r9 = 0 ∧ X' = Yu X1 36 (vp_updL (Zu X1 36) 0 r1.toInt64)) ∨ (r9 = 1 ∧ X = X' ∧ A.lv.length = 8))) := by
  refine conN_of (lv := fun G => [(0, .ref (G.2.1 0)), (1, .ref (G.2.1 36))]) hfl (by decide +kernel) (fun _ => rfl) (fun _ => Nat.le_of_ble_eq_true rfl) ?_
  intro G J JX CN
  have CE := CN.c
  have C := CE.b
  refine r_aload_n C dL_push_0 rfl rfl ?_
  refine r_iconst (v := 0) C dL_push_1 (by decide) ?_
  refine r_aload_n C dL_push_2 rfl rfl ?_
  refine cl_RL_86 C (con_X5_push l hfl _ hD) dL_push_3 rfl ⟨Nat.le_of_ble_eq_true rfl, Nat.le_of_ble_eq_true rfl⟩ (by omega) (Nat.le_of_ble_eq_true rfl) (fun E_3 X_3 x_3 => ?_) (fun r_3 X_3 h_3 => ?_)
  · -- thrown
    obtain ⟨rfl, hx1, hx2⟩ := x_3
    refine r_catch CN [] _ [] rfl (by decide +kernel) (by decide +kernel) (by decide +kernel) ck_RL_13 cas_ISE (fun q => ?_)
    refine r_astore_n C dL_push_11 rfl (by decide) ?_
    refine r_iconst (v := 1) C dL_push_12 (by decide) ?_
    exact r_iret CE rfl rfl dL_push_13 (Nat.le_of_ble_eq_true rfl) ⟨_, rfl, Or.inr ⟨rfl, hx1, hx2⟩⟩
  skip
  refine r_i2l C dL_push_6 ?_
  refine r_last C (0) (by decide) rfl rfl (by decide) dL_push_7 ?_
  refine r_goto (tgt := 14) C dL_push_8 (by decide) ?_
  refine r_iconst (v := 0) C dL_push_14 (by decide) ?_
  exact r_iret CE rfl rfl dL_push_15 (Nat.le_of_ble_eq_true rfl) ⟨_, rfl, Or.inl ⟨_, _, h_3, rfl, rfl⟩⟩
set_option maxHeartbeats 4000000 in
set_option maxRecDepth 100000 in
/-- L_pop -/
theorem con_L_pop (l : Launch) (hfl : l.stackTraces = false) {A : DA}  (X : St) (hD : DInv X A) : ConN l yL_pop cL_pop 3 (some (FieldType.int)) [(0, 8, 11, 13)] 8 130 1 (fun G => [.ref (G.2.1 0), .ref (G.2.1 36)]) X (kI (fun r9 X' => (∃ r1 X1, (∃ (n : Nat) (x : Nat × Nat × (Nat → Int)), A.lv.length = n + 1 ∧ A.lv[n]? = some x ∧ r1 = nI n ∧ DInv X1 ((A.lvl (A.lv.take n)).tab A.R A.C x.1 x.2.1 x.2.2) ∧ Fr Dp X X1) ∧ r9 = 0 ∧ X' = Yu X1 36 (vp_updL (Zu X1 36) 0 r1.toInt64)) ∨ (r9 = 1 ∧ X = X' ∧ A.lv.length = 0))) := by
  refine conN_of (lv := fun G => [(0, .ref (G.2.1 0)), (1, .ref (G.2.1 36))]) hfl (by decide +kernel) (fun _ => rfl) (fun _ => Nat.le_of_ble_eq_true rfl) ?_
  intro G J JX CN
  have CE := CN.c
  have C := CE.b
  refine r_aload_n C dL_pop_0 rfl rfl ?_
  refine r_iconst (v := 0) C dL_pop_1 (by decide) ?_
  refine r_aload_n C dL_pop_2 rfl rfl ?_
  refine cl_RL_89 C (con_X5_pop l hfl _ hD) dL_pop_3 rfl ⟨Nat.le_of_ble_eq_true rfl, Nat.le_of_ble_eq_true rfl⟩ (by omega) (Nat.le_of_ble_eq_true rfl) (fun E_3 X_3 x_3 => ?_) (fun r_3 X_3 h_3 => ?_)
  · -- thrown
    obtain ⟨rfl, hx1, hx2⟩ := x_3
    refine r_catch CN [] _ [] rfl (by decide +kernel) (by decide +kernel) (by decide +kernel) ck_RL_13 cas_ISE (fun q => ?_)
    refine r_astore_n C dL_pop_11 rfl (by decide) ?_
    refine r_iconst (v := 1) C dL_pop_12 (by decide) ?_
    exact r_iret CE rfl rfl dL_pop_13 (Nat.le_of_ble_eq_true rfl) ⟨_, rfl, Or.inr ⟨rfl, hx1, hx2⟩⟩
  skip
  refine r_i2l C dL_pop_6 ?_
  refine r_last C (0) (by decide) rfl rfl (by decide) dL_pop_7 ?_
  refine r_goto (tgt := 14) C dL_pop_8 (by decide) ?_
  refine r_iconst (v := 0) C dL_pop_14 (by decide) ?_
  exact r_iret CE rfl rfl dL_pop_15 (Nat.le_of_ble_eq_true rfl) ⟨_, rfl, Or.inl ⟨_, _, h_3, rfl, rfl⟩⟩
