/-! ===== the law's own methods ===== -/
section ZLA
variable {l : Launch} {cc : ByteArray} {nL : Nat} {G : Geo} {fr lo um : Nat} {J : JT} {JX : JXT} {X : St} {u pc : Nat} {lv : List (Nat × Value)} {st : List Value}
theorem ca_RL_18 (C : Cb l RL cc nL G fr lo um J JX) {fr' lo' : Nat} {As : List Value} {a1 a2 : Value} {PP : Int32 → St → Prop} (hM : ConAt l G yL_cell cL_cell 2 (some (FieldType.int)) fr' lo' 0 As X (kI PP) kF) (hdg : decode cc pc = .ok (.invokestatic 18, 3)) (har : As = [a1, a2]) (hR : fr' + 1 ≤ fr ∧ 8 + (2 + 11) + lo' ≤ lo) (hu : u + 0 ≤ um) (hs8 : (st.map fun v => v.category).sum ≤ 8) (kk : ∀ r X', PP r X' → J X' u (pc + 3) lv (.int r :: st)) : J X u pc lv (a2 :: a1 :: st) := by
  subst har
  exact r_cSAt C [a1, a2] hM cw_L_cell st_L_cell ik_RL nm_L_cell lk_RL_18 hdg rfl rfl hR hu hs8 (fun _ _ h9 => h9.elim) (fun v X' h9 => by obtain ⟨r9, rfl, h8⟩ := h9; exact kk r9 X' h8)
theorem ca_RL_52 (C : Cb l RL cc nL G fr lo um J JX) {fr' lo' : Nat} {As : List Value} {a1 a2 a3 a4 : Value} {u' : Nat} {PP : Int32 → St → Prop} (hM : ConAt l G yL_build cL_build 6 (some (FieldType.boolean)) fr' lo' u' As X (kI PP) kF) (hdg : decode cc pc = .ok (.invokestatic 52, 3)) (har : As = [a1, a2, a3, a4]) (hR : fr' + 1 ≤ fr ∧ 8 + (6 + 11) + lo' ≤ lo) (hu : u + u' ≤ um) (hs8 : (st.map fun v => v.category).sum ≤ 8) (kk : ∀ r X', PP r X' → J X' (u + u') (pc + 3) lv (.int r :: st)) : J X u pc lv (a4 :: a3 :: a2 :: a1 :: st) := by
  subst har
  exact r_cSAt C [a1, a2, a3, a4] hM cw_L_build st_L_build ik_RL nm_L_build lk_RL_52 hdg rfl rfl hR hu hs8 (fun _ _ h9 => h9.elim) (fun v X' h9 => by obtain ⟨r9, rfl, h8⟩ := h9; exact kk r9 X' h8)
theorem ca_RL_35 (C : Cb l RL cc nL G fr lo um J JX) {fr' lo' : Nat} {As : List Value} {a1 a2 : Value} {PP : Int32 → St → Prop} (hM : ConAt l G yL_sizeOf cL_sizeOf 6 (some (FieldType.int)) fr' lo' 0 As X (kI PP) kF) (hdg : decode cc pc = .ok (.invokestatic 35, 3)) (har : As = [a1, a2]) (hR : fr' + 1 ≤ fr ∧ 8 + (6 + 11) + lo' ≤ lo) (hu : u + 0 ≤ um) (hs8 : (st.map fun v => v.category).sum ≤ 8) (kk : ∀ r X', PP r X' → J X' u (pc + 3) lv (.int r :: st)) : J X u pc lv (a2 :: a1 :: st) := by
  subst har
  exact r_cSAt C [a1, a2] hM cw_L_sizeOf st_L_sizeOf ik_RL nm_L_sizeOf lk_RL_35 hdg rfl rfl hR hu hs8 (fun _ _ h9 => h9.elim) (fun v X' h9 => by obtain ⟨r9, rfl, h8⟩ := h9; exact kk r9 X' h8)
theorem ca_RL_48 (C : Cb l RL cc nL G fr lo um J JX) {fr' lo' : Nat} {As : List Value} {a1 a2 : Value} {PP : Int32 → St → Prop} (hM : ConAt l G yL_costOf cL_costOf 4 (some (FieldType.int)) fr' lo' 0 As X (kI PP) kF) (hdg : decode cc pc = .ok (.invokestatic 48, 3)) (har : As = [a1, a2]) (hR : fr' + 1 ≤ fr ∧ 8 + (4 + 11) + lo' ≤ lo) (hu : u + 0 ≤ um) (hs8 : (st.map fun v => v.category).sum ≤ 8) (kk : ∀ r X', PP r X' → J X' u (pc + 3) lv (.int r :: st)) : J X u pc lv (a2 :: a1 :: st) := by
  subst har
  exact r_cSAt C [a1, a2] hM cw_L_costOf st_L_costOf ik_RL nm_L_costOf lk_RL_48 hdg rfl rfl hR hu hs8 (fun _ _ h9 => h9.elim) (fun v X' h9 => by obtain ⟨r9, rfl, h8⟩ := h9; exact kk r9 X' h8)
theorem ca_RL_67 (C : Cb l RL cc nL G fr lo um J JX) {fr' lo' : Nat} {As : List Value} {a1 : Value} {PP : Int32 → St → Prop} (hM : ConAt l G yL_best cL_best 4 (some (FieldType.int)) fr' lo' 0 As X (kI PP) kF) (hdg : decode cc pc = .ok (.invokestatic 67, 3)) (har : As = [a1]) (hR : fr' + 1 ≤ fr ∧ 8 + (4 + 11) + lo' ≤ lo) (hu : u + 0 ≤ um) (hs8 : (st.map fun v => v.category).sum ≤ 8) (kk : ∀ r X', PP r X' → J X' u (pc + 3) lv (.int r :: st)) : J X u pc lv (a1 :: st) := by
  subst har
  exact r_cSAt C [a1] hM cw_L_best st_L_best ik_RL nm_L_best lk_RL_67 hdg rfl rfl hR hu hs8 (fun _ _ h9 => h9.elim) (fun v X' h9 => by obtain ⟨r9, rfl, h8⟩ := h9; exact kk r9 X' h8)
theorem ca_RL_44 (C : Cb l RL cc nL G fr lo um J JX) {fr' lo' : Nat} {As : List Value} {a1 : Value} {PP : Int32 → St → Prop} (hM : ConAt l G yL_greatestSize cL_greatestSize 3 (some (FieldType.int)) fr' lo' 0 As X (kI PP) kF) (hdg : decode cc pc = .ok (.invokestatic 44, 3)) (har : As = [a1]) (hR : fr' + 1 ≤ fr ∧ 8 + (3 + 11) + lo' ≤ lo) (hu : u + 0 ≤ um) (hs8 : (st.map fun v => v.category).sum ≤ 8) (kk : ∀ r X', PP r X' → J X' u (pc + 3) lv (.int r :: st)) : J X u pc lv (a1 :: st) := by
  subst har
  exact r_cSAt C [a1] hM cw_L_greatestSize st_L_greatestSize ik_RL nm_L_greatestSize lk_RL_44 hdg rfl rfl hR hu hs8 (fun _ _ h9 => h9.elim) (fun v X' h9 => by obtain ⟨r9, rfl, h8⟩ := h9; exact kk r9 X' h8)
end ZLA
theorem i32_tdiv {j N : Nat} (hj : j < 2 ^ 31) (hN : N < 2 ^ 31) : nI j / nI N = nI (j / N) := by
  have h : ((j : Int).tdiv (N : Int)) = ((j / N : Nat) : Int) := (Int.ofNat_tdiv j N).symm
  have h2 : ∀ q : Nat, q ≤ j → ok32 (q : Int) := fun q hq => ⟨by omega, by omega⟩
  rw [i32_n, i32_n, i32_div (h2 j (Nat.le_refl j)) ⟨by omega, by omega⟩ (by rw [h]; exact h2 _ (Nat.div_le_self j N)), h]
  rfl
theorem irem_n {j N : Nat} (hj : j < 2 ^ 31) (hN : N < 2 ^ 31) : nI j - nI j / nI N * nI N = nI (j % N) := by
  rw [i32_tdiv hj hN, i32_n, i32_n, i32_n, i32_n, i32_mul, i32_sub]
  refine congrArg i32 ?_
  have h := Nat.div_add_mod j N
  have h2 : ((j / N : Nat) : Int) * (N : Int) = ((N * (j / N) : Nat) : Int) := by rw [Nat.mul_comm N]; exact (Int.natCast_mul _ _).symm
  rw [h2]
  omega
theorem and_max (x : Int32) : ∃ j, j < 2 ^ 31 ∧ x &&& 2147483647 = nI j := by
  refine ⟨(x &&& 2147483647).toBitVec.toNat, ?_, ?_⟩
  · rw [Int32.toBitVec_and, BitVec.toNat_and]
    exact Nat.lt_of_le_of_lt Nat.and_le_right (by decide)
  · apply Int32.toBitVec_inj.mp
    show _ = BitVec.ofNat 32 _
    rw [BitVec.ofNat_toNat]
    rfl
theorem zix4 (r c : Nat) : 4 * nI r + nI c = nI (4 * r + c) := by
  rw [show (4 : Int32) = nI 4 from rfl, pk_mul, nI_add]
theorem i32_max {a b : Int} (ha : ok32 a) (hb : ok32 b) : (if i32 a < i32 b then i32 b else i32 a) = i32 (max a b) := by
  by_cases h : a < b
  · rw [if_pos ((i32_lt ha hb).mpr h), Int.max_eq_right (by omega)]
  · rw [if_neg (fun q => h ((i32_lt ha hb).mp q)), Int.max_eq_left (by omega)]
theorem k99 : (99 : Int32) = i32 99 := by decide
theorem szw_bd {u : Nat → Int} {n : Nat} : ∀ (k t : Nat) (s : Int), 0 ≤ s → -1 ≤ szw u n k t s ∧ szw u n k t s ≤ s + k
  | 0, t, s, h => by unfold szw; omega
  | k + 1, t, s, h => by
    have h1 := szw_bd (u := u) (n := n) k t s h
    have h2 := szw_bd (u := u) (n := n) k (sb t (dg n (3 - k))) (s + 1) (by omega)
    unfold szw
    split
    · omega
    · split <;> omega
theorem csw_bd {u : Nat → Int} {n : Nat} (hu : ∀ k, k < 16 → -4 ≤ u k ∧ u k ≤ 99) : ∀ (k : Nat) (a : Int), k ≤ 4 → a - 4 * k ≤ csw u n k a ∧ csw u n k a ≤ a + 99 * k
  | 0, a, _ => by unfold csw; omega
  | k + 1, a, hk => by
    have hd := dg_lt n (3 - k)
    unfold csw
    by_cases h : dg n (3 - k) = 4
    · rw [if_pos h]
      have h1 := csw_bd (n := n) hu k (a + 0) (by omega)
      omega
    · rw [if_neg h]
      have h1 := csw_bd (n := n) hu k (a + u (4 * (3 - k) + dg n (3 - k))) (by omega)
      have h2 := hu (4 * (3 - k) + dg n (3 - k)) (by omega)
      omega
theorem szN_bd (u : Nat → Int) (n : Nat) : -1 ≤ szN u n ∧ szN u n ≤ 4 := by
  have := szw_bd (u := u) (n := n) 4 0 0 (by decide)
  unfold szN
  omega
theorem csN_bd {u : Nat → Int} (hu : ∀ k, k < 16 → -4 ≤ u k ∧ u k ≤ 99) (n : Nat) : -16 ≤ csN u n ∧ csN u n ≤ 396 := by
  have := csw_bd (n := n) hu 4 0 (by decide)
  unfold csN
  omega
theorem gsf_bd (u : Nat → Int) : ∀ n, 0 ≤ gsf u n ∧ gsf u n ≤ 4
  | 0 => by unfold gsf; omega
  | n + 1 => by
    have h1 := gsf_bd u n
    have h2 := szN_bd u n
    unfold gsf
    omega
theorem bsf_bd (u : Nat → Int) (g : Int) : ∀ n : Nat, bsf u g n = -1 ∨ ∃ q : Nat, bsf u g n = (q : Int) ∧ q < n
  | 0 => Or.inl rfl
  | n + 1 => by
    have h1 := bsf_bd u g n
    unfold bsf
    split
    · exact Or.inr ⟨n, rfl, by omega⟩
    · rcases h1 with h | ⟨q, h, hq⟩
      · exact Or.inl h
      · exact Or.inr ⟨q, h, by omega⟩
/-- an array of the law's costs -/
def uar (X : St) (k : Nat) (u : Nat → Int) : Prop := ∀ i, i < 16 → Zv X k i = i32 (u i) ∧ -4 ≤ u i ∧ u i ≤ 99
set_option maxHeartbeats 4000000 in
set_option maxRecDepth 100000 in
/-- L_below  -/
theorem con_L_below (l : Launch) (hfl : l.stackTraces = false) {N : Nat} {x : Int32} (X : St) (hN : 0 < N) (hN2 : N < 1000) : Con l yL_below cL_below 2 (some (FieldType.int)) 0 0 0 (fun _ => [.int x, .int (nI N)]) X (kI (fun r9 X' => (∃ k, k < N ∧ r9 = nI k) ∧ X = X')) kF := by
  refine con_of (lv := fun _ => [(0, .int x), (1, .int (nI N))]) hfl (by decide +kernel) (fun _ => rfl) (fun _ => Nat.le_of_ble_eq_true rfl) ?_
  intro G J JX CE
  have C := CE.b
  obtain ⟨j, hj, ej⟩ := and_max x
  refine r_iload_n C dL_below_0 rfl rfl ?_
  refine r_ldc C dL_below_1 nk_RL_7 ?_
  refine r_iand C dL_below_3 ?_
  refine r_topi ej ?_
  refine r_iload_n C dL_below_4 rfl rfl ?_
  refine r_irem C dL_below_5 (fun q => by have := (nI_z (by omega)).mp q; omega) ?_
  refine r_topi (irem_n hj (by omega)) ?_
  exact r_iret CE rfl rfl dL_below_6 (Nat.le_of_ble_eq_true rfl) ⟨_, rfl, ⟨_, Nat.mod_lt _ hN, rfl⟩, rfl⟩
set_option maxHeartbeats 4000000 in
set_option maxRecDepth 100000 in
/-- L_cell  -/
theorem con_L_cell (l : Launch) (hfl : l.stackTraces = false) (G : Geo) {k : Nat} (X : St) (hG : Gl G ≤ 260) (hk : k < 300) : ConAt l G yL_cell cL_cell 2 (some (FieldType.int)) 0 0 0 [.ref (Gb G), .int (nI k)] X (kI (fun _ X' => X = X')) kF := by
  refine conAt_of (lv := [(0, .ref (Gb G)), (1, .int (nI k))]) hfl (by decide +kernel) rfl (Nat.le_of_ble_eq_true rfl) ?_
  intro J JX CE
  have C := CE.b
  refine r_iload_n C dL_cell_0 rfl rfl ?_
  refine r_aload_n C dL_cell_1 rfl rfl ?_
  refine r_scl C dL_cell_2 ?_
  refine r_icmp_ge (tgt := 12) C dL_cell_3 (by decide) (fun c_3 => ?_) (fun c_3 => ?_)
  · -- 12
    refine r_ldc C dL_cell_12 nk_RL_8 ?_
    refine r_iload_n C dL_cell_14 rfl rfl ?_
    refine r_iconst (v := 3) C dL_cell_15 (by decide) ?_
    refine r_iadd C dL_cell_16 ?_
    refine r_imul C dL_cell_17 ?_
    exact r_iret CE rfl rfl dL_cell_18 (Nat.le_of_ble_eq_true rfl) ⟨_, rfl, rfl⟩
  · -- 6
    have hlt : k < Gl G := Nat.lt_of_not_le fun q => c_3 ((nI_leI (by omega) (by omega)).mpr q)
    refine r_aload_n C dL_cell_6 rfl rfl ?_
    refine r_iload_n C dL_cell_7 rfl rfl ?_
    refine r_scr C k rfl hlt (by omega) dL_cell_8 ?_
    refine r_goto (tgt := 18) C dL_cell_9 (by decide) ?_
    exact r_iret CE rfl rfl dL_cell_18 (Nat.le_of_ble_eq_true rfl) ⟨_, rfl, rfl⟩
set_option maxHeartbeats 4000000 in
set_option maxRecDepth 100000 in
theorem tl_L_column {l : Launch} {G : Geo} {J : JT} {JX : JXT} {X : St} {n r d : Nat} (hfl : l.stackTraces = false) (hn : n < 625) (hd : d < 1000) (hd0 : 0 < d) (he : n / d % 5 = dg n r) {x : Int32} (hx : x = nI d) (CE : Cl l RL cL_column 2 (some .int) [] G 0 0 0 (kI (fun r9 X' => r9 = nI (dg n r) ∧ X = X')) kF J JX) : J X 0 30 [(0, .int (nI n)), (1, .int (nI r))] [.int x, .int (nI n)] := by
  have C := CE.b
  subst hx
  refine r_idiv C dL_column_30 (fun q => by have := (nI_z (by omega)).mp q; omega) ?_
  refine r_topi (i32_tdiv (by omega) (by omega)) ?_
  refine r_iconst (v := 5) C dL_column_31 (by decide) ?_
  refine r_irem C dL_column_32 (by decide) ?_
  refine r_topi (irem_n (N := 5) (Nat.lt_of_le_of_lt (Nat.div_le_self n d) (by omega)) (by decide)) ?_
  exact r_iret CE rfl rfl dL_column_33 (Nat.le_of_ble_eq_true rfl) ⟨_, rfl, congrArg nI he, rfl⟩
set_option maxHeartbeats 4000000 in
set_option maxRecDepth 100000 in
/-- L_column  -/
theorem con_L_column (l : Launch) (hfl : l.stackTraces = false) {n r : Nat} (X : St) (hn : n < 625) (hr : r < 4) : Con l yL_column cL_column 2 (some (FieldType.int)) 0 0 0 (fun _ => [.int (nI n), .int (nI r)]) X (kI (fun r9 X' => r9 = nI (dg n r) ∧ X = X')) kF := by
  refine con_of (lv := fun _ => [(0, .int (nI n)), (1, .int (nI r))]) hfl (by decide +kernel) (fun _ => rfl) (fun _ => Nat.le_of_ble_eq_true rfl) ?_
  intro G J JX CE
  have C := CE.b
  refine r_iload_n C dL_column_0 rfl rfl ?_
  refine r_iload_n C dL_column_1 rfl rfl ?_
  refine r_if_ne (tgt := 10) C dL_column_2 (by decide) (fun c_2 => ?_) (fun c_2 => ?_)
  · -- 10
    refine r_iload_n C dL_column_10 rfl rfl ?_
    refine r_iconst (v := 1) C dL_column_11 (by decide) ?_
    refine r_icmp_ne (tgt := 20) C dL_column_12 (by decide) (fun c_12 => ?_) (fun c_12 => ?_)
    · -- 20
      refine r_iload_n C dL_column_20 rfl rfl ?_
      refine r_iconst (v := 2) C dL_column_21 (by decide) ?_
      refine r_icmp_ne (tgt := 29) C dL_column_22 (by decide) (fun c_22 => ?_) (fun c_22 => ?_)
      · -- 29
        have n0 : r ≠ 0 := fun q => c_2 (by rw [q]; rfl)
        have n1 : r ≠ 1 := fun q => c_12 (by rw [q]; rfl)
        have n2 : r ≠ 2 := fun q => c_22 (by rw [q]; rfl)
        have e3 : r = 3 := by omega
        refine r_iconst (v := 1) C dL_column_29 (by decide) ?_
        exact tl_L_column hfl hn (d := 1) (by decide) (by decide) (by subst e3; first | rfl | exact congrArg (· % 5) (Nat.div_one n)) rfl CE
      · -- 25
        have e2 : r = 2 := (nI_eq (b := 2) (by omega) (by omega)).mp c_22
        refine r_iconst (v := 5) C dL_column_25 (by decide) ?_
        refine r_goto (tgt := 30) C dL_column_26 (by decide) ?_
        exact tl_L_column hfl hn (d := 5) (by decide) (by decide) (by subst e2; first | rfl | exact congrArg (· % 5) (Nat.div_one n)) rfl CE
    · -- 15
      have e1 : r = 1 := (nI_eq (b := 1) (by omega) (by omega)).mp c_12
      refine r_bipush (v := 25) C dL_column_15 (by decide) ?_
      refine r_goto (tgt := 30) C dL_column_17 (by decide) ?_
      exact tl_L_column hfl hn (d := 25) (by decide) (by decide) (by subst e1; first | rfl | exact congrArg (· % 5) (Nat.div_one n)) rfl CE
  · -- 5
    have e0 : r = 0 := (nI_z (by omega)).mp c_2
    refine r_bipush (v := 125) C dL_column_5 (by decide) ?_
    refine r_goto (tgt := 30) C dL_column_7 (by decide) ?_
    exact tl_L_column hfl hn (d := 125) (by decide) (by decide) (by subst e0; first | rfl | exact congrArg (· % 5) (Nat.div_one n)) rfl CE
set_option maxHeartbeats 4000000 in
set_option maxRecDepth 100000 in
theorem lp_L_sizeOf {l : Launch} {G : Geo} {J : JT} {JX : JXT} {X : St} (hfl : l.stackTraces = false) {n : Nat} {u : Nat → Int} (hG : Gn G = 4) (hn : n < 625) (hu : uar X 39 u) (CE : Cl l RL cL_sizeOf 6 (some .int) [] G 1 30 0 (kI (fun r9 X' => r9 = i32 (szN u n) ∧ X = X')) kF J JX) :
    ∀ k r t (s : Int), r + k = 4 → t < 16 → szw u n k t s = szN u n → J X 0 7 [(2, .int (nI t)), (3, .int (i32 s)), (4, .int (nI r)), (0, .int (nI n)), (1, .ref (G.2.1 39))] [] := by
  have C := CE.b
  intro k
  induction k with
  | zero =>
    intro r t s h ht he
    have hc : r = 4 := by omega
    subst hc
    have he2 : s = szN u n := he
    refine r_iload C dL_sizeOf_7 rfl ?_
    refine r_iconst (v := 4) C dL_sizeOf_9 (by decide) ?_
    refine r_icmp_ge (tgt := 72) C dL_sizeOf_10 (by decide) (fun c_10 => ?_) (fun c_10 => absurd ((by decide)) c_10)
    refine r_iload_n C dL_sizeOf_72 rfl rfl ?_
    exact r_iret CE rfl rfl dL_sizeOf_73 (Nat.le_of_ble_eq_true rfl) ⟨_, rfl, by rw [he2], rfl⟩
  | succ k ih =>
    intro r t s h ht he
    have hr : r < 4 := by omega
    have e3 : 3 - k = r := by omega
    have hd := dg_lt n r
    have hux := fun hc : dg n r < 4 => hu (4 * r + dg n r) (by omega)
    unfold szw at he
    rw [e3] at he
    refine r_iload C dL_sizeOf_7 rfl ?_
    refine r_iconst (v := 4) C dL_sizeOf_9 (by decide) ?_
    refine r_icmp_ge (tgt := 72) C dL_sizeOf_10 (by decide) (fun c_10 => absurd c_10 ((nI_ge (a := r) (b := 4) (by omega) (by decide)))) (fun c_10 => ?_)
    refine r_iload_n C dL_sizeOf_13 rfl rfl ?_
    refine r_iload C dL_sizeOf_14 rfl ?_
    refine cl_RL_32 C (con_L_column l hfl _ hn hr) dL_sizeOf_16 rfl ⟨Nat.le_of_ble_eq_true rfl, Nat.le_of_ble_eq_true rfl⟩ (by omega) (Nat.le_of_ble_eq_true rfl) (fun r_16 X_16 h_16 => ?_)
    obtain ⟨rfl, rfl⟩ := h_16
    refine r_istore C dL_sizeOf_19 (by decide) ?_
    refine r_iload C dL_sizeOf_21 rfl ?_
    refine r_iconst (v := 4) C dL_sizeOf_23 (by decide) ?_
    refine r_icmp_ne (tgt := 30) C dL_sizeOf_24 (by decide) (fun c_24 => ?_) (fun c_24 => ?_)
    · -- 30
      have n4 : ¬ dg n r = 4 := fun q => c_24 (by rw [q]; rfl)
      have hc : dg n r < 4 := by omega
      rw [if_neg n4] at he
      refine r_iload_n C dL_sizeOf_30 rfl rfl ?_
      refine r_iload C dL_sizeOf_31 rfl ?_
      refine r_ishr C dL_sizeOf_33 ?_
      refine r_iconst (v := 1) C dL_sizeOf_34 (by decide) ?_
      refine r_iand C dL_sizeOf_35 ?_
      refine r_topi (shr_bit (by omega) (by omega)) ?_
      refine r_iconst (v := 1) C dL_sizeOf_36 (by decide) ?_
      refine r_icmp_eq (tgt := 54) C dL_sizeOf_37 (by decide) (fun c_37 => ?_) (fun c_37 => ?_)
      · -- 54
        have hb : t.testBit (dg n r) = true := bI_1 (by rw [c_37]; decide)
        rw [if_pos (Or.inl hb)] at he
        refine r_iconst (v := (-1)) C dL_sizeOf_54 (by decide) ?_
        exact r_iret CE rfl rfl dL_sizeOf_55 (Nat.le_of_ble_eq_true rfl) ⟨_, rfl, by rw [← he]; rfl, rfl⟩
      · -- 40
        have hb : ¬ t.testBit (dg n r) = true := fun q => c_37 (by rw [q]; rfl)
        refine r_aload_n C dL_sizeOf_40 rfl rfl ?_
        refine r_iconst (v := 4) C dL_sizeOf_41 (by decide) ?_
        refine r_iload C dL_sizeOf_42 rfl ?_
        refine r_imul C dL_sizeOf_44 ?_
        refine r_iload C dL_sizeOf_45 rfl ?_
        refine r_iadd C dL_sizeOf_47 ?_
        refine r_iald C (4 * r + dg n r) (by omega) rfl (zix4 r (dg n r)) (by omega) dL_sizeOf_48 ?_
        refine r_topi (hux hc).1 ?_
        refine r_bipush (v := 99) C dL_sizeOf_49 (by decide) ?_
        refine r_icmp_ne (tgt := 56) C dL_sizeOf_51 (by decide) (fun c_51 => ?_) (fun c_51 => ?_)
        · -- 56
          have n9 : ¬ u (4 * r + dg n r) = 99 := fun q => c_51 (by rw [q, k99])
          rw [if_neg (fun q => q.elim hb n9)] at he
          refine r_iload_n C dL_sizeOf_56 rfl rfl ?_
          refine r_iconst (v := 1) C dL_sizeOf_57 (by decide) ?_
          refine r_iload C dL_sizeOf_58 rfl ?_
          refine r_ishl C dL_sizeOf_60 ?_
          refine r_topi (one_shl _ (by omega)) ?_
          refine r_ior C dL_sizeOf_61 ?_
          refine r_topi (show _ = nI (sb t (dg n r)) from zor t (2 ^ dg n r)) ?_
          refine r_istore_n C dL_sizeOf_62 rfl (by decide) ?_
          refine r_iinc (v := _) C dL_sizeOf_63 rfl (show _ = i32 (s + 1) from i32_add s 1) ?_
          refine r_iinc (v := _) C dL_sizeOf_66 rfl (nI_1 r) ?_
          refine r_goto (tgt := 7) C dL_sizeOf_69 (by decide) ?_
          first
          | (refine r_sub C (lv' := [(2, .int (nI t)), (3, .int (i32 s)), (4, .int (nI (r + 1))), (0, .int (nI n)), (1, .ref (G.2.1 39))]) ⟨rfl, rfl, rfl, rfl, rfl, trivial⟩ ?_
             exact ih (r + 1) t s (by omega) ht he)
          | (refine r_sub C (lv' := [(2, .int (nI (sb t (dg n r)))), (3, .int (i32 (s + 1))), (4, .int (nI (r + 1))), (0, .int (nI n)), (1, .ref (G.2.1 39))]) ⟨rfl, rfl, rfl, rfl, rfl, trivial⟩ ?_
             exact ih (r + 1) (sb t (dg n r)) (s + 1) (by omega) (sb_lt (n := 4) ht hc) he)
        · -- 54
          have e9 : u (4 * r + dg n r) = 99 := (i32_eq (by have := (hux hc).2; omega) (by decide)).mp (by rw [c_51, k99])
          rw [if_pos (Or.inr e9)] at he
          refine r_iconst (v := (-1)) C dL_sizeOf_54 (by decide) ?_
          exact r_iret CE rfl rfl dL_sizeOf_55 (Nat.le_of_ble_eq_true rfl) ⟨_, rfl, by rw [← he]; rfl, rfl⟩
    · -- 27
      have e4 : dg n r = 4 := (nI_eq (b := 4) (by omega) (by omega)).mp c_24
      rw [if_pos e4] at he
      refine r_goto (tgt := 66) C dL_sizeOf_27 (by decide) ?_
      refine r_iinc (v := _) C dL_sizeOf_66 rfl (nI_1 r) ?_
      refine r_goto (tgt := 7) C dL_sizeOf_69 (by decide) ?_
      first
      | (refine r_sub C (lv' := [(2, .int (nI t)), (3, .int (i32 s)), (4, .int (nI (r + 1))), (0, .int (nI n)), (1, .ref (G.2.1 39))]) ⟨rfl, rfl, rfl, rfl, rfl, trivial⟩ ?_
         exact ih (r + 1) t s (by omega) ht he)
      | (refine r_sub C (lv' := [(2, .int (nI (sb t (dg n r)))), (3, .int (i32 (s + 1))), (4, .int (nI (r + 1))), (0, .int (nI n)), (1, .ref (G.2.1 39))]) ⟨rfl, rfl, rfl, rfl, rfl, trivial⟩ ?_
         exact ih (r + 1) (sb t (dg n r)) (s + 1) (by omega) (sb_lt (n := 4) ht hc) he)

set_option maxHeartbeats 4000000 in
set_option maxRecDepth 100000 in
/-- L_sizeOf  -/
theorem con_L_sizeOf (l : Launch) (hfl : l.stackTraces = false) (G : Geo) {n : Nat} {u : Nat → Int} (X : St) (hG : Gn G = 4) (hn : n < 625) (hu : uar X 39 u) : ConAt l G yL_sizeOf cL_sizeOf 6 (some (FieldType.int)) 1 30 0 [.int (nI n), .ref (G.2.1 39)] X (kI (fun r9 X' => r9 = i32 (szN u n) ∧ X = X')) kF := by
  refine conAt_of (lv := [(0, .int (nI n)), (1, .ref (G.2.1 39))]) hfl (by decide +kernel) rfl (Nat.le_of_ble_eq_true rfl) ?_
  intro J JX CE
  have C := CE.b
  refine r_iconst (v := 0) C dL_sizeOf_0 (by decide) ?_
  refine r_istore_n C dL_sizeOf_1 rfl (by decide) ?_
  refine r_iconst (v := 0) C dL_sizeOf_2 (by decide) ?_
  refine r_istore_n C dL_sizeOf_3 rfl (by decide) ?_
  refine r_iconst (v := 0) C dL_sizeOf_4 (by decide) ?_
  refine r_istore C dL_sizeOf_5 (by decide) ?_
  refine r_sub C (lv' := [(2, .int (nI 0)), (3, .int (i32 0)), (4, .int (nI 0)), (0, .int (nI n)), (1, .ref (G.2.1 39))]) ⟨rfl, rfl, rfl, rfl, rfl, trivial⟩ ?_
  exact lp_L_sizeOf hfl hG hn hu CE 4 0 0 0 rfl (by decide) rfl
set_option maxHeartbeats 4000000 in
set_option maxRecDepth 100000 in
theorem lp_L_costOf {l : Launch} {G : Geo} {J : JT} {JX : JXT} {X : St} (hfl : l.stackTraces = false) {n : Nat} {u : Nat → Int} (hG : Gn G = 4) (hn : n < 625) (hu : uar X 39 u) (CE : Cl l RL cL_costOf 4 (some .int) [] G 1 30 0 (kI (fun r9 X' => r9 = i32 (csN u n) ∧ X = X')) kF J JX) :
    ∀ k r (s : Int), r + k = 4 → csw u n k s = csN u n → J X 0 4 [(2, .int (i32 s)), (3, .int (nI r)), (0, .int (nI n)), (1, .ref (G.2.1 39))] [] := by
  have C := CE.b
  intro k
  induction k with
  | zero =>
    intro r s h he
    have hc : r = 4 := by omega
    subst hc
    have he2 : s = csN u n := he
    refine r_iload_n C dL_costOf_4 rfl rfl ?_
    refine r_iconst (v := 4) C dL_costOf_5 (by decide) ?_
    refine r_icmp_ge (tgt := 42) C dL_costOf_6 (by decide) (fun c_6 => ?_) (fun c_6 => absurd ((by decide)) c_6)
    refine r_iload_n C dL_costOf_42 rfl rfl ?_
    exact r_iret CE rfl rfl dL_costOf_43 (Nat.le_of_ble_eq_true rfl) ⟨_, rfl, by rw [he2], rfl⟩
  | succ k ih =>
    intro r s h he
    have hr : r < 4 := by omega
    have e3 : 3 - k = r := by omega
    have hd := dg_lt n r
    have hux := fun hc : dg n r < 4 => hu (4 * r + dg n r) (by omega)
    unfold csw at he
    rw [e3] at he
    refine r_iload_n C dL_costOf_4 rfl rfl ?_
    refine r_iconst (v := 4) C dL_costOf_5 (by decide) ?_
    refine r_icmp_ge (tgt := 42) C dL_costOf_6 (by decide) (fun c_6 => absurd c_6 ((nI_ge (a := r) (b := 4) (by omega) (by decide)))) (fun c_6 => ?_)
    refine r_iload_n C dL_costOf_9 rfl rfl ?_
    refine r_iload_n C dL_costOf_10 rfl rfl ?_
    refine r_iload_n C dL_costOf_11 rfl rfl ?_
    refine cl_RL_32 C (con_L_column l hfl _ hn hr) dL_costOf_12 rfl ⟨Nat.le_of_ble_eq_true rfl, Nat.le_of_ble_eq_true rfl⟩ (by omega) (Nat.le_of_ble_eq_true rfl) (fun r_12 X_12 h_12 => ?_)
    obtain ⟨rfl, rfl⟩ := h_12
    refine r_iconst (v := 4) C dL_costOf_15 (by decide) ?_
    refine r_icmp_ne (tgt := 23) C dL_costOf_16 (by decide) (fun c_16 => ?_) (fun c_16 => ?_)
    · -- 23
      have n4 : ¬ dg n r = 4 := fun q => c_16 (by rw [q]; rfl)
      have hc : dg n r < 4 := by omega
      have e9 : i32 s + i32 (u (4 * r + dg n r)) = i32 (s + if dg n r = 4 then 0 else u (4 * r + dg n r)) := by rw [if_neg n4]; exact i32_add _ _
      refine r_aload_n C dL_costOf_23 rfl rfl ?_
      refine r_iconst (v := 4) C dL_costOf_24 (by decide) ?_
      refine r_iload_n C dL_costOf_25 rfl rfl ?_
      refine r_imul C dL_costOf_26 ?_
      refine r_iload_n C dL_costOf_27 rfl rfl ?_
      refine r_iload_n C dL_costOf_28 rfl rfl ?_
      refine cl_RL_32 C (con_L_column l hfl _ hn hr) dL_costOf_29 rfl ⟨Nat.le_of_ble_eq_true rfl, Nat.le_of_ble_eq_true rfl⟩ (by omega) (Nat.le_of_ble_eq_true rfl) (fun r_29 X_29 h_29 => ?_)
      obtain ⟨rfl, rfl⟩ := h_29
      refine r_iadd C dL_costOf_32 ?_
      refine r_iald C (4 * r + dg n r) (by omega) rfl (zix4 r (dg n r)) (by omega) dL_costOf_33 ?_
      refine r_topi (hux hc).1 ?_
      refine r_iadd C dL_costOf_34 ?_
      refine r_topi e9 ?_
      refine r_istore_n C dL_costOf_35 rfl (by decide) ?_
      refine r_iinc (v := _) C dL_costOf_36 rfl (nI_1 r) ?_
      refine r_goto (tgt := 4) C dL_costOf_39 (by decide) ?_
      refine r_sub C (lv' := [(2, .int (i32 (s + if dg n r = 4 then 0 else u (4 * r + dg n r)))), (3, .int (nI (r + 1))), (0, .int (nI n)), (1, .ref (G.2.1 39))]) ⟨rfl, rfl, rfl, rfl, trivial⟩ ?_
      exact ih (r + 1) _ (by omega) he
    · -- 19
      have e4 : dg n r = 4 := (nI_eq (b := 4) (by omega) (by omega)).mp c_16
      have e9 : i32 s + 0 = i32 (s + if dg n r = 4 then 0 else u (4 * r + dg n r)) := by rw [if_pos e4, Int.add_zero]; exact Int32.add_zero _
      refine r_iconst (v := 0) C dL_costOf_19 (by decide) ?_
      refine r_goto (tgt := 34) C dL_costOf_20 (by decide) ?_
      refine r_iadd C dL_costOf_34 ?_
      refine r_topi e9 ?_
      refine r_istore_n C dL_costOf_35 rfl (by decide) ?_
      refine r_iinc (v := _) C dL_costOf_36 rfl (nI_1 r) ?_
      refine r_goto (tgt := 4) C dL_costOf_39 (by decide) ?_
      refine r_sub C (lv' := [(2, .int (i32 (s + if dg n r = 4 then 0 else u (4 * r + dg n r)))), (3, .int (nI (r + 1))), (0, .int (nI n)), (1, .ref (G.2.1 39))]) ⟨rfl, rfl, rfl, rfl, trivial⟩ ?_
      exact ih (r + 1) _ (by omega) he

set_option maxHeartbeats 4000000 in
set_option maxRecDepth 100000 in
/-- L_costOf  -/
theorem con_L_costOf (l : Launch) (hfl : l.stackTraces = false) (G : Geo) {n : Nat} {u : Nat → Int} (X : St) (hG : Gn G = 4) (hn : n < 625) (hu : uar X 39 u) : ConAt l G yL_costOf cL_costOf 4 (some (FieldType.int)) 1 30 0 [.int (nI n), .ref (G.2.1 39)] X (kI (fun r9 X' => r9 = i32 (csN u n) ∧ X = X')) kF := by
  refine conAt_of (lv := [(0, .int (nI n)), (1, .ref (G.2.1 39))]) hfl (by decide +kernel) rfl (Nat.le_of_ble_eq_true rfl) ?_
  intro J JX CE
  have C := CE.b
  refine r_iconst (v := 0) C dL_costOf_0 (by decide) ?_
  refine r_istore_n C dL_costOf_1 rfl (by decide) ?_
  refine r_iconst (v := 0) C dL_costOf_2 (by decide) ?_
  refine r_istore_n C dL_costOf_3 rfl (by decide) ?_
  refine r_sub C (lv' := [(2, .int (i32 0)), (3, .int (nI 0)), (0, .int (nI n)), (1, .ref (G.2.1 39))]) ⟨rfl, rfl, rfl, rfl, trivial⟩ ?_
  exact lp_L_costOf hfl hG hn hu CE 4 0 0 rfl rfl
set_option maxHeartbeats 4000000 in
set_option maxRecDepth 100000 in
theorem lp_L_greatestSize {l : Launch} {G : Geo} {J : JT} {JX : JXT} {X : St} (hfl : l.stackTraces = false) {u : Nat → Int} (hG : Gn G = 4) (hu : uar X 39 u) (CE : Cl l RL cL_greatestSize 3 (some .int) [] G 2 60 0 (kI (fun r9 X' => r9 = i32 (gsf u 625) ∧ X = X')) kF J JX) :
    ∀ n i, i + n = 625 → J X 0 4 [(1, .int (i32 (gsf u i))), (2, .int (nI i)), (0, .ref (G.2.1 39))] [] := by
  have C := CE.b
  intro n
  induction n with
  | zero =>
    intro i h
    have hc : i = 625 := by omega
    subst hc
    refine r_iload_n C dL_greatestSize_4 rfl rfl ?_
    refine r_sipush (v := 625) C dL_greatestSize_5 (by decide) ?_
    refine r_icmp_ge (tgt := 27) C dL_greatestSize_8 (by decide) (fun c_8 => ?_) (fun c_8 => absurd ((by decide)) c_8)
    refine r_iload_n C dL_greatestSize_27 rfl rfl ?_
    exact r_iret CE rfl rfl dL_greatestSize_28 (Nat.le_of_ble_eq_true rfl) ⟨_, rfl, rfl, rfl⟩
  | succ n ih =>
    intro i h
    have hi : i < 625 := by omega
    have h1 := gsf_bd u i
    have h2 := szN_bd u i
    refine r_iload_n C dL_greatestSize_4 rfl rfl ?_
    refine r_sipush (v := 625) C dL_greatestSize_5 (by decide) ?_
    refine r_icmp_ge (tgt := 27) C dL_greatestSize_8 (by decide) (fun c_8 => absurd c_8 ((nI_ge (a := i) (b := 625) (by omega) (by decide)))) (fun c_8 => ?_)
    refine r_iload_n C dL_greatestSize_11 rfl rfl ?_
    refine r_iload_n C dL_greatestSize_12 rfl rfl ?_
    refine r_aload_n C dL_greatestSize_13 rfl rfl ?_
    refine ca_RL_35 C (con_L_sizeOf l hfl G _ hG hi hu) dL_greatestSize_14 rfl ⟨Nat.le_of_ble_eq_true rfl, Nat.le_of_ble_eq_true rfl⟩ (by omega) (Nat.le_of_ble_eq_true rfl) (fun r_14 X_14 h_14 => ?_)
    obtain ⟨rfl, rfl⟩ := h_14
    refine r_max C lk_RL_39 (by decide) (Nat.le_of_ble_eq_true rfl) (by omega) dL_greatestSize_17 ?_
    refine r_topi (show _ = i32 (gsf u (i + 1)) from i32_max (by omega) (by omega)) ?_
    refine r_istore_n C dL_greatestSize_20 rfl (by decide) ?_
    refine r_iinc (v := _) C dL_greatestSize_21 rfl (nI_1 i) ?_
    refine r_goto (tgt := 4) C dL_greatestSize_24 (by decide) ?_
    refine r_sub C (lv' := [(1, .int (i32 (gsf u (i + 1)))), (2, .int (nI (i + 1))), (0, .ref (G.2.1 39))]) ⟨rfl, rfl, rfl, trivial⟩ ?_
    exact ih (i + 1) (by omega)

set_option maxHeartbeats 4000000 in
set_option maxRecDepth 100000 in
/-- L_greatestSize  -/
theorem con_L_greatestSize (l : Launch) (hfl : l.stackTraces = false) (G : Geo) {u : Nat → Int} (X : St) (hG : Gn G = 4) (hu : uar X 39 u) : ConAt l G yL_greatestSize cL_greatestSize 3 (some (FieldType.int)) 2 60 0 [.ref (G.2.1 39)] X (kI (fun r9 X' => r9 = i32 (gsf u 625) ∧ X = X')) kF := by
  refine conAt_of (lv := [(0, .ref (G.2.1 39))]) hfl (by decide +kernel) rfl (Nat.le_of_ble_eq_true rfl) ?_
  intro J JX CE
  have C := CE.b
  refine r_iconst (v := 0) C dL_greatestSize_0 (by decide) ?_
  refine r_istore_n C dL_greatestSize_1 rfl (by decide) ?_
  refine r_iconst (v := 0) C dL_greatestSize_2 (by decide) ?_
  refine r_istore_n C dL_greatestSize_3 rfl (by decide) ?_
  refine r_sub C (lv' := [(1, .int (i32 (gsf u 0))), (2, .int (nI 0)), (0, .ref (G.2.1 39))]) ⟨rfl, rfl, rfl, trivial⟩ ?_
  exact lp_L_greatestSize hfl hG hu CE 625 0 rfl
set_option maxHeartbeats 4000000 in
set_option maxRecDepth 100000 in
theorem lp_L_best {l : Launch} {G : Geo} {J : JT} {JX : JXT} {X : St} (hfl : l.stackTraces = false) {u : Nat → Int} (hG : Gn G = 4) (hu : uar X 39 u) (CE : Cl l RL cL_best 4 (some .int) [] G 3 90 0 (kI (fun r9 X' => r9 = i32 (bsf u (gsf u 625) 625) ∧ X = X')) kF J JX) :
    ∀ n i, i + n = 625 → J X 0 9 [(1, .int (i32 (gsf u 625))), (2, .int (i32 (bsf u (gsf u 625) i))), (3, .int (nI i)), (0, .ref (G.2.1 39))] [] := by
  have C := CE.b
  intro n
  induction n with
  | zero =>
    intro i h
    have hc : i = 625 := by omega
    subst hc
    refine r_iload_n C dL_best_9 rfl rfl ?_
    refine r_sipush (v := 625) C dL_best_10 (by decide) ?_
    refine r_icmp_ge (tgt := 50) C dL_best_13 (by decide) (fun c_13 => ?_) (fun c_13 => absurd ((by decide)) c_13)
    refine r_iload_n C dL_best_50 rfl rfl ?_
    exact r_iret CE rfl rfl dL_best_51 (Nat.le_of_ble_eq_true rfl) ⟨_, rfl, rfl, rfl⟩
  | succ n ih =>
    intro i h
    have hi : i < 625 := by omega
    have h1 := gsf_bd u 625
    have h2 := szN_bd u i
    have hub : ∀ k, k < 16 → -4 ≤ u k ∧ u k ≤ 99 := fun k hk => (hu k hk).2
    have h3 := csN_bd hub i
    have h0 := bsf_bd u (gsf u 625) i
    refine r_iload_n C dL_best_9 rfl rfl ?_
    refine r_sipush (v := 625) C dL_best_10 (by decide) ?_
    refine r_icmp_ge (tgt := 50) C dL_best_13 (by decide) (fun c_13 => absurd c_13 ((nI_ge (a := i) (b := 625) (by omega) (by decide)))) (fun c_13 => ?_)
    refine r_iload_n C dL_best_16 rfl rfl ?_
    refine r_aload_n C dL_best_17 rfl rfl ?_
    refine ca_RL_35 C (con_L_sizeOf l hfl G _ hG hi hu) dL_best_18 rfl ⟨Nat.le_of_ble_eq_true rfl, Nat.le_of_ble_eq_true rfl⟩ (by omega) (Nat.le_of_ble_eq_true rfl) (fun r_18 X_18 h_18 => ?_)
    obtain ⟨rfl, rfl⟩ := h_18
    refine r_iload_n C dL_best_21 rfl rfl ?_
    refine r_icmp_ne (tgt := 44) C dL_best_22 (by decide) (fun c_22 => ?_) (fun c_22 => ?_)
    · -- 44
      have hs : ¬ szN u i = gsf u 625 := fun q => c_22 (by rw [q])
      have e : bsf u (gsf u 625) (i + 1) = bsf u (gsf u 625) i := by rw [bsf, if_neg (fun q => hs q.1)]
      refine r_iinc (v := _) C dL_best_44 rfl (nI_1 i) ?_
      refine r_goto (tgt := 9) C dL_best_47 (by decide) ?_
      refine r_sub C (lv' := [(1, .int (i32 (gsf u 625))), (2, .int (i32 (bsf u (gsf u 625) (i + 1)))), (3, .int (nI (i + 1))), (0, .ref (G.2.1 39))]) ⟨rfl, by first | rfl | (rw [e]; rfl), rfl, rfl, trivial⟩ ?_
      exact ih (i + 1) (by omega)
    · -- 25
      have hs : szN u i = gsf u 625 := (i32_eq (by omega) (by omega)).mp c_22
      refine r_iload_n C dL_best_25 rfl rfl ?_
      refine r_if_lt (tgt := 42) C dL_best_26 (by decide) (fun c_26 => ?_) (fun c_26 => ?_)
      · -- 42
        have hb : bsf u (gsf u 625) i < 0 := (i32_lt (b := 0) (by rcases h0 with h0 | ⟨q, h0, hq⟩ <;> omega) (by decide)).mp c_26
        have e : bsf u (gsf u 625) (i + 1) = (i : Int) := by rw [bsf, if_pos ⟨hs, Or.inl hb⟩]
        refine r_iload_n C dL_best_42 rfl rfl ?_
        refine r_istore_n C dL_best_43 rfl (by decide) ?_
        refine r_iinc (v := _) C dL_best_44 rfl (nI_1 i) ?_
        refine r_goto (tgt := 9) C dL_best_47 (by decide) ?_
        refine r_sub C (lv' := [(1, .int (i32 (gsf u 625))), (2, .int (i32 (bsf u (gsf u 625) (i + 1)))), (3, .int (nI (i + 1))), (0, .ref (G.2.1 39))]) ⟨rfl, by first | rfl | (rw [e]; rfl), rfl, rfl, trivial⟩ ?_
        exact ih (i + 1) (by omega)
      · -- 29
        have hb : ¬ bsf u (gsf u 625) i < 0 := fun q => absurd ((i32_lt (b := 0) (by rcases h0 with h0 | ⟨q, h0, hq⟩ <;> omega) (by decide)).mpr q) c_26
        obtain ⟨q, hq, hq2⟩ : ∃ q : Nat, bsf u (gsf u 625) i = (q : Int) ∧ q < i := h0.resolve_left (by omega)
        have h4 := csN_bd hub q
        refine r_iload_n C dL_best_29 rfl rfl ?_
        refine r_aload_n C dL_best_30 rfl rfl ?_
        refine ca_RL_48 C (con_L_costOf l hfl G _ hG hi hu) dL_best_31 rfl ⟨Nat.le_of_ble_eq_true rfl, Nat.le_of_ble_eq_true rfl⟩ (by omega) (Nat.le_of_ble_eq_true rfl) (fun r_31 X_31 h_31 => ?_)
        obtain ⟨rfl, rfl⟩ := h_31
        refine r_iload_n C dL_best_34 rfl rfl ?_
        refine r_topi (show _ = nI q by rw [hq]; rfl) ?_
        refine r_aload_n C dL_best_35 rfl rfl ?_
        refine ca_RL_48 C (con_L_costOf l hfl G _ hG (n := q) (by omega) hu) dL_best_36 rfl ⟨Nat.le_of_ble_eq_true rfl, Nat.le_of_ble_eq_true rfl⟩ (by omega) (Nat.le_of_ble_eq_true rfl) (fun r_36 X_36 h_36 => ?_)
        obtain ⟨rfl, rfl⟩ := h_36
        refine r_icmp_ge (tgt := 44) C dL_best_39 (by decide) (fun c_39 => ?_) (fun c_39 => ?_)
        · -- 44
          have hx : ¬ csN u i < csN u q := Int.not_lt.mpr ((i32_le (by omega) (by omega)).mp c_39)
          have e : bsf u (gsf u 625) (i + 1) = bsf u (gsf u 625) i := by rw [bsf, if_neg (fun q9 => q9.2.elim hb (fun q8 => hx (by rw [hq, Int.toNat_natCast] at q8; exact q8)))]
          refine r_iinc (v := _) C dL_best_44 rfl (nI_1 i) ?_
          refine r_goto (tgt := 9) C dL_best_47 (by decide) ?_
          refine r_sub C (lv' := [(1, .int (i32 (gsf u 625))), (2, .int (i32 (bsf u (gsf u 625) (i + 1)))), (3, .int (nI (i + 1))), (0, .ref (G.2.1 39))]) ⟨rfl, by first | rfl | (rw [e]; rfl), rfl, rfl, trivial⟩ ?_
          exact ih (i + 1) (by omega)
        · -- 42
          have hx : csN u i < csN u q := Int.not_le.mp fun q9 => c_39 ((i32_le (by omega) (by omega)).mpr q9)
          have e : bsf u (gsf u 625) (i + 1) = (i : Int) := by rw [bsf, if_pos ⟨hs, Or.inr (by rw [hq, Int.toNat_natCast]; exact hx)⟩]
          refine r_iload_n C dL_best_42 rfl rfl ?_
          refine r_istore_n C dL_best_43 rfl (by decide) ?_
          refine r_iinc (v := _) C dL_best_44 rfl (nI_1 i) ?_
          refine r_goto (tgt := 9) C dL_best_47 (by decide) ?_
          refine r_sub C (lv' := [(1, .int (i32 (gsf u 625))), (2, .int (i32 (bsf u (gsf u 625) (i + 1)))), (3, .int (nI (i + 1))), (0, .ref (G.2.1 39))]) ⟨rfl, by first | rfl | (rw [e]; rfl), rfl, rfl, trivial⟩ ?_
          exact ih (i + 1) (by omega)

set_option maxHeartbeats 4000000 in
set_option maxRecDepth 100000 in
/-- L_best  -/
theorem con_L_best (l : Launch) (hfl : l.stackTraces = false) (G : Geo) {u : Nat → Int} (X : St) (hG : Gn G = 4) (hu : uar X 39 u) : ConAt l G yL_best cL_best 4 (some (FieldType.int)) 3 90 0 [.ref (G.2.1 39)] X (kI (fun r9 X' => r9 = i32 (bsf u (gsf u 625) 625) ∧ X = X')) kF := by
  refine conAt_of (lv := [(0, .ref (G.2.1 39))]) hfl (by decide +kernel) rfl (Nat.le_of_ble_eq_true rfl) ?_
  intro J JX CE
  have C := CE.b
  refine r_aload_n C dL_best_0 rfl rfl ?_
  refine ca_RL_44 C (con_L_greatestSize l hfl G _ hG hu) dL_best_1 rfl ⟨Nat.le_of_ble_eq_true rfl, Nat.le_of_ble_eq_true rfl⟩ (by omega) (Nat.le_of_ble_eq_true rfl) (fun r_1 X_1 h_1 => ?_)
  obtain ⟨rfl, rfl⟩ := h_1
  refine r_istore_n C dL_best_4 rfl (by decide) ?_
  refine r_iconst (v := (-1)) C dL_best_5 (by decide) ?_
  refine r_istore_n C dL_best_6 rfl (by decide) ?_
  refine r_iconst (v := 0) C dL_best_7 (by decide) ?_
  refine r_istore_n C dL_best_8 rfl (by decide) ?_
  refine r_sub C (lv' := [(1, .int (i32 (gsf u 625))), (2, .int (i32 (bsf u (gsf u 625) 0))), (3, .int (nI 0)), (0, .ref (G.2.1 39))]) ⟨rfl, rfl, rfl, rfl, trivial⟩ ?_
  exact lp_L_best hfl hG hu CE 625 0 rfl
