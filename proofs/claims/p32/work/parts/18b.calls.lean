theorem Fr.p2 {X Y : St} (h : Fr (fun k => k ≤ 2) X Y) : Fr Dp X Y := h.mono (fun k (hk : k ≤ 2) => (by omega : k < 36))
theorem zup_tok {R C a b r c : Nat} {z : Nat → Int} {v : Int} (h : tok R C a b z) (hr : r < R) (hc : c < C) (hC : C ≤ 10) (hv : zok v) : tok R C a b (zup z (10 * r + c) v) := by
  refine ⟨h.1, h.2.1, fun k hk => ?_, fun k hk q => ?_⟩
  · unfold zup
    split
    · exact hv
    · exact h.2.2.1 k hk
  · unfold zup
    rw [if_neg (by omega)]
    exact h.2.2.2 k hk q
theorem shok_at {z : Nat → Int} {r : Nat} {x : Int} : ∀ n, shok z r x n = true → ∀ c, c < n → z (10 * r + c) = 20000 ∨ inC (z (10 * r + c) + x) = true
  | 0, _, c, hc => absurd hc (Nat.not_lt_zero c)
  | n + 1, h, c, hc => by
    unfold shok at h
    rw [Bool.and_eq_true, Bool.or_eq_true, decide_eq_true_eq] at h
    rcases Nat.lt_or_ge c n with g | g
    · exact shok_at n h.1 c g
    · rw [show c = n by omega]; exact h.2
theorem shz_tok {R C a b r : Nat} {z : Nat → Int} {x : Int} (h : tok R C a b z) (hs : shok z r x 10 = true) : tok R C a b (shz z r x) := by
  refine ⟨h.1, h.2.1, fun k hk => ?_, fun k hk q => ?_⟩
  · unfold shz
    split
    · rename_i g
      rcases shok_at 10 hs (k % 10) (by omega) with e | e
      · rw [show 10 * r + k % 10 = k by omega] at e
        exact absurd e g.2
      · rw [show 10 * r + k % 10 = k by omega] at e
        have := inC_i e
        omega
    · exact h.2.2.1 k hk
  · unfold shz
    rw [if_neg (fun g => g.2 (h.2.2.2 k hk q))]
    exact h.2.2.2 k hk q
def al (z : Nat → Int) (k : Nat) : Bool := !decide (z k = 20000)
theorem al_1 {z : Nat → Int} {k : Nat} (h : z k ≠ 20000) : al z k = true := by unfold al; simp [h]
theorem al_0 {z : Nat → Int} {k : Nat} (h : z k = 20000) : al z k = false := by unfold al; simp [h]
set_option maxHeartbeats 4000000 in
set_option maxRecDepth 100000 in
/-- X5_replaceCell  -/
theorem con_X5_replaceCell (l : Launch) (hfl : l.stackTraces = false) {r c : Nat} {v : Int32} {z : Nat → Int} (X : St) (hr : r < 10) (hc : c < 10) (hz : ∀ k, k < 100 → Zv X 2 k = i32 (z k) ∧ zok (z k)) : Con l yX5_replaceCell cX5_replaceCell 5 (some (FieldType.boolean)) 1 30 0 (fun G => [.ref (G.2.1 0), .int (nI r), .int (nI c), .int v]) X (kI (fun r9 X' => r9 = bI (al z (10 * r + c)) ∧ Ym (Yv X 2 (upd (Zv X 2) (10 * r + c) v)) 0 4 0 = X')) kF := by
  refine con_of (lv := fun G => [(0, .ref (G.2.1 0)), (1, .int (nI r)), (2, .int (nI c)), (3, .int v)]) hfl (by decide +kernel) (fun _ => rfl) (fun _ => Nat.le_of_ble_eq_true rfl) ?_
  intro G J JX CE
  have C := CE.b
  have hz9 := hz (10 * r + c) (by omega)
  refine r_aload_n C dX5_replaceCell_0 rfl rfl ?_
  refine gf_RX5_12 C dX5_replaceCell_1 ?_
  refine r_iload_n C dX5_replaceCell_4 rfl rfl ?_
  refine r_iload_n C dX5_replaceCell_5 rfl rfl ?_
  refine cl_RX5_128 C (con_X4_cell l hfl _ hr hc) dX5_replaceCell_6 rfl ⟨Nat.le_of_ble_eq_true rfl, Nat.le_of_ble_eq_true rfl⟩ (by omega) (Nat.le_of_ble_eq_true rfl) (fun r_6 X_6 h_6 => ?_)
  obtain ⟨rfl, rfl⟩ := h_6
  refine r_topi hz9.1 ?_
  refine r_sipush (v := 20000) C dX5_replaceCell_9 (by decide) ?_
  refine r_icmp_eq (tgt := 19) C dX5_replaceCell_12 (by decide) (fun c_12 => ?_) (fun c_12 => ?_)
  · -- 19
    have e : z (10 * r + c) = 20000 := (i20000 hz9.2).mp c_12
    have ea := al_0 e
    refine r_iconst (v := 0) C dX5_replaceCell_19 (by decide) ?_
    refine r_istore C dX5_replaceCell_20 (by decide) ?_
    refine r_aload_n C dX5_replaceCell_22 rfl rfl ?_
    refine gf_RX5_12 C dX5_replaceCell_23 ?_
    refine gf_RX5_237 C dX5_replaceCell_26 ?_
    refine r_iload_n C dX5_replaceCell_29 rfl rfl ?_
    refine r_bipush (v := 10) C dX5_replaceCell_30 (by decide) ?_
    refine r_imul C dX5_replaceCell_32 ?_
    refine r_iload_n C dX5_replaceCell_33 rfl rfl ?_
    refine r_iadd C dX5_replaceCell_34 ?_
    refine r_iload_n C dX5_replaceCell_35 rfl rfl ?_
    refine r_iast C (10 * r + c) (gl (by decide)) rfl (zix r c) (by omega) dX5_replaceCell_36 ?_
    refine r_aload_n C dX5_replaceCell_37 rfl rfl ?_
    refine r_iconst (v := 0) C dX5_replaceCell_38 (by decide) ?_
    refine pf_RX5_48 C rfl rfl dX5_replaceCell_39 ?_
    refine r_iload C dX5_replaceCell_42 rfl ?_
    exact r_iret CE rfl rfl dX5_replaceCell_44 (Nat.le_of_ble_eq_true rfl) ⟨_, rfl, by rw [ea]; rfl, rfl⟩
  · -- 15
    have e : z (10 * r + c) ≠ 20000 := fun q => c_12 ((i20000 hz9.2).mpr q)
    have ea := al_1 e
    refine r_iconst (v := 1) C dX5_replaceCell_15 (by decide) ?_
    refine r_goto (tgt := 20) C dX5_replaceCell_16 (by decide) ?_
    refine r_istore C dX5_replaceCell_20 (by decide) ?_
    refine r_aload_n C dX5_replaceCell_22 rfl rfl ?_
    refine gf_RX5_12 C dX5_replaceCell_23 ?_
    refine gf_RX5_237 C dX5_replaceCell_26 ?_
    refine r_iload_n C dX5_replaceCell_29 rfl rfl ?_
    refine r_bipush (v := 10) C dX5_replaceCell_30 (by decide) ?_
    refine r_imul C dX5_replaceCell_32 ?_
    refine r_iload_n C dX5_replaceCell_33 rfl rfl ?_
    refine r_iadd C dX5_replaceCell_34 ?_
    refine r_iload_n C dX5_replaceCell_35 rfl rfl ?_
    refine r_iast C (10 * r + c) (gl (by decide)) rfl (zix r c) (by omega) dX5_replaceCell_36 ?_
    refine r_aload_n C dX5_replaceCell_37 rfl rfl ?_
    refine r_iconst (v := 0) C dX5_replaceCell_38 (by decide) ?_
    refine pf_RX5_48 C rfl rfl dX5_replaceCell_39 ?_
    refine r_iload C dX5_replaceCell_42 rfl ?_
    exact r_iret CE rfl rfl dX5_replaceCell_44 (Nat.le_of_ble_eq_true rfl) ⟨_, rfl, by rw [ea]; rfl, rfl⟩
set_option maxHeartbeats 4000000 in
set_option maxRecDepth 100000 in
/-- X5_addRow  -/
theorem con_X5_addRow (l : Launch) (hfl : l.stackTraces = false) {A : DA} (X : St) (hD : DInv X A) : Con l yX5_addRow cX5_addRow 1 (some (FieldType.int)) 7 110 1 (fun G => [.ref (G.2.1 0)]) X (kI (fun r9 X' => r9 = nI A.R ∧ A.R < 10 ∧ DInv X' (A.tab (A.R + 1) A.C (sb A.ra A.R) A.ca A.z) ∧ Fr Dp X X')) (fun E X' => E = "java/lang/IllegalStateException" ∧ X = X' ∧ A.R = 10) := by
  refine con_of (lv := fun G => [(0, .ref (G.2.1 0))]) hfl (by decide +kernel) (fun _ => rfl) (fun _ => Nat.le_of_ble_eq_true rfl) ?_
  intro G J JX CE
  have C := CE.b
  have h10 := hD.ok.R
  refine r_aload_n C dX5_addRow_0 rfl rfl ?_
  refine gf_RX5_12 C dX5_addRow_1 ?_
  refine gf_RX5_37 C dX5_addRow_4 ?_
  refine r_topi hD.R ?_
  refine r_bipush (v := 10) C dX5_addRow_7 (by decide) ?_
  refine r_icmp_lt (tgt := 22) C dX5_addRow_9 (by decide) (fun c_9 => ?_) (fun c_9 => ?_)
  · -- 22
    have hR : A.R < 10 := (nI_ltI (b := 10) (by omega) (by decide)).mp c_9
    refine r_aload_n C dX5_addRow_22 rfl rfl ?_
    refine r_iconst (v := 0) C dX5_addRow_23 (by decide) ?_
    refine pf_RX5_48 C rfl rfl dX5_addRow_24 ?_
    refine r_aload_n C dX5_addRow_27 rfl rfl ?_
    refine gf_RX5_12 C dX5_addRow_28 ?_
    refine cl_RX5_52 C (con_X4_appendRow l hfl _ (S := A.ra) (n := A.R) hD.tb.1 hD.R hR) dX5_addRow_31 rfl ⟨Nat.le_of_ble_eq_true rfl, Nat.le_of_ble_eq_true rfl⟩ (by omega) (Nat.le_of_ble_eq_true rfl) (fun r_31 X_31 h_31 => ?_)
    obtain ⟨rfl, rfl⟩ := h_31
    have hF := (((Fr.m (X := X) (P := fun k => k ≤ 2) (k := 0) (j := 4) 0 (Nat.le_of_ble_eq_true rfl)).tr (Fr.m (k := 1) (j := 3) (nI (sb A.ra A.R)) (Nat.le_of_ble_eq_true rfl))).tr (Fr.m (k := 1) (j := 1) (nI (A.R + 1)) (Nat.le_of_ble_eq_true rfl)))
    exact r_iret CE rfl rfl dX5_addRow_34 (Nat.le_of_ble_eq_true rfl) ⟨_, rfl, rfl, hR, hD.tab hF rfl hD.C rfl hD.tb.2.1 (fun k hk => (hD.tb.2.2.2.2 k hk).1) rfl (hD.ok.row hR), hF.p2⟩
  · -- 12
    have hR : A.R = 10 := by
      have h9 : ¬ A.R < 10 := fun q => c_9 ((nI_ltI (b := 10) (by omega) (by decide)).mpr q)
      omega
    exact r_throw CE rfl (by decide +kernel) (by decide +kernel) ck_RX5_41 ik_Qjava_lang_IllegalStateException sk_RX5_43 (xa_45) dX5_addRow_12 dX5_addRow_15 dX5_addRow_16 dX5_addRow_18 dX5_addRow_21 (by decide) (Nat.le_of_ble_eq_true rfl) (Nat.le_of_ble_eq_true rfl) ⟨rfl, rfl, hR⟩
set_option maxHeartbeats 4000000 in
set_option maxRecDepth 100000 in
/-- X5_addColumn  -/
theorem con_X5_addColumn (l : Launch) (hfl : l.stackTraces = false) {A : DA} (X : St) (hD : DInv X A) : Con l yX5_addColumn cX5_addColumn 1 (some (FieldType.int)) 7 110 1 (fun G => [.ref (G.2.1 0)]) X (kI (fun r9 X' => r9 = nI A.C ∧ A.C < 10 ∧ DInv X' (A.tab A.R (A.C + 1) A.ra (sb A.ca A.C) A.z) ∧ Fr Dp X X')) (fun E X' => E = "java/lang/IllegalStateException" ∧ X = X' ∧ A.C = 10) := by
  refine con_of (lv := fun G => [(0, .ref (G.2.1 0))]) hfl (by decide +kernel) (fun _ => rfl) (fun _ => Nat.le_of_ble_eq_true rfl) ?_
  intro G J JX CE
  have C := CE.b
  have h10 := hD.ok.C
  refine r_aload_n C dX5_addColumn_0 rfl rfl ?_
  refine gf_RX5_12 C dX5_addColumn_1 ?_
  refine gf_RX5_56 C dX5_addColumn_4 ?_
  refine r_topi hD.C ?_
  refine r_bipush (v := 10) C dX5_addColumn_7 (by decide) ?_
  refine r_icmp_lt (tgt := 22) C dX5_addColumn_9 (by decide) (fun c_9 => ?_) (fun c_9 => ?_)
  · -- 22
    have hR : A.C < 10 := (nI_ltI (b := 10) (by omega) (by decide)).mp c_9
    refine r_aload_n C dX5_addColumn_22 rfl rfl ?_
    refine r_iconst (v := 0) C dX5_addColumn_23 (by decide) ?_
    refine pf_RX5_48 C rfl rfl dX5_addColumn_24 ?_
    refine r_aload_n C dX5_addColumn_27 rfl rfl ?_
    refine gf_RX5_12 C dX5_addColumn_28 ?_
    refine cl_RX5_61 C (con_X4_appendColumn l hfl _ (S := A.ca) (n := A.C) hD.tb.2.1 hD.C hR) dX5_addColumn_31 rfl ⟨Nat.le_of_ble_eq_true rfl, Nat.le_of_ble_eq_true rfl⟩ (by omega) (Nat.le_of_ble_eq_true rfl) (fun r_31 X_31 h_31 => ?_)
    obtain ⟨rfl, rfl⟩ := h_31
    have hF := (((Fr.m (X := X) (P := fun k => k ≤ 2) (k := 0) (j := 4) 0 (Nat.le_of_ble_eq_true rfl)).tr (Fr.m (k := 1) (j := 4) (nI (sb A.ca A.C)) (Nat.le_of_ble_eq_true rfl))).tr (Fr.m (k := 1) (j := 2) (nI (A.C + 1)) (Nat.le_of_ble_eq_true rfl)))
    exact r_iret CE rfl rfl dX5_addColumn_34 (Nat.le_of_ble_eq_true rfl) ⟨_, rfl, rfl, hR, hD.tab hF hD.R rfl hD.tb.1 rfl (fun k hk => (hD.tb.2.2.2.2 k hk).1) rfl (hD.ok.col hR), hF.p2⟩
  · -- 12
    have hR : A.C = 10 := by
      have h9 : ¬ A.C < 10 := fun q => c_9 ((nI_ltI (b := 10) (by omega) (by decide)).mpr q)
      omega
    exact r_throw CE rfl (by decide +kernel) (by decide +kernel) ck_RX5_41 ik_Qjava_lang_IllegalStateException sk_RX5_59 (xa_45) dX5_addColumn_12 dX5_addColumn_15 dX5_addColumn_16 dX5_addColumn_18 dX5_addColumn_21 (by decide) (Nat.le_of_ble_eq_true rfl) (Nat.le_of_ble_eq_true rfl) ⟨rfl, rfl, hR⟩
set_option maxHeartbeats 4000000 in
set_option maxRecDepth 100000 in
/-- X5_setRow  -/
theorem con_X5_setRow (l : Launch) (hfl : l.stackTraces = false) {A : DA} {x : Int32} {b : Bool} (X : St) (hD : DInv X A) : Con l yX5_setRow cX5_setRow 4 (some (FieldType.boolean)) 7 140 1 (fun G => [.ref (G.2.1 0), .int x, .int (bI b)]) X (kI (fun r9 X' => ∃ r, r < A.R ∧ x = nI r ∧ r9 = bI (A.ra.testBit r) ∧ DInv X' (A.tab A.R A.C (wb A.ra r b) A.ca A.z) ∧ Fr Dp X X')) (fun E X' => E = "java/lang/IndexOutOfBoundsException" ∧ X = X' ∧ inI x A.R = false) := by
  refine con_of (lv := fun G => [(0, .ref (G.2.1 0)), (1, .int x), (2, .int (bI b))]) hfl (by decide +kernel) (fun _ => rfl) (fun _ => Nat.le_of_ble_eq_true rfl) ?_
  intro G J JX CE
  have C := CE.b
  refine r_aload_n C dX5_setRow_0 rfl rfl ?_
  refine r_iload_n C dX5_setRow_1 rfl rfl ?_
  refine cl_RX5_64 C (con_X5_requireRow l hfl _ hD.R hD.ok.R) dX5_setRow_2 rfl ⟨Nat.le_of_ble_eq_true rfl, Nat.le_of_ble_eq_true rfl⟩ (by omega) (Nat.le_of_ble_eq_true rfl) (fun E_2 X_2 x_2 => ?_) (fun X_2 h_2 => ?_)
  · -- thrown
    obtain ⟨rfl, rfl, h9⟩ := x_2
    exact r_out CE rfl (Nat.le_of_ble_eq_true rfl) ⟨rfl, rfl, h9⟩
  obtain ⟨rfl, h2⟩ := h_2
  obtain ⟨r, hr, rfl⟩ := inI_t h2
  have hR10 := hD.ok.R
  have hC10 := hD.ok.C
  refine r_aload_n C dX5_setRow_5 rfl rfl ?_
  refine gf_RX5_12 C dX5_setRow_6 ?_
  refine gf_RX5_68 C dX5_setRow_9 ?_
  refine r_topi hD.tb.1 ?_
  refine r_iload_n C dX5_setRow_12 rfl rfl ?_
  refine cl_RX5_71 C (con_X5_hasBit l hfl _ (S := A.ra) (Nat.lt_of_lt_of_le hD.tb.2.2.1 (by decide : 1024 ≤ 2 ^ 31)) (by omega)) dX5_setRow_13 rfl ⟨Nat.le_of_ble_eq_true rfl, Nat.le_of_ble_eq_true rfl⟩ (by omega) (Nat.le_of_ble_eq_true rfl) (fun r_13 X_13 h_13 => ?_)
  obtain ⟨rfl, rfl⟩ := h_13
  refine r_istore_n C dX5_setRow_16 rfl (by decide) ?_
  refine r_aload_n C dX5_setRow_17 rfl rfl ?_
  refine gf_RX5_12 C dX5_setRow_18 ?_
  refine r_aload_n C dX5_setRow_21 rfl rfl ?_
  refine gf_RX5_12 C dX5_setRow_22 ?_
  refine gf_RX5_68 C dX5_setRow_25 ?_
  refine r_topi hD.tb.1 ?_
  refine r_iload_n C dX5_setRow_28 rfl rfl ?_
  refine r_iload_n C dX5_setRow_29 rfl rfl ?_
  refine cl_RX5_75 C (con_X5_withBit l hfl _ (S := A.ra) (i := r) (b := b) (by omega)) dX5_setRow_30 rfl ⟨Nat.le_of_ble_eq_true rfl, Nat.le_of_ble_eq_true rfl⟩ (by omega) (Nat.le_of_ble_eq_true rfl) (fun r_30 X_30 h_30 => ?_)
  obtain ⟨rfl, rfl⟩ := h_30
  refine pf_RX5_68 C dX5_setRow_33 ?_
  refine r_aload_n C dX5_setRow_36 rfl rfl ?_
  refine r_iconst (v := 0) C dX5_setRow_37 (by decide) ?_
  refine pf_RX5_48 C rfl rfl dX5_setRow_38 ?_
  refine r_iload_n C dX5_setRow_41 rfl rfl ?_
  have hF := (Fr.m (X := X) (P := fun k => k ≤ 2) (k := 1) (j := 3) (nI (wb A.ra r b)) (Nat.le_of_ble_eq_true rfl)).tr (Fr.m (k := 0) (j := 4) 0 (Nat.le_of_ble_eq_true rfl))
  exact r_iret CE rfl (bI_nar _) dX5_setRow_42 (Nat.le_of_ble_eq_true rfl) ⟨_, rfl, r, hr, rfl, rfl, hD.tab hF hD.R hD.C rfl hD.tb.2.1 (fun k hk => (hD.tb.2.2.2.2 k hk).1) rfl (hD.ok.tb ⟨wb_lt hD.ok.t.1 hr, hD.ok.t.2⟩), hF.p2⟩
set_option maxHeartbeats 4000000 in
set_option maxRecDepth 100000 in
/-- X5_setColumn  -/
theorem con_X5_setColumn (l : Launch) (hfl : l.stackTraces = false) {A : DA} {x : Int32} {b : Bool} (X : St) (hD : DInv X A) : Con l yX5_setColumn cX5_setColumn 4 (some (FieldType.boolean)) 7 140 1 (fun G => [.ref (G.2.1 0), .int x, .int (bI b)]) X (kI (fun r9 X' => ∃ c, c < A.C ∧ x = nI c ∧ r9 = bI (A.ca.testBit c) ∧ DInv X' (A.tab A.R A.C A.ra (wb A.ca c b) A.z) ∧ Fr Dp X X')) (fun E X' => E = "java/lang/IndexOutOfBoundsException" ∧ X = X' ∧ inI x A.C = false) := by
  refine con_of (lv := fun G => [(0, .ref (G.2.1 0)), (1, .int x), (2, .int (bI b))]) hfl (by decide +kernel) (fun _ => rfl) (fun _ => Nat.le_of_ble_eq_true rfl) ?_
  intro G J JX CE
  have C := CE.b
  refine r_aload_n C dX5_setColumn_0 rfl rfl ?_
  refine r_iload_n C dX5_setColumn_1 rfl rfl ?_
  refine cl_RX5_79 C (con_X5_requireColumn l hfl _ hD.C hD.ok.C) dX5_setColumn_2 rfl ⟨Nat.le_of_ble_eq_true rfl, Nat.le_of_ble_eq_true rfl⟩ (by omega) (Nat.le_of_ble_eq_true rfl) (fun E_2 X_2 x_2 => ?_) (fun X_2 h_2 => ?_)
  · -- thrown
    obtain ⟨rfl, rfl, h9⟩ := x_2
    exact r_out CE rfl (Nat.le_of_ble_eq_true rfl) ⟨rfl, rfl, h9⟩
  obtain ⟨rfl, h2⟩ := h_2
  obtain ⟨c, hr, rfl⟩ := inI_t h2
  have hR10 := hD.ok.R
  have hC10 := hD.ok.C
  refine r_aload_n C dX5_setColumn_5 rfl rfl ?_
  refine gf_RX5_12 C dX5_setColumn_6 ?_
  refine gf_RX5_82 C dX5_setColumn_9 ?_
  refine r_topi hD.tb.2.1 ?_
  refine r_iload_n C dX5_setColumn_12 rfl rfl ?_
  refine cl_RX5_71 C (con_X5_hasBit l hfl _ (S := A.ca) (Nat.lt_of_lt_of_le hD.tb.2.2.2.1 (by decide : 1024 ≤ 2 ^ 31)) (by omega)) dX5_setColumn_13 rfl ⟨Nat.le_of_ble_eq_true rfl, Nat.le_of_ble_eq_true rfl⟩ (by omega) (Nat.le_of_ble_eq_true rfl) (fun r_13 X_13 h_13 => ?_)
  obtain ⟨rfl, rfl⟩ := h_13
  refine r_istore_n C dX5_setColumn_16 rfl (by decide) ?_
  refine r_aload_n C dX5_setColumn_17 rfl rfl ?_
  refine gf_RX5_12 C dX5_setColumn_18 ?_
  refine r_aload_n C dX5_setColumn_21 rfl rfl ?_
  refine gf_RX5_12 C dX5_setColumn_22 ?_
  refine gf_RX5_82 C dX5_setColumn_25 ?_
  refine r_topi hD.tb.2.1 ?_
  refine r_iload_n C dX5_setColumn_28 rfl rfl ?_
  refine r_iload_n C dX5_setColumn_29 rfl rfl ?_
  refine cl_RX5_75 C (con_X5_withBit l hfl _ (S := A.ca) (i := c) (b := b) (by omega)) dX5_setColumn_30 rfl ⟨Nat.le_of_ble_eq_true rfl, Nat.le_of_ble_eq_true rfl⟩ (by omega) (Nat.le_of_ble_eq_true rfl) (fun r_30 X_30 h_30 => ?_)
  obtain ⟨rfl, rfl⟩ := h_30
  refine pf_RX5_82 C dX5_setColumn_33 ?_
  refine r_aload_n C dX5_setColumn_36 rfl rfl ?_
  refine r_iconst (v := 0) C dX5_setColumn_37 (by decide) ?_
  refine pf_RX5_48 C rfl rfl dX5_setColumn_38 ?_
  refine r_iload_n C dX5_setColumn_41 rfl rfl ?_
  have hF := (Fr.m (X := X) (P := fun k => k ≤ 2) (k := 1) (j := 4) (nI (wb A.ca c b)) (Nat.le_of_ble_eq_true rfl)).tr (Fr.m (k := 0) (j := 4) 0 (Nat.le_of_ble_eq_true rfl))
  exact r_iret CE rfl (bI_nar _) dX5_setColumn_42 (Nat.le_of_ble_eq_true rfl) ⟨_, rfl, c, hr, rfl, rfl, hD.tab hF hD.R hD.C hD.tb.1 rfl (fun k hk => (hD.tb.2.2.2.2 k hk).1) rfl (hD.ok.tb ⟨hD.ok.t.1, wb_lt hD.ok.t.2.1 hr, hD.ok.t.2.2⟩), hF.p2⟩
set_option maxHeartbeats 4000000 in
set_option maxRecDepth 100000 in
/-- X5_setCost  -/
theorem con_X5_setCost (l : Launch) (hfl : l.stackTraces = false) {A : DA} {x y v : Int32} (X : St) (hD : DInv X A) : Con l yX5_setCost cX5_setCost 4 (some (FieldType.boolean)) 8 170 3 (fun G => [.ref (G.2.1 0), .int x, .int y, .int v]) X (kI (fun r9 X' => ∃ r c, r < A.R ∧ c < A.C ∧ x = nI r ∧ y = nI c ∧ inC v.toInt = true ∧ r9 = bI (al A.z (10 * r + c)) ∧ DInv X' (A.tab A.R A.C A.ra A.ca (zup A.z (10 * r + c) v.toInt)) ∧ Fr Dp X X')) (fun E X' => (E = "java/lang/IndexOutOfBoundsException" ∧ X = X' ∧ (inI x A.R && inI y A.C) = false) ∨ (E = "java/lang/IllegalArgumentException" ∧ X = X' ∧ inI x A.R = true ∧ inI y A.C = true ∧ inC v.toInt = false)) := by
  refine con_of (lv := fun G => [(0, .ref (G.2.1 0)), (1, .int x), (2, .int y), (3, .int v)]) hfl (by decide +kernel) (fun _ => rfl) (fun _ => Nat.le_of_ble_eq_true rfl) ?_
  intro G J JX CE
  have C := CE.b
  have hv1 := Int32.le_toInt v
  have hv2 := Int32.toInt_lt v
  refine r_aload_n C dX5_setCost_0 rfl rfl ?_
  refine r_iload_n C dX5_setCost_1 rfl rfl ?_
  refine r_iload_n C dX5_setCost_2 rfl rfl ?_
  refine cl_RX5_85 C (con_X5_requirePair l hfl _ hD.R hD.ok.R hD.C hD.ok.C) dX5_setCost_3 rfl ⟨Nat.le_of_ble_eq_true rfl, Nat.le_of_ble_eq_true rfl⟩ (by omega) (Nat.le_of_ble_eq_true rfl) (fun E_3 X_3 x_3 => ?_) (fun X_3 h_3 => ?_)
  · -- thrown
    obtain ⟨rfl, rfl, h9⟩ := x_3
    exact r_out CE rfl (Nat.le_of_ble_eq_true rfl) (Or.inl ⟨rfl, rfl, h9⟩)
  obtain ⟨rfl, h2, h3⟩ := h_3
  obtain ⟨r, hr, rfl⟩ := inI_t h2
  obtain ⟨c, hc, rfl⟩ := inI_t h3
  have hR10 := hD.ok.R
  have hC10 := hD.ok.C
  have hz := hD.tb.2.2.2.2 (10 * r + c) (by omega)
  refine r_iload_n C dX5_setCost_6 rfl rfl ?_
  refine r_i2l C dX5_setCost_7 ?_
  refine r_topl (x_long v) ?_
  refine cl_RX5_89 C (con_X5_isCost l hfl _ (z := v.toInt) (by omega)) dX5_setCost_8 rfl ⟨Nat.le_of_ble_eq_true rfl, Nat.le_of_ble_eq_true rfl⟩ (by omega) (Nat.le_of_ble_eq_true rfl) (fun r_8 X_8 h_8 => ?_)
  obtain ⟨rfl, rfl⟩ := h_8
  refine r_if_ne (tgt := 24) C dX5_setCost_11 (by decide) (fun c_11 => ?_) (fun c_11 => ?_)
  · -- 24
    have hv := bI_1 c_11
    refine r_aload_n C dX5_setCost_24 rfl rfl ?_
    refine r_iload_n C dX5_setCost_25 rfl rfl ?_
    refine r_iload_n C dX5_setCost_26 rfl rfl ?_
    refine r_iload_n C dX5_setCost_27 rfl rfl ?_
    refine cl_RX5_98 C (con_X5_replaceCell l hfl _ (r := r) (c := c) (v := v) (by omega) (by omega) hD.tb.2.2.2.2) dX5_setCost_28 rfl ⟨Nat.le_of_ble_eq_true rfl, Nat.le_of_ble_eq_true rfl⟩ (by omega) (Nat.le_of_ble_eq_true rfl) (fun r_28 X_28 h_28 => ?_)
    obtain ⟨rfl, rfl⟩ := h_28
    have hF := (Fr.v (X := X) (P := fun k => k ≤ 2) (k := 2) (upd (Zv X 2) (10 * r + c) v) (Nat.le_of_ble_eq_true rfl)).tr (Fr.m (k := 0) (j := 4) 0 (Nat.le_of_ble_eq_true rfl))
    have hzz : ∀ k, k < 100 → upd (Zv X 2) (10 * r + c) v k = i32 (zup A.z (10 * r + c) v.toInt k) := fun k hk => by
      unfold upd zup
      by_cases e : k = 10 * r + c
      · rw [if_pos e, if_pos e]; exact i32_of v
      · rw [if_neg e, if_neg e]; exact (hD.tb.2.2.2.2 k hk).1
    have hv9 := inC_i hv
    exact r_iret CE rfl (bI_nar _) dX5_setCost_31 (Nat.le_of_ble_eq_true rfl) ⟨_, rfl, r, c, hr, hc, rfl, rfl, hv, rfl, hD.tab hF hD.R hD.C hD.tb.1 hD.tb.2.1 hzz rfl (hD.ok.tb (zup_tok hD.ok.t hr hc hD.ok.C ⟨by omega, by omega⟩)), hF.p2⟩
  · -- 14
    have hv := bI_0 c_11
    exact r_throw CE rfl (by decide +kernel) (by decide +kernel) ck_RX5_93 ik_Qjava_lang_IllegalArgumentException sk_RX5_95 (xa_97) dX5_setCost_14 dX5_setCost_17 dX5_setCost_18 dX5_setCost_20 dX5_setCost_23 (by decide) (Nat.le_of_ble_eq_true rfl) (Nat.le_of_ble_eq_true rfl) (Or.inr ⟨rfl, rfl, h2, h3, hv⟩)
set_option maxHeartbeats 4000000 in
set_option maxRecDepth 100000 in
/-- X5_forbid  -/
theorem con_X5_forbid (l : Launch) (hfl : l.stackTraces = false) {A : DA} {x y : Int32} (X : St) (hD : DInv X A) : Con l yX5_forbid cX5_forbid 3 (some (FieldType.boolean)) 8 170 2 (fun G => [.ref (G.2.1 0), .int x, .int y]) X (kI (fun r9 X' => ∃ r c, r < A.R ∧ c < A.C ∧ x = nI r ∧ y = nI c ∧ r9 = bI (al A.z (10 * r + c)) ∧ DInv X' (A.tab A.R A.C A.ra A.ca (zup A.z (10 * r + c) 20000)) ∧ Fr Dp X X')) (fun E X' => E = "java/lang/IndexOutOfBoundsException" ∧ X = X' ∧ (inI x A.R && inI y A.C) = false) := by
  refine con_of (lv := fun G => [(0, .ref (G.2.1 0)), (1, .int x), (2, .int y)]) hfl (by decide +kernel) (fun _ => rfl) (fun _ => Nat.le_of_ble_eq_true rfl) ?_
  intro G J JX CE
  have C := CE.b
  refine r_aload_n C dX5_forbid_0 rfl rfl ?_
  refine r_iload_n C dX5_forbid_1 rfl rfl ?_
  refine r_iload_n C dX5_forbid_2 rfl rfl ?_
  refine cl_RX5_85 C (con_X5_requirePair l hfl _ hD.R hD.ok.R hD.C hD.ok.C) dX5_forbid_3 rfl ⟨Nat.le_of_ble_eq_true rfl, Nat.le_of_ble_eq_true rfl⟩ (by omega) (Nat.le_of_ble_eq_true rfl) (fun E_3 X_3 x_3 => ?_) (fun X_3 h_3 => ?_)
  · -- thrown
    obtain ⟨rfl, rfl, h9⟩ := x_3
    exact r_out CE rfl (Nat.le_of_ble_eq_true rfl) ⟨rfl, rfl, h9⟩
  obtain ⟨rfl, h2, h3⟩ := h_3
  obtain ⟨r, hr, rfl⟩ := inI_t h2
  obtain ⟨c, hc, rfl⟩ := inI_t h3
  have hR10 := hD.ok.R
  have hC10 := hD.ok.C
  have hz := hD.tb.2.2.2.2 (10 * r + c) (by omega)
  refine r_aload_n C dX5_forbid_6 rfl rfl ?_
  refine r_iload_n C dX5_forbid_7 rfl rfl ?_
  refine r_iload_n C dX5_forbid_8 rfl rfl ?_
  refine r_sipush (v := 20000) C dX5_forbid_9 (by decide) ?_
  refine cl_RX5_98 C (con_X5_replaceCell l hfl _ (r := r) (c := c) (v := 20000) (by omega) (by omega) hD.tb.2.2.2.2) dX5_forbid_12 rfl ⟨Nat.le_of_ble_eq_true rfl, Nat.le_of_ble_eq_true rfl⟩ (by omega) (Nat.le_of_ble_eq_true rfl) (fun r_12 X_12 h_12 => ?_)
  obtain ⟨rfl, rfl⟩ := h_12
  have hF := (Fr.v (X := X) (P := fun k => k ≤ 2) (k := 2) (upd (Zv X 2) (10 * r + c) 20000) (Nat.le_of_ble_eq_true rfl)).tr (Fr.m (k := 0) (j := 4) 0 (Nat.le_of_ble_eq_true rfl))
  have hzz : ∀ k, k < 100 → upd (Zv X 2) (10 * r + c) 20000 k = i32 (zup A.z (10 * r + c) 20000 k) := fun k hk => by
    unfold upd zup
    by_cases e : k = 10 * r + c
    · rw [if_pos e, if_pos e]; exact k20000
    · rw [if_neg e, if_neg e]; exact (hD.tb.2.2.2.2 k hk).1
  exact r_iret CE rfl (bI_nar _) dX5_forbid_15 (Nat.le_of_ble_eq_true rfl) ⟨_, rfl, r, c, hr, hc, rfl, rfl, rfl, hD.tab hF hD.R hD.C hD.tb.1 hD.tb.2.1 hzz rfl (hD.ok.tb (zup_tok hD.ok.t hr hc hD.ok.C ⟨by omega, by omega⟩)), hF.p2⟩
