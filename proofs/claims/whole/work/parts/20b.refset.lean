theorem MBsb {X Y : St} {R C a b : Nat} {z : Nat → Int} (h : MB X R C a b z) (h1 : Zm Y 37 1 = nI (R + 1)) (h2 : Zm Y 37 2 = Zm X 37 2) (h3 : Zv Y 38 = upd (Zv X 38) R 1) (h4 : Zv Y 39 = Zv X 39) (h5 : Zv Y 40 = Zv X 40) (h6 : Zv Y 41 = Zv X 41) : MB Y (R + 1) C (sb a R) b z := by
  refine ⟨h1, h2.trans h.2.1, fun k hk => ?_, fun k hk => by rw [h4]; exact h.2.2.2.1 k hk, fun k hk => by rw [h5]; exact h.2.2.2.2.1 k hk, fun k hk => by rw [h6]; exact h.2.2.2.2.2 k hk⟩
  rw [h3, sb_bit]
  unfold upd
  by_cases e : k = R
  · rw [if_pos e, decide_eq_true e, Bool.or_true]; rfl
  · rw [if_neg e, decide_eq_false e, Bool.or_false]; exact h.2.2.1 k hk
theorem MBsc {X Y : St} {R C a b : Nat} {z : Nat → Int} (h : MB X R C a b z) (h1 : Zm Y 37 2 = nI (C + 1)) (h2 : Zm Y 37 1 = Zm X 37 1) (h3 : Zv Y 39 = upd (Zv X 39) C 1) (h4 : Zv Y 38 = Zv X 38) (h5 : Zv Y 40 = Zv X 40) (h6 : Zv Y 41 = Zv X 41) : MB Y R (C + 1) a (sb b C) z := by
  refine ⟨h2.trans h.1, h1, fun k hk => by rw [h4]; exact h.2.2.1 k hk, fun k hk => ?_, fun k hk => by rw [h5]; exact h.2.2.2.2.1 k hk, fun k hk => by rw [h6]; exact h.2.2.2.2.2 k hk⟩
  rw [h3, sb_bit]
  unfold upd
  by_cases e : k = C
  · rw [if_pos e, decide_eq_true e, Bool.or_true]; rfl
  · rw [if_neg e, decide_eq_false e, Bool.or_false]; exact h.2.2.2.1 k hk
theorem wb_bit (S i j : Nat) (b : Bool) : (wb S i b).testBit j = if j = i then b else S.testBit j := by
  unfold wb
  by_cases e : j = i
  · rw [if_pos e]
    cases b
    · rw [if_neg (by decide), cb_bit, decide_eq_true e]; simp
    · rw [if_pos rfl, sb_bit, decide_eq_true e]; simp
  · rw [if_neg e]
    cases b
    · rw [if_neg (by decide), cb_bit, decide_eq_false e]; simp
    · rw [if_pos rfl, sb_bit, decide_eq_false e]; simp
theorem MBwr {X Y : St} {R C a b r : Nat} {z : Nat → Int} {t : Bool} (h : MB X R C a b z) (h1 : Zm Y 37 1 = Zm X 37 1) (h2 : Zm Y 37 2 = Zm X 37 2) (h3 : Zv Y 38 = upd (Zv X 38) r (bI t)) (h4 : Zv Y 39 = Zv X 39) (h5 : Zv Y 40 = Zv X 40) (h6 : Zv Y 41 = Zv X 41) : MB Y R C (wb a r t) b z := by
  refine ⟨h1.trans h.1, h2.trans h.2.1, fun k hk => ?_, fun k hk => by rw [h4]; exact h.2.2.2.1 k hk, fun k hk => by rw [h5]; exact h.2.2.2.2.1 k hk, fun k hk => by rw [h6]; exact h.2.2.2.2.2 k hk⟩
  rw [h3, wb_bit]
  unfold upd
  by_cases e : k = r
  · rw [if_pos e, if_pos e]
  · rw [if_neg e, if_neg e]; exact h.2.2.1 k hk
theorem MBwc {X Y : St} {R C a b r : Nat} {z : Nat → Int} {t : Bool} (h : MB X R C a b z) (h1 : Zm Y 37 1 = Zm X 37 1) (h2 : Zm Y 37 2 = Zm X 37 2) (h3 : Zv Y 39 = upd (Zv X 39) r (bI t)) (h4 : Zv Y 38 = Zv X 38) (h5 : Zv Y 40 = Zv X 40) (h6 : Zv Y 41 = Zv X 41) : MB Y R C a (wb b r t) z := by
  refine ⟨h1.trans h.1, h2.trans h.2.1, fun k hk => by rw [h4]; exact h.2.2.1 k hk, fun k hk => ?_, fun k hk => by rw [h5]; exact h.2.2.2.2.1 k hk, fun k hk => by rw [h6]; exact h.2.2.2.2.2 k hk⟩
  rw [h3, wb_bit]
  unfold upd
  by_cases e : k = r
  · rw [if_pos e, if_pos e]
  · rw [if_neg e, if_neg e]; exact h.2.2.2.1 k hk
theorem al_zup {z : Nat → Int} {k j : Nat} {v : Int} (hv : v ≠ 20000) : al (zup z k v) j = if j = k then true else al z j := by
  unfold al zup
  by_cases e : j = k
  · rw [if_pos e, if_pos e, decide_eq_false hv]; rfl
  · rw [if_neg e, if_neg e]
theorem al_zup0 {z : Nat → Int} {k j : Nat} : al (zup z k 20000) j = if j = k then false else al z j := by
  unfold al zup
  by_cases e : j = k
  · rw [if_pos e, if_pos e]; rfl
  · rw [if_neg e, if_neg e]
theorem MBset {X Y : St} {R C a b i : Nat} {z : Nat → Int} {v : Int32} (h : MB X R C a b z) (hv : v.toInt ≠ 20000) (h1 : Zm Y 37 1 = Zm X 37 1) (h2 : Zm Y 37 2 = Zm X 37 2) (h3 : Zv Y 38 = Zv X 38) (h4 : Zv Y 39 = Zv X 39) (h5 : Zv Y 40 = upd (Zv X 40) i 1) (h6 : Zv Y 41 = upd (Zv X 41) i v) : MB Y R C a b (zup z i v.toInt) := by
  refine ⟨h1.trans h.1, h2.trans h.2.1, fun k hk => by rw [h3]; exact h.2.2.1 k hk, fun k hk => by rw [h4]; exact h.2.2.2.1 k hk, fun k hk => ?_, fun k hk ha => ?_⟩
  · rw [h5, al_zup hv]
    unfold upd
    by_cases e : k = i
    · rw [if_pos e, if_pos e]; rfl
    · rw [if_neg e, if_neg e]; exact h.2.2.2.2.1 k hk
  · rw [h6]
    rw [al_zup hv] at ha
    unfold upd zup
    by_cases e : k = i
    · rw [if_pos e, if_pos e]; exact i32_of v
    · rw [if_neg e] at ha
      rw [if_neg e, if_neg e]; exact h.2.2.2.2.2 k hk ha
theorem MBfbd {X Y : St} {R C a b i : Nat} {z : Nat → Int} (h : MB X R C a b z) (h1 : Zm Y 37 1 = Zm X 37 1) (h2 : Zm Y 37 2 = Zm X 37 2) (h3 : Zv Y 38 = Zv X 38) (h4 : Zv Y 39 = Zv X 39) (h5 : Zv Y 40 = upd (Zv X 40) i 0) (h6 : Zv Y 41 = Zv X 41) : MB Y R C a b (zup z i 20000) := by
  refine ⟨h1.trans h.1, h2.trans h.2.1, fun k hk => by rw [h3]; exact h.2.2.1 k hk, fun k hk => by rw [h4]; exact h.2.2.2.1 k hk, fun k hk => ?_, fun k hk ha => ?_⟩
  · rw [h5, al_zup0]
    unfold upd
    by_cases e : k = i
    · rw [if_pos e, if_pos e]; rfl
    · rw [if_neg e, if_neg e]; exact h.2.2.2.2.1 k hk
  · rw [h6]
    rw [al_zup0] at ha
    unfold zup
    by_cases e : k = i
    · rw [if_pos e] at ha; cases ha
    · rw [if_neg e] at ha
      rw [if_neg e]; exact h.2.2.2.2.2 k hk ha
theorem Fr.mm {X Y : St} (h : Fr (fun k => 37 ≤ k ∧ k ≤ 41) X Y) : Fr Mp X Y := h.mono (fun k (hk : 37 ≤ k ∧ k ≤ 41) => hk.1)
set_option maxHeartbeats 4000000 in
set_option maxRecDepth 100000 in
/-- X6_addRow  -/
theorem con_X6_addRow (l : Launch) (hfl : l.stackTraces = false) {A : DA} (X : St) (hM : MInv X A) : Con l yX6_addRow cX6_addRow 1 (some (FieldType.int)) 1 30 0 (fun G => [.ref (G.2.1 37)]) X (kI (fun r9 X' => (A.R = 10 → r9 = 0 ∧ Zm X' 37 0 = 1 ∧ MInv X' A) ∧ (A.R < 10 → r9 = nI A.R ∧ Zm X' 37 0 = 0 ∧ MInv X' (A.tab (A.R + 1) A.C (sb A.ra A.R) A.ca A.z)) ∧ Fr Mp X X')) kF := by
  refine con_of (lv := fun G => [(0, .ref (G.2.1 37))]) hfl (by decide +kernel) (fun _ => rfl) (fun _ => Nat.le_of_ble_eq_true rfl) ?_
  intro G J JX CE
  have C := CE.b
  have h10 := hM.ok.R
  refine r_aload_n C dX6_addRow_0 rfl rfl ?_
  refine r_iconst (v := 0) C dX6_addRow_1 (by decide) ?_
  refine pf_RX6_77 C dX6_addRow_2 ?_
  refine r_aload_n C dX6_addRow_5 rfl rfl ?_
  refine gf_RX6_81 C dX6_addRow_6 ?_
  refine r_topi (show _ = nI A.R from hM.b.1) ?_
  refine r_bipush (v := 10) C dX6_addRow_9 (by decide) ?_
  refine r_icmp_ne (tgt := 20) C dX6_addRow_11 (by decide) (fun c_11 => ?_) (fun c_11 => ?_)
  · -- 20
    have e : A.R < 10 := by
      have h9 : ¬ A.R = 10 := fun q => c_11 (by rw [q]; rfl)
      omega
    refine r_aload_n C dX6_addRow_20 rfl rfl ?_
    refine gf_RX6_9 C dX6_addRow_21 ?_
    refine r_aload_n C dX6_addRow_24 rfl rfl ?_
    refine gf_RX6_81 C dX6_addRow_25 ?_
    refine r_topi (show _ = nI A.R from hM.b.1) ?_
    refine r_iconst (v := 1) C dX6_addRow_28 (by decide) ?_
    refine r_zast C (A.R) (by decide) rfl rfl e rfl dX6_addRow_29 ?_
    refine r_aload_n C dX6_addRow_30 rfl rfl ?_
    refine r_dup C dX6_addRow_31 rfl ?_
    refine gf_RX6_81 C dX6_addRow_32 ?_
    refine r_topi (show _ = nI A.R from hM.b.1) ?_
    refine r_iconst (v := 1) C dX6_addRow_35 (by decide) ?_
    refine r_iadd C dX6_addRow_36 ?_
    refine r_topi (nI_1 _) ?_
    refine pf_RX6_81 C dX6_addRow_37 ?_
    refine r_aload_n C dX6_addRow_40 rfl rfl ?_
    refine gf_RX6_81 C dX6_addRow_41 ?_
    refine r_topi (show _ = nI (A.R + 1) from rfl) ?_
    refine r_iconst (v := 1) C dX6_addRow_44 (by decide) ?_
    refine r_isub C dX6_addRow_45 ?_
    refine r_topi (nI_pred _) ?_
    have hF := (((Fr.m (X := X) (P := fun k => 37 ≤ k ∧ k ≤ 41) (k := 37) (j := 0) 0 ⟨by omega, by omega⟩).tr (Fr.v (k := 38) (upd (Zv X 38) A.R 1) ⟨by omega, by omega⟩)).tr (Fr.m (k := 37) (j := 1) (nI (A.R + 1)) ⟨by omega, by omega⟩))
    exact r_iret CE rfl rfl dX6_addRow_46 (Nat.le_of_ble_eq_true rfl) ⟨_, rfl, fun q => (by omega), fun _ => ⟨rfl, rfl, hM.tab hF rfl rfl (MBsb hM.b rfl rfl rfl rfl rfl rfl) (hM.ok.row e)⟩, hF.mm⟩
  · -- 14
    have e : A.R = 10 := (nI_eq (b := 10) (by omega) (by decide)).mp c_11
    refine r_aload_n C dX6_addRow_14 rfl rfl ?_
    refine r_iconst (v := 1) C dX6_addRow_15 (by decide) ?_
    refine cl_RX6_98 C (con_X6_fail l hfl _) dX6_addRow_16 rfl ⟨Nat.le_of_ble_eq_true rfl, Nat.le_of_ble_eq_true rfl⟩ (by omega) (Nat.le_of_ble_eq_true rfl) (fun r_16 X_16 h_16 => ?_)
    obtain ⟨rfl, rfl⟩ := h_16
    exact r_iret CE rfl rfl dX6_addRow_19 (Nat.le_of_ble_eq_true rfl) ⟨_, rfl, fun _ => ⟨rfl, rfl, hM⟩, fun q => (by omega), (Fr.m _ (by decide)).tr (Fr.m _ (by decide))⟩
set_option maxHeartbeats 4000000 in
set_option maxRecDepth 100000 in
/-- X6_addColumn  -/
theorem con_X6_addColumn (l : Launch) (hfl : l.stackTraces = false) {A : DA} (X : St) (hM : MInv X A) : Con l yX6_addColumn cX6_addColumn 1 (some (FieldType.int)) 1 30 0 (fun G => [.ref (G.2.1 37)]) X (kI (fun r9 X' => (A.C = 10 → r9 = 0 ∧ Zm X' 37 0 = 1 ∧ MInv X' A) ∧ (A.C < 10 → r9 = nI A.C ∧ Zm X' 37 0 = 0 ∧ MInv X' (A.tab A.R (A.C + 1) A.ra (sb A.ca A.C) A.z)) ∧ Fr Mp X X')) kF := by
  refine con_of (lv := fun G => [(0, .ref (G.2.1 37))]) hfl (by decide +kernel) (fun _ => rfl) (fun _ => Nat.le_of_ble_eq_true rfl) ?_
  intro G J JX CE
  have C := CE.b
  have h10 := hM.ok.C
  refine r_aload_n C dX6_addColumn_0 rfl rfl ?_
  refine r_iconst (v := 0) C dX6_addColumn_1 (by decide) ?_
  refine pf_RX6_77 C dX6_addColumn_2 ?_
  refine r_aload_n C dX6_addColumn_5 rfl rfl ?_
  refine gf_RX6_84 C dX6_addColumn_6 ?_
  refine r_topi (show _ = nI A.C from hM.b.2.1) ?_
  refine r_bipush (v := 10) C dX6_addColumn_9 (by decide) ?_
  refine r_icmp_ne (tgt := 20) C dX6_addColumn_11 (by decide) (fun c_11 => ?_) (fun c_11 => ?_)
  · -- 20
    have e : A.C < 10 := by
      have h9 : ¬ A.C = 10 := fun q => c_11 (by rw [q]; rfl)
      omega
    refine r_aload_n C dX6_addColumn_20 rfl rfl ?_
    refine gf_RX6_13 C dX6_addColumn_21 ?_
    refine r_aload_n C dX6_addColumn_24 rfl rfl ?_
    refine gf_RX6_84 C dX6_addColumn_25 ?_
    refine r_topi (show _ = nI A.C from hM.b.2.1) ?_
    refine r_iconst (v := 1) C dX6_addColumn_28 (by decide) ?_
    refine r_zast C (A.C) (by decide) rfl rfl e rfl dX6_addColumn_29 ?_
    refine r_aload_n C dX6_addColumn_30 rfl rfl ?_
    refine r_dup C dX6_addColumn_31 rfl ?_
    refine gf_RX6_84 C dX6_addColumn_32 ?_
    refine r_topi (show _ = nI A.C from hM.b.2.1) ?_
    refine r_iconst (v := 1) C dX6_addColumn_35 (by decide) ?_
    refine r_iadd C dX6_addColumn_36 ?_
    refine r_topi (nI_1 _) ?_
    refine pf_RX6_84 C dX6_addColumn_37 ?_
    refine r_aload_n C dX6_addColumn_40 rfl rfl ?_
    refine gf_RX6_84 C dX6_addColumn_41 ?_
    refine r_topi (show _ = nI (A.C + 1) from rfl) ?_
    refine r_iconst (v := 1) C dX6_addColumn_44 (by decide) ?_
    refine r_isub C dX6_addColumn_45 ?_
    refine r_topi (nI_pred _) ?_
    have hF := (((Fr.m (X := X) (P := fun k => 37 ≤ k ∧ k ≤ 41) (k := 37) (j := 0) 0 ⟨by omega, by omega⟩).tr (Fr.v (k := 39) (upd (Zv X 39) A.C 1) ⟨by omega, by omega⟩)).tr (Fr.m (k := 37) (j := 2) (nI (A.C + 1)) ⟨by omega, by omega⟩))
    exact r_iret CE rfl rfl dX6_addColumn_46 (Nat.le_of_ble_eq_true rfl) ⟨_, rfl, fun q => (by omega), fun _ => ⟨rfl, rfl, hM.tab hF rfl rfl (MBsc hM.b rfl rfl rfl rfl rfl rfl) (hM.ok.col e)⟩, hF.mm⟩
  · -- 14
    have e : A.C = 10 := (nI_eq (b := 10) (by omega) (by decide)).mp c_11
    refine r_aload_n C dX6_addColumn_14 rfl rfl ?_
    refine r_iconst (v := 1) C dX6_addColumn_15 (by decide) ?_
    refine cl_RX6_98 C (con_X6_fail l hfl _) dX6_addColumn_16 rfl ⟨Nat.le_of_ble_eq_true rfl, Nat.le_of_ble_eq_true rfl⟩ (by omega) (Nat.le_of_ble_eq_true rfl) (fun r_16 X_16 h_16 => ?_)
    obtain ⟨rfl, rfl⟩ := h_16
    exact r_iret CE rfl rfl dX6_addColumn_19 (Nat.le_of_ble_eq_true rfl) ⟨_, rfl, fun _ => ⟨rfl, rfl, hM⟩, fun q => (by omega), (Fr.m _ (by decide)).tr (Fr.m _ (by decide))⟩
set_option maxHeartbeats 4000000 in
set_option maxRecDepth 100000 in
/-- X6_setRow  -/
theorem con_X6_setRow (l : Launch) (hfl : l.stackTraces = false) {A : DA} {x : Int32} {b : Bool} (X : St) (hM : MInv X A) : Con l yX6_setRow cX6_setRow 4 (some (FieldType.boolean)) 1 30 0 (fun G => [.ref (G.2.1 37), .int x, .int (bI b)]) X (kI (fun r9 X' => (inI x A.R = false → r9 = 0 ∧ Zm X' 37 0 = 1 ∧ MInv X' A) ∧ (∀ r, r < A.R → x = nI r → r9 = bI (A.ra.testBit r) ∧ Zm X' 37 0 = 0 ∧ MInv X' (A.tab A.R A.C (wb A.ra r b) A.ca A.z)) ∧ Fr Mp X X')) kF := by
  refine con_of (lv := fun G => [(0, .ref (G.2.1 37)), (1, .int x), (2, .int (bI b))]) hfl (by decide +kernel) (fun _ => rfl) (fun _ => Nat.le_of_ble_eq_true rfl) ?_
  intro G J JX CE
  have C := CE.b
  have h10 := hM.ok.R
  refine r_aload_n C dX6_setRow_0 rfl rfl ?_
  refine r_iconst (v := 0) C dX6_setRow_1 (by decide) ?_
  refine pf_RX6_77 C dX6_setRow_2 ?_
  refine r_aload_n C dX6_setRow_5 rfl rfl ?_
  refine r_iload_n C dX6_setRow_6 rfl rfl ?_
  refine cl_RX6_87 C (con_X6_isRow l hfl (Ym X 37 0 0) (R := A.R) hM.b.1 hM.ok.R) dX6_setRow_7 rfl ⟨Nat.le_of_ble_eq_true rfl, Nat.le_of_ble_eq_true rfl⟩ (by omega) (Nat.le_of_ble_eq_true rfl) (fun r_7 X_7 h_7 => ?_)
  obtain ⟨rfl, rfl⟩ := h_7
  refine r_if_ne (tgt := 19) C dX6_setRow_10 (by decide) (fun c_10 => ?_) (fun c_10 => ?_)
  · -- 19
    obtain ⟨i, hi, rfl⟩ := inI_t (bI_1 c_10)
    refine r_aload_n C dX6_setRow_19 rfl rfl ?_
    refine gf_RX6_9 C dX6_setRow_20 ?_
    refine r_iload_n C dX6_setRow_23 rfl rfl ?_
    refine r_zald C (i) (by decide) rfl rfl (by omega) dX6_setRow_24 ?_
    refine r_topi (show _ = bI (A.ra.testBit i) from hM.b.2.2.1 i (by omega)) ?_
    refine r_istore_n C dX6_setRow_25 rfl (by decide) ?_
    refine r_aload_n C dX6_setRow_26 rfl rfl ?_
    refine gf_RX6_9 C dX6_setRow_27 ?_
    refine r_iload_n C dX6_setRow_30 rfl rfl ?_
    refine r_iload_n C dX6_setRow_31 rfl rfl ?_
    refine r_zast C (i) (by decide) rfl rfl (by omega) (bI_vn b) dX6_setRow_32 ?_
    refine r_iload_n C dX6_setRow_33 rfl rfl ?_
    have hF := (Fr.m (X := X) (P := fun k => 37 ≤ k ∧ k ≤ 41) (k := 37) (j := 0) 0 ⟨by omega, by omega⟩).tr (Fr.v (k := 38) (upd (Zv X 38) i (bI b)) ⟨by omega, by omega⟩)
    exact r_iret CE rfl (bI_nar _) dX6_setRow_34 (Nat.le_of_ble_eq_true rfl) ⟨_, rfl, fun q => (by rw [inI_n (by omega), decide_eq_true hi] at q; cases q), fun r hr e9 => by
      have e8 := (nI_eq (by omega) (by omega)).mp e9
      subst e8
      exact ⟨rfl, rfl, hM.tab hF rfl rfl (MBwr hM.b rfl rfl rfl rfl rfl rfl) (hM.ok.tb ⟨wb_lt hM.ok.t.1 hr, hM.ok.t.2⟩)⟩, hF.mm⟩
  · -- 13
    have e := bI_0 c_10
    refine r_aload_n C dX6_setRow_13 rfl rfl ?_
    refine r_iconst (v := 1) C dX6_setRow_14 (by decide) ?_
    refine cl_RX6_102 C (con_X6_failed l hfl _) dX6_setRow_15 rfl ⟨Nat.le_of_ble_eq_true rfl, Nat.le_of_ble_eq_true rfl⟩ (by omega) (Nat.le_of_ble_eq_true rfl) (fun r_15 X_15 h_15 => ?_)
    obtain ⟨rfl, rfl⟩ := h_15
    exact r_iret CE rfl rfl dX6_setRow_18 (Nat.le_of_ble_eq_true rfl) ⟨_, rfl, fun _ => ⟨rfl, rfl, hM⟩, fun q hq e9 => (by rw [e9, inI_n (by omega), decide_eq_true hq] at e; cases e), (Fr.m _ (by decide)).tr (Fr.m _ (by decide))⟩
set_option maxHeartbeats 4000000 in
set_option maxRecDepth 100000 in
/-- X6_setColumn  -/
theorem con_X6_setColumn (l : Launch) (hfl : l.stackTraces = false) {A : DA} {x : Int32} {b : Bool} (X : St) (hM : MInv X A) : Con l yX6_setColumn cX6_setColumn 4 (some (FieldType.boolean)) 1 30 0 (fun G => [.ref (G.2.1 37), .int x, .int (bI b)]) X (kI (fun r9 X' => (inI x A.C = false → r9 = 0 ∧ Zm X' 37 0 = 1 ∧ MInv X' A) ∧ (∀ c, c < A.C → x = nI c → r9 = bI (A.ca.testBit c) ∧ Zm X' 37 0 = 0 ∧ MInv X' (A.tab A.R A.C A.ra (wb A.ca c b) A.z)) ∧ Fr Mp X X')) kF := by
  refine con_of (lv := fun G => [(0, .ref (G.2.1 37)), (1, .int x), (2, .int (bI b))]) hfl (by decide +kernel) (fun _ => rfl) (fun _ => Nat.le_of_ble_eq_true rfl) ?_
  intro G J JX CE
  have C := CE.b
  have h10 := hM.ok.C
  refine r_aload_n C dX6_setColumn_0 rfl rfl ?_
  refine r_iconst (v := 0) C dX6_setColumn_1 (by decide) ?_
  refine pf_RX6_77 C dX6_setColumn_2 ?_
  refine r_aload_n C dX6_setColumn_5 rfl rfl ?_
  refine r_iload_n C dX6_setColumn_6 rfl rfl ?_
  refine cl_RX6_91 C (con_X6_isColumn l hfl (Ym X 37 0 0) (R := A.C) hM.b.2.1 hM.ok.C) dX6_setColumn_7 rfl ⟨Nat.le_of_ble_eq_true rfl, Nat.le_of_ble_eq_true rfl⟩ (by omega) (Nat.le_of_ble_eq_true rfl) (fun r_7 X_7 h_7 => ?_)
  obtain ⟨rfl, rfl⟩ := h_7
  refine r_if_ne (tgt := 19) C dX6_setColumn_10 (by decide) (fun c_10 => ?_) (fun c_10 => ?_)
  · -- 19
    obtain ⟨i, hi, rfl⟩ := inI_t (bI_1 c_10)
    refine r_aload_n C dX6_setColumn_19 rfl rfl ?_
    refine gf_RX6_13 C dX6_setColumn_20 ?_
    refine r_iload_n C dX6_setColumn_23 rfl rfl ?_
    refine r_zald C (i) (by decide) rfl rfl (by omega) dX6_setColumn_24 ?_
    refine r_topi (show _ = bI (A.ca.testBit i) from hM.b.2.2.2.1 i (by omega)) ?_
    refine r_istore_n C dX6_setColumn_25 rfl (by decide) ?_
    refine r_aload_n C dX6_setColumn_26 rfl rfl ?_
    refine gf_RX6_13 C dX6_setColumn_27 ?_
    refine r_iload_n C dX6_setColumn_30 rfl rfl ?_
    refine r_iload_n C dX6_setColumn_31 rfl rfl ?_
    refine r_zast C (i) (by decide) rfl rfl (by omega) (bI_vn b) dX6_setColumn_32 ?_
    refine r_iload_n C dX6_setColumn_33 rfl rfl ?_
    have hF := (Fr.m (X := X) (P := fun k => 37 ≤ k ∧ k ≤ 41) (k := 37) (j := 0) 0 ⟨by omega, by omega⟩).tr (Fr.v (k := 39) (upd (Zv X 39) i (bI b)) ⟨by omega, by omega⟩)
    exact r_iret CE rfl (bI_nar _) dX6_setColumn_34 (Nat.le_of_ble_eq_true rfl) ⟨_, rfl, fun q => (by rw [inI_n (by omega), decide_eq_true hi] at q; cases q), fun c hr e9 => by
      have e8 := (nI_eq (by omega) (by omega)).mp e9
      subst e8
      exact ⟨rfl, rfl, hM.tab hF rfl rfl (MBwc hM.b rfl rfl rfl rfl rfl rfl) (hM.ok.tb ⟨hM.ok.t.1, wb_lt hM.ok.t.2.1 hr, hM.ok.t.2.2⟩)⟩, hF.mm⟩
  · -- 13
    have e := bI_0 c_10
    refine r_aload_n C dX6_setColumn_13 rfl rfl ?_
    refine r_iconst (v := 1) C dX6_setColumn_14 (by decide) ?_
    refine cl_RX6_102 C (con_X6_failed l hfl _) dX6_setColumn_15 rfl ⟨Nat.le_of_ble_eq_true rfl, Nat.le_of_ble_eq_true rfl⟩ (by omega) (Nat.le_of_ble_eq_true rfl) (fun r_15 X_15 h_15 => ?_)
    obtain ⟨rfl, rfl⟩ := h_15
    exact r_iret CE rfl rfl dX6_setColumn_18 (Nat.le_of_ble_eq_true rfl) ⟨_, rfl, fun _ => ⟨rfl, rfl, hM⟩, fun q hq e9 => (by rw [e9, inI_n (by omega), decide_eq_true hq] at e; cases e), (Fr.m _ (by decide)).tr (Fr.m _ (by decide))⟩
set_option maxHeartbeats 4000000 in
set_option maxRecDepth 100000 in
/-- X6_setCost  -/
theorem con_X6_setCost (l : Launch) (hfl : l.stackTraces = false) {A : DA} {x y v : Int32} (X : St) (hM : MInv X A) : Con l yX6_setCost cX6_setCost 5 (some (FieldType.boolean)) 2 60 0 (fun G => [.ref (G.2.1 37), .int x, .int y, .int v]) X (kI (fun r9 X' => ((inI x A.R && inI y A.C) = false → r9 = 0 ∧ Zm X' 37 0 = 1 ∧ MInv X' A) ∧ ((inI x A.R && inI y A.C) = true → inC v.toInt = false → r9 = 0 ∧ Zm X' 37 0 = 2 ∧ MInv X' A) ∧ (∀ r c, r < A.R → c < A.C → x = nI r → y = nI c → inC v.toInt = true → r9 = bI (al A.z (10 * r + c)) ∧ Zm X' 37 0 = 0 ∧ MInv X' (A.tab A.R A.C A.ra A.ca (zup A.z (10 * r + c) v.toInt))) ∧ Fr Mp X X')) kF := by
  refine con_of (lv := fun G => [(0, .ref (G.2.1 37)), (1, .int x), (2, .int y), (3, .int v)]) hfl (by decide +kernel) (fun _ => rfl) (fun _ => Nat.le_of_ble_eq_true rfl) ?_
  intro G J JX CE
  have C := CE.b
  have hR10 := hM.ok.R
  have hC10 := hM.ok.C
  have hv1 := Int32.le_toInt v
  have hv2 := Int32.toInt_lt v
  refine r_aload_n C dX6_setCost_0 rfl rfl ?_
  refine r_iconst (v := 0) C dX6_setCost_1 (by decide) ?_
  refine pf_RX6_77 C dX6_setCost_2 ?_
  refine r_aload_n C dX6_setCost_5 rfl rfl ?_
  refine r_iload_n C dX6_setCost_6 rfl rfl ?_
  refine r_iload_n C dX6_setCost_7 rfl rfl ?_
  refine cl_RX6_105 C (con_X6_isPair l hfl (Ym X 37 0 0) (R := A.R) (C0 := A.C) hM.b.1 hM.ok.R hM.b.2.1 hM.ok.C) dX6_setCost_8 rfl ⟨Nat.le_of_ble_eq_true rfl, Nat.le_of_ble_eq_true rfl⟩ (by omega) (Nat.le_of_ble_eq_true rfl) (fun r_8 X_8 h_8 => ?_)
  obtain ⟨rfl, rfl⟩ := h_8
  refine r_if_ne (tgt := 20) C dX6_setCost_11 (by decide) (fun c_11 => ?_) (fun c_11 => ?_)
  · -- 20
    have ep := bI_1 c_11
    rw [Bool.and_eq_true] at ep
    obtain ⟨i, hi, rfl⟩ := inI_t ep.1
    obtain ⟨j, hj, rfl⟩ := inI_t ep.2
    have e10 : (inI (nI i) A.R && inI (nI j) A.C) = true := by rw [ep.1, ep.2]; rfl
    refine r_iload_n C dX6_setCost_20 rfl rfl ?_
    refine r_i2l C dX6_setCost_21 ?_
    refine r_topl (x_long v) ?_
    refine cl_RX6_109 C (con_X6_isCost l hfl _ (z := v.toInt) (by omega)) dX6_setCost_22 rfl ⟨Nat.le_of_ble_eq_true rfl, Nat.le_of_ble_eq_true rfl⟩ (by omega) (Nat.le_of_ble_eq_true rfl) (fun r_22 X_22 h_22 => ?_)
    obtain ⟨rfl, rfl⟩ := h_22
    refine r_if_ne (tgt := 34) C dX6_setCost_25 (by decide) (fun c_25 => ?_) (fun c_25 => ?_)
    · -- 34
      have ev := bI_1 c_25
      have ev9 := inC_i ev
      refine r_aload_n C dX6_setCost_34 rfl rfl ?_
      refine gf_RX6_16 C dX6_setCost_35 ?_
      refine r_bipush (v := 10) C dX6_setCost_38 (by decide) ?_
      refine r_iload_n C dX6_setCost_40 rfl rfl ?_
      refine r_imul C dX6_setCost_41 ?_
      refine r_iload_n C dX6_setCost_42 rfl rfl ?_
      refine r_iadd C dX6_setCost_43 ?_
      refine r_zald C (10 * i + j) (by decide) rfl (zix' i j) (by omega) dX6_setCost_44 ?_
      refine r_topi (show _ = bI (al A.z (10 * i + j)) from hM.b.2.2.2.2.1 _ (by omega)) ?_
      refine r_istore C dX6_setCost_45 (by decide) ?_
      refine r_aload_n C dX6_setCost_47 rfl rfl ?_
      refine gf_RX6_16 C dX6_setCost_48 ?_
      refine r_bipush (v := 10) C dX6_setCost_51 (by decide) ?_
      refine r_iload_n C dX6_setCost_53 rfl rfl ?_
      refine r_imul C dX6_setCost_54 ?_
      refine r_iload_n C dX6_setCost_55 rfl rfl ?_
      refine r_iadd C dX6_setCost_56 ?_
      refine r_iconst (v := 1) C dX6_setCost_57 (by decide) ?_
      refine r_zast C (10 * i + j) (by decide) rfl (zix' i j) (by omega) rfl dX6_setCost_58 ?_
      refine r_aload_n C dX6_setCost_59 rfl rfl ?_
      refine gf_RX6_19 C dX6_setCost_60 ?_
      refine r_bipush (v := 10) C dX6_setCost_63 (by decide) ?_
      refine r_iload_n C dX6_setCost_65 rfl rfl ?_
      refine r_imul C dX6_setCost_66 ?_
      refine r_iload_n C dX6_setCost_67 rfl rfl ?_
      refine r_iadd C dX6_setCost_68 ?_
      refine r_iload_n C dX6_setCost_69 rfl rfl ?_
      refine r_iast C (10 * i + j) (by decide) rfl (zix' i j) (by omega) dX6_setCost_70 ?_
      refine r_iload C dX6_setCost_71 rfl ?_
      have hF := ((Fr.m (X := X) (P := fun k => 37 ≤ k ∧ k ≤ 41) (k := 37) (j := 0) 0 ⟨by omega, by omega⟩).tr (Fr.v (k := 40) (upd (Zv X 40) (10 * i + j) 1) ⟨by omega, by omega⟩)).tr (Fr.v (k := 41) (upd (Zv X 41) (10 * i + j) v) ⟨by omega, by omega⟩)
      exact r_iret CE rfl (bI_nar _) dX6_setCost_73 (Nat.le_of_ble_eq_true rfl) ⟨_, rfl, fun q => (by rw [e10] at q; cases q), fun _ q => (by rw [ev] at q; cases q), fun r c hr hc e8 e9 _ => by
      have e6 := (nI_eq (by omega) (by omega)).mp e8
      have e7 := (nI_eq (by omega) (by omega)).mp e9
      subst e6
      subst e7
      exact ⟨rfl, rfl, hM.tab hF rfl rfl (MBset hM.b (by omega) rfl rfl rfl rfl rfl rfl) (hM.ok.tb (zup_tok hM.ok.t hr hc hM.ok.C ⟨by omega, by omega⟩))⟩, hF.mm⟩
    · -- 28
      have ev := bI_0 c_25
      refine r_aload_n C dX6_setCost_28 rfl rfl ?_
      refine r_iconst (v := 2) C dX6_setCost_29 (by decide) ?_
      refine cl_RX6_102 C (con_X6_failed l hfl _) dX6_setCost_30 rfl ⟨Nat.le_of_ble_eq_true rfl, Nat.le_of_ble_eq_true rfl⟩ (by omega) (Nat.le_of_ble_eq_true rfl) (fun r_30 X_30 h_30 => ?_)
      obtain ⟨rfl, rfl⟩ := h_30
      exact r_iret CE rfl rfl dX6_setCost_33 (Nat.le_of_ble_eq_true rfl) ⟨_, rfl, fun q => (by rw [e10] at q; cases q), fun _ _ => ⟨rfl, rfl, hM⟩, fun r c hr hc e8 e9 q => (by rw [ev] at q; cases q), (Fr.m _ (by decide)).tr (Fr.m _ (by decide))⟩
  · -- 14
    have e := bI_0 c_11
    refine r_aload_n C dX6_setCost_14 rfl rfl ?_
    refine r_iconst (v := 1) C dX6_setCost_15 (by decide) ?_
    refine cl_RX6_102 C (con_X6_failed l hfl _) dX6_setCost_16 rfl ⟨Nat.le_of_ble_eq_true rfl, Nat.le_of_ble_eq_true rfl⟩ (by omega) (Nat.le_of_ble_eq_true rfl) (fun r_16 X_16 h_16 => ?_)
    obtain ⟨rfl, rfl⟩ := h_16
    exact r_iret CE rfl rfl dX6_setCost_19 (Nat.le_of_ble_eq_true rfl) ⟨_, rfl, fun _ => ⟨rfl, rfl, hM⟩, fun q _ => (by rw [e] at q; cases q), fun r c hr hc e8 e9 _ => (by rw [e8, e9, inI_n (by omega), inI_n (by omega), decide_eq_true hr, decide_eq_true hc] at e; cases e), (Fr.m _ (by decide)).tr (Fr.m _ (by decide))⟩
set_option maxHeartbeats 4000000 in
set_option maxRecDepth 100000 in
/-- X6_forbid  -/
theorem con_X6_forbid (l : Launch) (hfl : l.stackTraces = false) {A : DA} {x y : Int32} (X : St) (hM : MInv X A) : Con l yX6_forbid cX6_forbid 4 (some (FieldType.boolean)) 2 60 0 (fun G => [.ref (G.2.1 37), .int x, .int y]) X (kI (fun r9 X' => ((inI x A.R && inI y A.C) = false → r9 = 0 ∧ Zm X' 37 0 = 1 ∧ MInv X' A) ∧ (∀ r c, r < A.R → c < A.C → x = nI r → y = nI c → r9 = bI (al A.z (10 * r + c)) ∧ Zm X' 37 0 = 0 ∧ MInv X' (A.tab A.R A.C A.ra A.ca (zup A.z (10 * r + c) 20000))) ∧ Fr Mp X X')) kF := by
  refine con_of (lv := fun G => [(0, .ref (G.2.1 37)), (1, .int x), (2, .int y)]) hfl (by decide +kernel) (fun _ => rfl) (fun _ => Nat.le_of_ble_eq_true rfl) ?_
  intro G J JX CE
  have C := CE.b
  have hR10 := hM.ok.R
  have hC10 := hM.ok.C
  refine r_aload_n C dX6_forbid_0 rfl rfl ?_
  refine r_iconst (v := 0) C dX6_forbid_1 (by decide) ?_
  refine pf_RX6_77 C dX6_forbid_2 ?_
  refine r_aload_n C dX6_forbid_5 rfl rfl ?_
  refine r_iload_n C dX6_forbid_6 rfl rfl ?_
  refine r_iload_n C dX6_forbid_7 rfl rfl ?_
  refine cl_RX6_105 C (con_X6_isPair l hfl (Ym X 37 0 0) (R := A.R) (C0 := A.C) hM.b.1 hM.ok.R hM.b.2.1 hM.ok.C) dX6_forbid_8 rfl ⟨Nat.le_of_ble_eq_true rfl, Nat.le_of_ble_eq_true rfl⟩ (by omega) (Nat.le_of_ble_eq_true rfl) (fun r_8 X_8 h_8 => ?_)
  obtain ⟨rfl, rfl⟩ := h_8
  refine r_if_ne (tgt := 20) C dX6_forbid_11 (by decide) (fun c_11 => ?_) (fun c_11 => ?_)
  · -- 20
    have ep := bI_1 c_11
    rw [Bool.and_eq_true] at ep
    obtain ⟨i, hi, rfl⟩ := inI_t ep.1
    obtain ⟨j, hj, rfl⟩ := inI_t ep.2
    have e10 : (inI (nI i) A.R && inI (nI j) A.C) = true := by rw [ep.1, ep.2]; rfl
    refine r_aload_n C dX6_forbid_20 rfl rfl ?_
    refine gf_RX6_16 C dX6_forbid_21 ?_
    refine r_bipush (v := 10) C dX6_forbid_24 (by decide) ?_
    refine r_iload_n C dX6_forbid_26 rfl rfl ?_
    refine r_imul C dX6_forbid_27 ?_
    refine r_iload_n C dX6_forbid_28 rfl rfl ?_
    refine r_iadd C dX6_forbid_29 ?_
    refine r_zald C (10 * i + j) (by decide) rfl (zix' i j) (by omega) dX6_forbid_30 ?_
    refine r_topi (show _ = bI (al A.z (10 * i + j)) from hM.b.2.2.2.2.1 _ (by omega)) ?_
    refine r_istore_n C dX6_forbid_31 rfl (by decide) ?_
    refine r_aload_n C dX6_forbid_32 rfl rfl ?_
    refine gf_RX6_16 C dX6_forbid_33 ?_
    refine r_bipush (v := 10) C dX6_forbid_36 (by decide) ?_
    refine r_iload_n C dX6_forbid_38 rfl rfl ?_
    refine r_imul C dX6_forbid_39 ?_
    refine r_iload_n C dX6_forbid_40 rfl rfl ?_
    refine r_iadd C dX6_forbid_41 ?_
    refine r_iconst (v := 0) C dX6_forbid_42 (by decide) ?_
    refine r_zast C (10 * i + j) (by decide) rfl (zix' i j) (by omega) rfl dX6_forbid_43 ?_
    refine r_iload_n C dX6_forbid_44 rfl rfl ?_
    have hF := (Fr.m (X := X) (P := fun k => 37 ≤ k ∧ k ≤ 41) (k := 37) (j := 0) 0 ⟨by omega, by omega⟩).tr (Fr.v (k := 40) (upd (Zv X 40) (10 * i + j) 0) ⟨by omega, by omega⟩)
    exact r_iret CE rfl (bI_nar _) dX6_forbid_45 (Nat.le_of_ble_eq_true rfl) ⟨_, rfl, fun q => (by rw [e10] at q; cases q), fun r c hr hc e8 e9 => by
      have e6 := (nI_eq (by omega) (by omega)).mp e8
      have e7 := (nI_eq (by omega) (by omega)).mp e9
      subst e6
      subst e7
      exact ⟨rfl, rfl, hM.tab hF rfl rfl (MBfbd hM.b rfl rfl rfl rfl rfl rfl) (hM.ok.tb (zup_tok hM.ok.t hr hc hM.ok.C ⟨by omega, by omega⟩))⟩, hF.mm⟩
  · -- 14
    have e := bI_0 c_11
    refine r_aload_n C dX6_forbid_14 rfl rfl ?_
    refine r_iconst (v := 1) C dX6_forbid_15 (by decide) ?_
    refine cl_RX6_102 C (con_X6_failed l hfl _) dX6_forbid_16 rfl ⟨Nat.le_of_ble_eq_true rfl, Nat.le_of_ble_eq_true rfl⟩ (by omega) (Nat.le_of_ble_eq_true rfl) (fun r_16 X_16 h_16 => ?_)
    obtain ⟨rfl, rfl⟩ := h_16
    exact r_iret CE rfl rfl dX6_forbid_19 (Nat.le_of_ble_eq_true rfl) ⟨_, rfl, fun _ => ⟨rfl, rfl, hM⟩, fun r c hr hc e8 e9 => (by rw [e8, e9, inI_n (by omega), inI_n (by omega), decide_eq_true hr, decide_eq_true hc] at e; cases e), (Fr.m _ (by decide)).tr (Fr.m _ (by decide))⟩
