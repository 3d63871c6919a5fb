set_option maxHeartbeats 4000000 in
set_option maxRecDepth 100000 in
/-- X6_solveWith  -/
theorem con_X6_solveWith (l : Launch) (hfl : l.stackTraces = false) {A : DA} {r0 m9 : Nat} {a9 : Int32} (X : St) (hM : MInv X A) (hr : r0 < A.R) (hm : nI (chU A.ra A.ca A.z r0) &&& a9 = nI m9) (hm2 : m9 < 2048 ∧ ∀ c, c < 10 → m9.testBit c = true → (us A.ra A.ca A.z r0).testBit c = true) : Con l yX6_solveWith cX6_solveWith 4 none 6 190 0 (fun G => [.ref (G.2.1 37), .int (nI r0), .int a9]) X (kV (fun X' => Zm X' 37 22 = bI (decide (oS (gM A r0 m9) = i32 (szf (Ls A.ra A.ca A.z 10 A.ca)))) ∧ Zm X' 37 23 = oC (gM A r0 m9) ∧ Zm X' 37 0 = Zm X 37 0 ∧ MInv X' A ∧ Fr Mp X X')) kF := by
  refine con_of (lv := fun G => [(0, .ref (G.2.1 37)), (1, .int (nI r0)), (2, .int a9)]) hfl (by decide +kernel) (fun _ => rfl) (fun _ => Nat.le_of_ble_eq_true rfl) ?_
  intro G J JX CE
  have C := CE.b
  have hR10 := hM.ok.R
  have hC10 := hM.ok.C
  refine r_aload_n C dX6_solveWith_0 rfl rfl ?_
  refine cl_RX6_146 C (con_X6_solve l hfl X hM) dX6_solveWith_1 rfl ⟨Nat.le_of_ble_eq_true rfl, Nat.le_of_ble_eq_true rfl⟩ (by omega) (Nat.le_of_ble_eq_true rfl) (fun X_1 h_1 => ?_)
  obtain ⟨hk, hT, hM2, hF⟩ := h_1
  obtain ⟨t1, t2, t3⟩ := tpS hT hM.ok
  refine r_aload_n C dX6_solveWith_4 rfl rfl ?_
  refine gf_RX6_41 C dX6_solveWith_5 ?_
  refine r_iconst (v := 0) C dX6_solveWith_8 (by decide) ?_
  refine r_iald C (0) (by decide) rfl rfl (by decide) dX6_solveWith_9 ?_
  refine r_topi t1 ?_
  refine r_istore_n C dX6_solveWith_10 rfl (by decide) ?_
  refine r_aload_n C dX6_solveWith_11 rfl rfl ?_
  refine gf_RX6_50 C dX6_solveWith_12 ?_
  refine r_iload_n C dX6_solveWith_15 rfl rfl ?_
  refine r_dup2 C dX6_solveWith_16 rfl rfl ?_
  refine r_iald C (r0) (by decide) rfl rfl (by omega) dX6_solveWith_17 ?_
  refine r_topi (hk r0 hr).1 ?_
  refine r_iload_n C dX6_solveWith_18 rfl rfl ?_
  refine r_iand C dX6_solveWith_19 ?_
  refine r_topi hm ?_
  refine r_iast C (r0) (by decide) rfl rfl (by omega) dX6_solveWith_20 ?_
  have hM4 : MInv (Yv X_1 51 (upd (Zv X_1 51) r0 (nI m9))) A := hM2.fr (P := fun k => k = 51) (Fr.v _ rfl) (fun k _ _ q => by omega)
  have hk4 : chk (Yv X_1 51 (upd (Zv X_1 51) r0 (nI m9))) (chM (chU A.ra A.ca A.z) r0 m9) (sc A.z) A.R A.C := chk_us hM2 (Fr.v _ (Or.inr (by decide))) (fun r hr2 => by
    show (if r = r0 then nI m9 else Zv X_1 51 r) = nI (if r = r0 then m9 else chU A.ra A.ca A.z r)
    by_cases e : r = r0
    · rw [if_pos e, if_pos e]
    · rw [if_neg e, if_neg e]; exact (hk r hr2).1) (fun r hr2 => by
    show (if r = r0 then m9 else chU A.ra A.ca A.z r) < 2048 ∧ ∀ c, c < 10 → (if r = r0 then m9 else chU A.ra A.ca A.z r).testBit c = true → _
    by_cases e : r = r0
    · rw [if_pos e, e]; exact hm2
    · rw [if_neg e]; exact ⟨chU_lt _ _ _ _, fun c hc hb => by rw [chU_bit hc] at hb; exact hb⟩)
  refine r_aload_n C dX6_solveWith_21 rfl rfl ?_
  refine cl_RX6_144 C (con_X6_fill l hfl _ (ch := chM (chU A.ra A.ca A.z) r0 m9) (s := sc A.z) hM4.b.1 hM4.b.2.1 hM.ok.R hM.ok.C hk4) dX6_solveWith_22 rfl ⟨Nat.le_of_ble_eq_true rfl, Nat.le_of_ble_eq_true rfl⟩ (by omega) (Nat.le_of_ble_eq_true rfl) (fun X_22 h_22 => ?_)
  obtain ⟨hT5, hF5⟩ := h_22
  have h5 : OHold X_22 (1024 * 0 + 0) (gT (chM (chU A.ra A.ca A.z) r0 m9) (sc A.z) A.R (A.R - 0) 0) := hT5 0 0 (Nat.le_refl _) (Nat.zero_le _) (Nat.two_pow_pos _)
  rw [Nat.sub_zero] at h5
  have hM5 : MInv X_22 A := hM4.fr hF5 (fun k _ _ q => by omega)
  have hF6 : Fr Mp X X_22 := ((hF.mono (fun k q => by show 37 ≤ k; omega)).tr (Fr.v _ (by decide))).tr (hF5.mono (fun k q => by have q : 48 ≤ k ∧ k ≤ 50 := q; show 37 ≤ k; omega))
  have z6 : Zm X_22 37 0 = Zm X 37 0 := ((hF5 37 (by omega)).1 0).trans ((hF 37 (by omega)).1 0)
  refine r_aload_n C dX6_solveWith_25 rfl rfl ?_
  refine r_aload_n C dX6_solveWith_26 rfl rfl ?_
  refine gf_RX6_41 C dX6_solveWith_27 ?_
  refine r_iconst (v := 0) C dX6_solveWith_30 (by decide) ?_
  refine r_iald C (0) (by decide) rfl rfl (by decide) dX6_solveWith_31 ?_
  refine r_topi (show _ = oS (gM A r0 m9) from h5.1) ?_
  refine r_iload_n C dX6_solveWith_32 rfl rfl ?_
  refine r_icmp_ne (tgt := 40) C dX6_solveWith_33 (by decide) (fun c_33 => ?_) (fun c_33 => ?_)
  · -- 40
    have e : decide (oS (gM A r0 m9) = i32 (szf (Ls A.ra A.ca A.z 10 A.ca))) = false := decide_eq_false c_33
    refine r_iconst (v := 0) C dX6_solveWith_40 (by decide) ?_
    refine pf_RX6_152 C rfl rfl dX6_solveWith_41 ?_
    refine r_aload_n C dX6_solveWith_44 rfl rfl ?_
    refine r_aload_n C dX6_solveWith_45 rfl rfl ?_
    refine gf_RX6_44 C dX6_solveWith_46 ?_
    refine r_iconst (v := 0) C dX6_solveWith_49 (by decide) ?_
    refine r_iald C (0) (by decide) rfl rfl (by decide) dX6_solveWith_50 ?_
    refine r_topi (show _ = oC (gM A r0 m9) from h5.2.1) ?_
    refine pf_RX6_156 C dX6_solveWith_51 ?_
    exact r_vret CE rfl dX6_solveWith_54 (Nat.le_of_ble_eq_true rfl) ⟨rfl, by rw [e]; rfl, rfl, z6, hM5, (hF6.tr (Fr.m _ (by decide))).tr (Fr.m _ (by decide))⟩
  · -- 36
    have e : decide (oS (gM A r0 m9) = i32 (szf (Ls A.ra A.ca A.z 10 A.ca))) = true := decide_eq_true c_33
    refine r_iconst (v := 1) C dX6_solveWith_36 (by decide) ?_
    refine r_goto (tgt := 41) C dX6_solveWith_37 (by decide) ?_
    refine pf_RX6_152 C rfl rfl dX6_solveWith_41 ?_
    refine r_aload_n C dX6_solveWith_44 rfl rfl ?_
    refine r_aload_n C dX6_solveWith_45 rfl rfl ?_
    refine gf_RX6_44 C dX6_solveWith_46 ?_
    refine r_iconst (v := 0) C dX6_solveWith_49 (by decide) ?_
    refine r_iald C (0) (by decide) rfl rfl (by decide) dX6_solveWith_50 ?_
    refine r_topi (show _ = oC (gM A r0 m9) from h5.2.1) ?_
    refine pf_RX6_156 C dX6_solveWith_51 ?_
    exact r_vret CE rfl dX6_solveWith_54 (Nat.le_of_ble_eq_true rfl) ⟨rfl, by rw [e]; rfl, rfl, z6, hM5, (hF6.tr (Fr.m _ (by decide))).tr (Fr.m _ (by decide))⟩
theorem cb_m {A : DA} {r c : Nat} (hc : c < 10) : cb (chU A.ra A.ca A.z r) c < 2048 ∧ ∀ c', c' < 10 → (cb (chU A.ra A.ca A.z r) c).testBit c' = true → (us A.ra A.ca A.z r).testBit c' = true := ⟨cb_lt (n := 11) (chU_lt _ _ _ _), fun c' hc' hb => by
  rw [cb_bit, Bool.and_eq_true, chU_bit hc'] at hb
  exact hb.1⟩
theorem an_m {A : DA} {r c : Nat} : chU A.ra A.ca A.z r &&& 2 ^ c < 2048 ∧ ∀ c', c' < 10 → (chU A.ra A.ca A.z r &&& 2 ^ c).testBit c' = true → (us A.ra A.ca A.z r).testBit c' = true := ⟨Nat.lt_of_le_of_lt Nat.and_le_left (chU_lt _ _ _ _), fun c' hc' hb => by
  rw [Nat.testBit_and, Bool.and_eq_true, chU_bit hc'] at hb
  exact hb.1⟩
set_option maxHeartbeats 4000000 in
set_option maxRecDepth 100000 in
/-- X6_isPossible  -/
theorem con_X6_isPossible (l : Launch) (hfl : l.stackTraces = false) {A : DA} {x y : Int32} (X : St) (hM : MInv X A) : Con l yX6_isPossible cX6_isPossible 4 (some (FieldType.boolean)) 7 230 0 (fun G => [.ref (G.2.1 37), .int x, .int y]) X (kI (fun r9 X' => ((inI x A.R && inI y A.C) = false → r9 = 0 ∧ Zm X' 37 0 = 1 ∧ MInv X' A) ∧ (∀ r c, r < A.R → c < A.C → x = nI r → y = nI c → r9 = bI ((us A.ra A.ca A.z r).testBit c && decide (xW A.ra A.ca A.z r c = 0)) ∧ Zm X' 37 0 = 0 ∧ MInv X' A) ∧ Fr Mp X X')) kF := by
  refine con_of (lv := fun G => [(0, .ref (G.2.1 37)), (1, .int x), (2, .int y)]) hfl (by decide +kernel) (fun _ => rfl) (fun _ => Nat.le_of_ble_eq_true rfl) ?_
  intro G J JX CE
  have C := CE.b
  have hR10 := hM.ok.R
  have hC10 := hM.ok.C
  have hLb := Ls_bd (ra := A.ra) (ca := A.ca) hM.ok.t.2.2.1 10 A.ca (by omega)
  refine r_aload_n C dX6_isPossible_0 rfl rfl ?_
  refine r_iconst (v := 0) C dX6_isPossible_1 (by decide) ?_
  refine pf_RX6_77 C dX6_isPossible_2 ?_
  refine r_aload_n C dX6_isPossible_5 rfl rfl ?_
  refine r_iload_n C dX6_isPossible_6 rfl rfl ?_
  refine r_iload_n C dX6_isPossible_7 rfl rfl ?_
  refine cl_RX6_105 C (con_X6_isPair l hfl (Ym X 37 0 0) (R := A.R) (C0 := A.C) hM.b.1 hM.ok.R hM.b.2.1 hM.ok.C) dX6_isPossible_8 rfl ⟨Nat.le_of_ble_eq_true rfl, Nat.le_of_ble_eq_true rfl⟩ (by omega) (Nat.le_of_ble_eq_true rfl) (fun r_8 X_8 h_8 => ?_)
  obtain ⟨rfl, rfl⟩ := h_8
  refine r_if_ne (tgt := 20) C dX6_isPossible_11 (by decide) (fun c_11 => ?_) (fun c_11 => ?_)
  · -- 20
    have ep := bI_1 c_11
    rw [Bool.and_eq_true] at ep
    obtain ⟨i, hi, rfl⟩ := inI_t ep.1
    obtain ⟨j, hj, rfl⟩ := inI_t ep.2
    have e10 : (inI (nI i) A.R && inI (nI j) A.C) = true := by rw [ep.1, ep.2]; rfl
    refine r_aload_n C dX6_isPossible_20 rfl rfl ?_
    refine cl_RX6_146 C (con_X6_solve l hfl (Ym X 37 0 0) hM) dX6_isPossible_21 rfl ⟨Nat.le_of_ble_eq_true rfl, Nat.le_of_ble_eq_true rfl⟩ (by omega) (Nat.le_of_ble_eq_true rfl) (fun X_21 h_21 => ?_)
    obtain ⟨hk, hT, hM2, hF⟩ := h_21
    obtain ⟨t1, t2, t3⟩ := tpS hT hM.ok
    have z0 : Zm X_21 37 0 = 0 := (hF 37 (by omega)).1 0
    have hF0 : Fr Mp X X_21 := (Fr.t1 0).tr (hF.mono (fun k q => by have q : 48 ≤ k ∧ k ≤ 51 := q; show 37 ≤ k; omega))
    refine r_aload_n C dX6_isPossible_24 rfl rfl ?_
    refine gf_RX6_44 C dX6_isPossible_25 ?_
    refine r_iconst (v := 0) C dX6_isPossible_28 (by decide) ?_
    refine r_iald C (0) (by decide) rfl rfl (by decide) dX6_isPossible_29 ?_
    refine r_topi t2 ?_
    refine r_istore_n C dX6_isPossible_30 rfl (by decide) ?_
    refine r_aload_n C dX6_isPossible_31 rfl rfl ?_
    refine r_iload_n C dX6_isPossible_32 rfl rfl ?_
    refine r_iconst (v := 1) C dX6_isPossible_33 (by decide) ?_
    refine r_iload_n C dX6_isPossible_34 rfl rfl ?_
    refine r_ishl C dX6_isPossible_35 ?_
    refine r_topi (one_shl j (by omega)) ?_
    refine cl_RX6_159 C (con_X6_solveWith l hfl _ (r0 := i) (m9 := chU A.ra A.ca A.z i &&& 2 ^ j) hM2 hi (zand _ _) an_m) dX6_isPossible_36 rfl ⟨Nat.le_of_ble_eq_true rfl, Nat.le_of_ble_eq_true rfl⟩ (by omega) (Nat.le_of_ble_eq_true rfl) (fun X_36 h_36 => ?_)
    obtain ⟨w1, w2, w3, w4, w5⟩ := h_36
    refine r_aload_n C dX6_isPossible_39 rfl rfl ?_
    refine gf_RX6_152 C dX6_isPossible_40 ?_
    refine r_topi w1 ?_
    refine r_if_eq (tgt := 58) C dX6_isPossible_43 (by decide) (fun c_43 => ?_) (fun c_43 => ?_)
    · -- 58
      have ef : ¬ oS (gM A i (chU A.ra A.ca A.z i &&& 2 ^ j)) = i32 (szf (Ls A.ra A.ca A.z 10 A.ca)) := of_decide_eq_false (bI_0 c_43)
      have ea : ((us A.ra A.ca A.z i).testBit j && decide (xW A.ra A.ca A.z i j = 0)) = false := by
        cases hb : (us A.ra A.ca A.z i).testBit j with
        | false => rfl
        | true =>
          rcases ask_W hM hi (by omega) hb with h9 | h9
          · exact absurd h9.1 ef
          · rw [h9.2]; rfl
      refine r_iconst (v := 0) C dX6_isPossible_58 (by decide) ?_
      exact r_iret CE rfl rfl dX6_isPossible_59 (Nat.le_of_ble_eq_true rfl) ⟨_, rfl, fun q => (by rw [e10] at q; cases q), fun r c hr hc e8 e9 => (by rw [← (nI_eq (by omega) (by omega)).mp e8, ← (nI_eq (by omega) (by omega)).mp e9]; exact ⟨by rw [ea]; rfl, w3.trans z0, w4⟩), hF0.tr w5⟩
    · -- 46
      have ef : oS (gM A i (chU A.ra A.ca A.z i &&& 2 ^ j)) = i32 (szf (Ls A.ra A.ca A.z 10 A.ca)) := of_decide_eq_true (bI_1 c_43)
      have hb : (us A.ra A.ca A.z i).testBit j = true := nfb (fun q => ask_N hM hi (by omega) q ef)
      have h9 := (ask_W hM hi (by omega) hb).resolve_right (fun q => q.1 ef)
      have hxb := xW_bd (ra := A.ra) (r := i) (c := j) hM.ok.t.2.2.1 (by omega) (by omega) (hM.ok.t.b hM.ok.C)
      have hcs : -20000000 ≤ csf (Ls A.ra A.ca A.z 10 A.ca) ∧ csf (Ls A.ra A.ca A.z 10 A.ca) ≤ 20000000 := by
        obtain ⟨s, c, h1, h2, h3, h4, h5, h6, h7⟩ := kv_s (kv_L hM) (Nat.le_refl _)
        rw [h3]; omega
      refine r_aload_n C dX6_isPossible_46 rfl rfl ?_
      refine gf_RX6_156 C dX6_isPossible_47 ?_
      refine r_iload_n C dX6_isPossible_50 rfl rfl ?_
      refine r_icmp_ne (tgt := 58) C dX6_isPossible_51 (by decide) (fun c_51 => ?_) (fun c_51 => ?_)
      · -- 58
        have ea : ((us A.ra A.ca A.z i).testBit j && decide (xW A.ra A.ca A.z i j = 0)) = false := by
          rw [decide_eq_false (fun q => c_51 (by rw [w2, h9.2.1, q, Int.add_zero])), Bool.and_false]
        refine r_iconst (v := 0) C dX6_isPossible_58 (by decide) ?_
        exact r_iret CE rfl rfl dX6_isPossible_59 (Nat.le_of_ble_eq_true rfl) ⟨_, rfl, fun q => (by rw [e10] at q; cases q), fun r c hr hc e8 e9 => (by rw [← (nI_eq (by omega) (by omega)).mp e8, ← (nI_eq (by omega) (by omega)).mp e9]; exact ⟨by rw [ea]; rfl, w3.trans z0, w4⟩), hF0.tr w5⟩
      · -- 54
        rw [w2, h9.2.1] at c_51
        have ea : ((us A.ra A.ca A.z i).testBit j && decide (xW A.ra A.ca A.z i j = 0)) = true := by
          have h8 := (i32_eq (by omega) (by omega)).mp c_51
          rw [hb, decide_eq_true (by omega)]; rfl
        refine r_iconst (v := 1) C dX6_isPossible_54 (by decide) ?_
        refine r_goto (tgt := 59) C dX6_isPossible_55 (by decide) ?_
        exact r_iret CE rfl rfl dX6_isPossible_59 (Nat.le_of_ble_eq_true rfl) ⟨_, rfl, fun q => (by rw [e10] at q; cases q), fun r c hr hc e8 e9 => (by rw [← (nI_eq (by omega) (by omega)).mp e8, ← (nI_eq (by omega) (by omega)).mp e9]; exact ⟨by rw [ea]; rfl, w3.trans z0, w4⟩), hF0.tr w5⟩
  · -- 14
    have e := bI_0 c_11
    refine r_aload_n C dX6_isPossible_14 rfl rfl ?_
    refine r_iconst (v := 1) C dX6_isPossible_15 (by decide) ?_
    refine cl_RX6_102 C (con_X6_failed l hfl _) dX6_isPossible_16 rfl ⟨Nat.le_of_ble_eq_true rfl, Nat.le_of_ble_eq_true rfl⟩ (by omega) (Nat.le_of_ble_eq_true rfl) (fun r_16 X_16 h_16 => ?_)
    obtain ⟨rfl, rfl⟩ := h_16
    exact r_iret CE rfl rfl dX6_isPossible_19 (Nat.le_of_ble_eq_true rfl) ⟨_, rfl, fun _ => ⟨rfl, rfl, hM⟩, fun r c hr hc e8 e9 => (by rw [e8, e9, inI_n (by omega), inI_n (by omega), decide_eq_true hr, decide_eq_true hc] at e; cases e), Fr.t2 _ _⟩
set_option maxHeartbeats 4000000 in
set_option maxRecDepth 100000 in
/-- X6_isCertain  -/
theorem con_X6_isCertain (l : Launch) (hfl : l.stackTraces = false) {A : DA} {x y : Int32} (X : St) (hM : MInv X A) : Con l yX6_isCertain cX6_isCertain 4 (some (FieldType.boolean)) 7 230 0 (fun G => [.ref (G.2.1 37), .int x, .int y]) X (kI (fun r9 X' => ((inI x A.R && inI y A.C) = false → r9 = 0 ∧ Zm X' 37 0 = 1 ∧ MInv X' A) ∧ (∀ r c, r < A.R → c < A.C → x = nI r → y = nI c → r9 = bI (!decide (xO A.ra A.ca A.z r c = 0)) ∧ Zm X' 37 0 = 0 ∧ MInv X' A) ∧ Fr Mp X X')) kF := by
  refine con_of (lv := fun G => [(0, .ref (G.2.1 37)), (1, .int x), (2, .int y)]) hfl (by decide +kernel) (fun _ => rfl) (fun _ => Nat.le_of_ble_eq_true rfl) ?_
  intro G J JX CE
  have C := CE.b
  have hR10 := hM.ok.R
  have hC10 := hM.ok.C
  have hLb := Ls_bd (ra := A.ra) (ca := A.ca) hM.ok.t.2.2.1 10 A.ca (by omega)
  refine r_aload_n C dX6_isCertain_0 rfl rfl ?_
  refine r_iconst (v := 0) C dX6_isCertain_1 (by decide) ?_
  refine pf_RX6_77 C dX6_isCertain_2 ?_
  refine r_aload_n C dX6_isCertain_5 rfl rfl ?_
  refine r_iload_n C dX6_isCertain_6 rfl rfl ?_
  refine r_iload_n C dX6_isCertain_7 rfl rfl ?_
  refine cl_RX6_105 C (con_X6_isPair l hfl (Ym X 37 0 0) (R := A.R) (C0 := A.C) hM.b.1 hM.ok.R hM.b.2.1 hM.ok.C) dX6_isCertain_8 rfl ⟨Nat.le_of_ble_eq_true rfl, Nat.le_of_ble_eq_true rfl⟩ (by omega) (Nat.le_of_ble_eq_true rfl) (fun r_8 X_8 h_8 => ?_)
  obtain ⟨rfl, rfl⟩ := h_8
  refine r_if_ne (tgt := 20) C dX6_isCertain_11 (by decide) (fun c_11 => ?_) (fun c_11 => ?_)
  · -- 20
    have ep := bI_1 c_11
    rw [Bool.and_eq_true] at ep
    obtain ⟨i, hi, rfl⟩ := inI_t ep.1
    obtain ⟨j, hj, rfl⟩ := inI_t ep.2
    have e10 : (inI (nI i) A.R && inI (nI j) A.C) = true := by rw [ep.1, ep.2]; rfl
    refine r_aload_n C dX6_isCertain_20 rfl rfl ?_
    refine cl_RX6_146 C (con_X6_solve l hfl (Ym X 37 0 0) hM) dX6_isCertain_21 rfl ⟨Nat.le_of_ble_eq_true rfl, Nat.le_of_ble_eq_true rfl⟩ (by omega) (Nat.le_of_ble_eq_true rfl) (fun X_21 h_21 => ?_)
    obtain ⟨hk, hT, hM2, hF⟩ := h_21
    obtain ⟨t1, t2, t3⟩ := tpS hT hM.ok
    have z0 : Zm X_21 37 0 = 0 := (hF 37 (by omega)).1 0
    have hF0 : Fr Mp X X_21 := (Fr.t1 0).tr (hF.mono (fun k q => by have q : 48 ≤ k ∧ k ≤ 51 := q; show 37 ≤ k; omega))
    refine r_aload_n C dX6_isCertain_24 rfl rfl ?_
    refine gf_RX6_44 C dX6_isCertain_25 ?_
    refine r_iconst (v := 0) C dX6_isCertain_28 (by decide) ?_
    refine r_iald C (0) (by decide) rfl rfl (by decide) dX6_isCertain_29 ?_
    refine r_topi t2 ?_
    refine r_istore_n C dX6_isCertain_30 rfl (by decide) ?_
    refine r_aload_n C dX6_isCertain_31 rfl rfl ?_
    refine r_iload_n C dX6_isCertain_32 rfl rfl ?_
    refine r_iconst (v := 1) C dX6_isCertain_33 (by decide) ?_
    refine r_iload_n C dX6_isCertain_34 rfl rfl ?_
    refine r_ishl C dX6_isCertain_35 ?_
    refine r_topi (one_shl j (by omega)) ?_
    refine r_iconst (v := (-1)) C dX6_isCertain_36 (by decide) ?_
    refine r_ixor C dX6_isCertain_37 ?_
    refine cl_RX6_159 C (con_X6_solveWith l hfl _ (r0 := i) (m9 := cb (chU A.ra A.ca A.z i) j) hM2 hi (zandn _ _) (cb_m (by omega))) dX6_isCertain_38 rfl ⟨Nat.le_of_ble_eq_true rfl, Nat.le_of_ble_eq_true rfl⟩ (by omega) (Nat.le_of_ble_eq_true rfl) (fun X_38 h_38 => ?_)
    obtain ⟨w1, w2, w3, w4, w5⟩ := h_38
    refine r_aload_n C dX6_isCertain_41 rfl rfl ?_
    refine gf_RX6_152 C dX6_isCertain_42 ?_
    refine r_topi w1 ?_
    refine r_if_eq (tgt := 56) C dX6_isCertain_45 (by decide) (fun c_45 => ?_) (fun c_45 => ?_)
    · -- 56
      have ef : ¬ oS (gM A i (cb (chU A.ra A.ca A.z i) j)) = i32 (szf (Ls A.ra A.ca A.z 10 A.ca)) := of_decide_eq_false (bI_0 c_45)
      have ea : (!decide (xO A.ra A.ca A.z i j = 0)) = true := by
        rcases ask_O hM hi (c := j) (by omega) with h9 | h9
        · exact absurd h9.1 ef
        · rw [h9.2]; rfl
      refine r_iconst (v := 1) C dX6_isCertain_56 (by decide) ?_
      refine r_goto (tgt := 61) C dX6_isCertain_57 (by decide) ?_
      exact r_iret CE rfl rfl dX6_isCertain_61 (Nat.le_of_ble_eq_true rfl) ⟨_, rfl, fun q => (by rw [e10] at q; cases q), fun r c hr hc e8 e9 => (by rw [← (nI_eq (by omega) (by omega)).mp e8, ← (nI_eq (by omega) (by omega)).mp e9]; exact ⟨by rw [ea]; rfl, w3.trans z0, w4⟩), hF0.tr w5⟩
    · -- 48
      have ef : oS (gM A i (cb (chU A.ra A.ca A.z i) j)) = i32 (szf (Ls A.ra A.ca A.z 10 A.ca)) := of_decide_eq_true (bI_1 c_45)
      have h9 := (ask_O hM hi (c := j) (by omega)).resolve_right (fun q => q.1 ef)
      have hxb := xO_bd (ra := A.ra) (r := i) (c := j) hM.ok.t.2.2.1 (by omega) (hM.ok.t.b hM.ok.C)
      have hcs : -20000000 ≤ csf (Ls A.ra A.ca A.z 10 A.ca) ∧ csf (Ls A.ra A.ca A.z 10 A.ca) ≤ 20000000 := by
        obtain ⟨s, c, h1, h2, h3, h4, h5, h6, h7⟩ := kv_s (kv_L hM) (Nat.le_refl _)
        rw [h3]; omega
      refine r_aload_n C dX6_isCertain_48 rfl rfl ?_
      refine gf_RX6_156 C dX6_isCertain_49 ?_
      refine r_iload_n C dX6_isCertain_52 rfl rfl ?_
      refine r_icmp_eq (tgt := 60) C dX6_isCertain_53 (by decide) (fun c_53 => ?_) (fun c_53 => ?_)
      · -- 60
        rw [w2, h9.2.1] at c_53
        have ea : (!decide (xO A.ra A.ca A.z i j = 0)) = false := by
          have h8 := (i32_eq (by omega) (by omega)).mp c_53
          rw [decide_eq_true (by omega)]; rfl
        refine r_iconst (v := 0) C dX6_isCertain_60 (by decide) ?_
        exact r_iret CE rfl rfl dX6_isCertain_61 (Nat.le_of_ble_eq_true rfl) ⟨_, rfl, fun q => (by rw [e10] at q; cases q), fun r c hr hc e8 e9 => (by rw [← (nI_eq (by omega) (by omega)).mp e8, ← (nI_eq (by omega) (by omega)).mp e9]; exact ⟨by rw [ea]; rfl, w3.trans z0, w4⟩), hF0.tr w5⟩
      · -- 56
        have ea : (!decide (xO A.ra A.ca A.z i j = 0)) = true := by
          rw [decide_eq_false (fun q => c_53 (by rw [w2, h9.2.1, q, Int.add_zero]))]; rfl
        refine r_iconst (v := 1) C dX6_isCertain_56 (by decide) ?_
        refine r_goto (tgt := 61) C dX6_isCertain_57 (by decide) ?_
        exact r_iret CE rfl rfl dX6_isCertain_61 (Nat.le_of_ble_eq_true rfl) ⟨_, rfl, fun q => (by rw [e10] at q; cases q), fun r c hr hc e8 e9 => (by rw [← (nI_eq (by omega) (by omega)).mp e8, ← (nI_eq (by omega) (by omega)).mp e9]; exact ⟨by rw [ea]; rfl, w3.trans z0, w4⟩), hF0.tr w5⟩
  · -- 14
    have e := bI_0 c_11
    refine r_aload_n C dX6_isCertain_14 rfl rfl ?_
    refine r_iconst (v := 1) C dX6_isCertain_15 (by decide) ?_
    refine cl_RX6_102 C (con_X6_failed l hfl _) dX6_isCertain_16 rfl ⟨Nat.le_of_ble_eq_true rfl, Nat.le_of_ble_eq_true rfl⟩ (by omega) (Nat.le_of_ble_eq_true rfl) (fun r_16 X_16 h_16 => ?_)
    obtain ⟨rfl, rfl⟩ := h_16
    exact r_iret CE rfl rfl dX6_isCertain_19 (Nat.le_of_ble_eq_true rfl) ⟨_, rfl, fun _ => ⟨rfl, rfl, hM⟩, fun r c hr hc e8 e9 => (by rw [e8, e9, inI_n (by omega), inI_n (by omega), decide_eq_true hr, decide_eq_true hc] at e; cases e), Fr.t2 _ _⟩
set_option maxHeartbeats 4000000 in
set_option maxRecDepth 100000 in
/-- X6_loss  -/
theorem con_X6_loss (l : Launch) (hfl : l.stackTraces = false) {A : DA} {x y : Int32} (X : St) (hM : MInv X A) : Con l yX6_loss cX6_loss 4 (some (FieldType.int)) 7 230 0 (fun G => [.ref (G.2.1 37), .int x, .int y]) X (kI (fun r9 X' => ((inI x A.R && inI y A.C) = false → r9 = 0 ∧ Zm X' 37 0 = 1 ∧ MInv X' A) ∧ (∀ r c, r < A.R → c < A.C → x = nI r → y = nI c → r9 = i32 (xO A.ra A.ca A.z r c) ∧ Zm X' 37 0 = 0 ∧ MInv X' A) ∧ Fr Mp X X')) kF := by
  refine con_of (lv := fun G => [(0, .ref (G.2.1 37)), (1, .int x), (2, .int y)]) hfl (by decide +kernel) (fun _ => rfl) (fun _ => Nat.le_of_ble_eq_true rfl) ?_
  intro G J JX CE
  have C := CE.b
  have hR10 := hM.ok.R
  have hC10 := hM.ok.C
  have hLb := Ls_bd (ra := A.ra) (ca := A.ca) hM.ok.t.2.2.1 10 A.ca (by omega)
  refine r_aload_n C dX6_loss_0 rfl rfl ?_
  refine r_iconst (v := 0) C dX6_loss_1 (by decide) ?_
  refine pf_RX6_77 C dX6_loss_2 ?_
  refine r_aload_n C dX6_loss_5 rfl rfl ?_
  refine r_iload_n C dX6_loss_6 rfl rfl ?_
  refine r_iload_n C dX6_loss_7 rfl rfl ?_
  refine cl_RX6_105 C (con_X6_isPair l hfl (Ym X 37 0 0) (R := A.R) (C0 := A.C) hM.b.1 hM.ok.R hM.b.2.1 hM.ok.C) dX6_loss_8 rfl ⟨Nat.le_of_ble_eq_true rfl, Nat.le_of_ble_eq_true rfl⟩ (by omega) (Nat.le_of_ble_eq_true rfl) (fun r_8 X_8 h_8 => ?_)
  obtain ⟨rfl, rfl⟩ := h_8
  refine r_if_ne (tgt := 20) C dX6_loss_11 (by decide) (fun c_11 => ?_) (fun c_11 => ?_)
  · -- 20
    have ep := bI_1 c_11
    rw [Bool.and_eq_true] at ep
    obtain ⟨i, hi, rfl⟩ := inI_t ep.1
    obtain ⟨j, hj, rfl⟩ := inI_t ep.2
    have e10 : (inI (nI i) A.R && inI (nI j) A.C) = true := by rw [ep.1, ep.2]; rfl
    refine r_aload_n C dX6_loss_20 rfl rfl ?_
    refine cl_RX6_146 C (con_X6_solve l hfl (Ym X 37 0 0) hM) dX6_loss_21 rfl ⟨Nat.le_of_ble_eq_true rfl, Nat.le_of_ble_eq_true rfl⟩ (by omega) (Nat.le_of_ble_eq_true rfl) (fun X_21 h_21 => ?_)
    obtain ⟨hk, hT, hM2, hF⟩ := h_21
    obtain ⟨t1, t2, t3⟩ := tpS hT hM.ok
    have z0 : Zm X_21 37 0 = 0 := (hF 37 (by omega)).1 0
    have hF0 : Fr Mp X X_21 := (Fr.t1 0).tr (hF.mono (fun k q => by have q : 48 ≤ k ∧ k ≤ 51 := q; show 37 ≤ k; omega))
    refine r_aload_n C dX6_loss_24 rfl rfl ?_
    refine gf_RX6_44 C dX6_loss_25 ?_
    refine r_iconst (v := 0) C dX6_loss_28 (by decide) ?_
    refine r_iald C (0) (by decide) rfl rfl (by decide) dX6_loss_29 ?_
    refine r_topi t2 ?_
    refine r_istore_n C dX6_loss_30 rfl (by decide) ?_
    refine r_aload_n C dX6_loss_31 rfl rfl ?_
    refine r_iload_n C dX6_loss_32 rfl rfl ?_
    refine r_iconst (v := 1) C dX6_loss_33 (by decide) ?_
    refine r_iload_n C dX6_loss_34 rfl rfl ?_
    refine r_ishl C dX6_loss_35 ?_
    refine r_topi (one_shl j (by omega)) ?_
    refine r_iconst (v := (-1)) C dX6_loss_36 (by decide) ?_
    refine r_ixor C dX6_loss_37 ?_
    refine cl_RX6_159 C (con_X6_solveWith l hfl _ (r0 := i) (m9 := cb (chU A.ra A.ca A.z i) j) hM2 hi (zandn _ _) (cb_m (by omega))) dX6_loss_38 rfl ⟨Nat.le_of_ble_eq_true rfl, Nat.le_of_ble_eq_true rfl⟩ (by omega) (Nat.le_of_ble_eq_true rfl) (fun X_38 h_38 => ?_)
    obtain ⟨w1, w2, w3, w4, w5⟩ := h_38
    refine r_aload_n C dX6_loss_41 rfl rfl ?_
    refine gf_RX6_152 C dX6_loss_42 ?_
    refine r_topi w1 ?_
    refine r_if_eq (tgt := 57) C dX6_loss_45 (by decide) (fun c_45 => ?_) (fun c_45 => ?_)
    · -- 57
      have ef : ¬ oS (gM A i (cb (chU A.ra A.ca A.z i) j)) = i32 (szf (Ls A.ra A.ca A.z 10 A.ca)) := of_decide_eq_false (bI_0 c_45)
      have ea : (-1 : Int32) = i32 (xO A.ra A.ca A.z i j) := by
        rw [((ask_O hM hi (c := j) (by omega)).resolve_left (fun q => ef q.1)).2]; rfl
      refine r_iconst (v := (-1)) C dX6_loss_57 (by decide) ?_
      exact r_iret CE rfl rfl dX6_loss_58 (Nat.le_of_ble_eq_true rfl) ⟨_, rfl, fun q => (by rw [e10] at q; cases q), fun r c hr hc e8 e9 => (by rw [← (nI_eq (by omega) (by omega)).mp e8, ← (nI_eq (by omega) (by omega)).mp e9]; exact ⟨ea, w3.trans z0, w4⟩), hF0.tr w5⟩
    · -- 48
      have ef : oS (gM A i (cb (chU A.ra A.ca A.z i) j)) = i32 (szf (Ls A.ra A.ca A.z 10 A.ca)) := of_decide_eq_true (bI_1 c_45)
      have h9 := (ask_O hM hi (c := j) (by omega)).resolve_right (fun q => q.1 ef)
      refine r_aload_n C dX6_loss_48 rfl rfl ?_
      refine gf_RX6_156 C dX6_loss_49 ?_
      refine r_topi (w2.trans h9.2.1) ?_
      refine r_iload_n C dX6_loss_52 rfl rfl ?_
      refine r_isub C dX6_loss_53 ?_
      refine r_topi (i32_sub _ _) ?_
      have ea : i32 (csf (Ls A.ra A.ca A.z 10 A.ca) + xO A.ra A.ca A.z i j - csf (Ls A.ra A.ca A.z 10 A.ca)) = i32 (xO A.ra A.ca A.z i j) := by rw [show csf (Ls A.ra A.ca A.z 10 A.ca) + xO A.ra A.ca A.z i j - csf (Ls A.ra A.ca A.z 10 A.ca) = xO A.ra A.ca A.z i j by omega]
      refine r_goto (tgt := 58) C dX6_loss_54 (by decide) ?_
      exact r_iret CE rfl rfl dX6_loss_58 (Nat.le_of_ble_eq_true rfl) ⟨_, rfl, fun q => (by rw [e10] at q; cases q), fun r c hr hc e8 e9 => (by rw [← (nI_eq (by omega) (by omega)).mp e8, ← (nI_eq (by omega) (by omega)).mp e9]; exact ⟨ea, w3.trans z0, w4⟩), hF0.tr w5⟩
  · -- 14
    have e := bI_0 c_11
    refine r_aload_n C dX6_loss_14 rfl rfl ?_
    refine r_iconst (v := 1) C dX6_loss_15 (by decide) ?_
    refine cl_RX6_98 C (con_X6_fail l hfl _) dX6_loss_16 rfl ⟨Nat.le_of_ble_eq_true rfl, Nat.le_of_ble_eq_true rfl⟩ (by omega) (Nat.le_of_ble_eq_true rfl) (fun r_16 X_16 h_16 => ?_)
    obtain ⟨rfl, rfl⟩ := h_16
    exact r_iret CE rfl rfl dX6_loss_19 (Nat.le_of_ble_eq_true rfl) ⟨_, rfl, fun _ => ⟨rfl, rfl, hM⟩, fun r c hr hc e8 e9 => (by rw [e8, e9, inI_n (by omega), inI_n (by omega), decide_eq_true hr, decide_eq_true hc] at e; cases e), Fr.t2 _ _⟩
set_option maxHeartbeats 4000000 in
set_option maxRecDepth 100000 in
/-- X6_regret  -/
theorem con_X6_regret (l : Launch) (hfl : l.stackTraces = false) {A : DA} {x y : Int32} (X : St) (hM : MInv X A) : Con l yX6_regret cX6_regret 4 (some (FieldType.int)) 7 230 0 (fun G => [.ref (G.2.1 37), .int x, .int y]) X (kI (fun r9 X' => ((inI x A.R && inI y A.C) = false → r9 = 0 ∧ Zm X' 37 0 = 1 ∧ MInv X' A) ∧ (∀ r c, r < A.R → c < A.C → x = nI r → y = nI c → ((us A.ra A.ca A.z r).testBit c = false → r9 = 0 ∧ Zm X' 37 0 = 2 ∧ MInv X' A) ∧ ((us A.ra A.ca A.z r).testBit c = true → r9 = i32 (xW A.ra A.ca A.z r c) ∧ Zm X' 37 0 = 0 ∧ MInv X' A)) ∧ Fr Mp X X')) kF := by
  refine con_of (lv := fun G => [(0, .ref (G.2.1 37)), (1, .int x), (2, .int y)]) hfl (by decide +kernel) (fun _ => rfl) (fun _ => Nat.le_of_ble_eq_true rfl) ?_
  intro G J JX CE
  have C := CE.b
  have hR10 := hM.ok.R
  have hC10 := hM.ok.C
  have hLb := Ls_bd (ra := A.ra) (ca := A.ca) hM.ok.t.2.2.1 10 A.ca (by omega)
  refine r_aload_n C dX6_regret_0 rfl rfl ?_
  refine r_iconst (v := 0) C dX6_regret_1 (by decide) ?_
  refine pf_RX6_77 C dX6_regret_2 ?_
  refine r_aload_n C dX6_regret_5 rfl rfl ?_
  refine r_iload_n C dX6_regret_6 rfl rfl ?_
  refine r_iload_n C dX6_regret_7 rfl rfl ?_
  refine cl_RX6_105 C (con_X6_isPair l hfl (Ym X 37 0 0) (R := A.R) (C0 := A.C) hM.b.1 hM.ok.R hM.b.2.1 hM.ok.C) dX6_regret_8 rfl ⟨Nat.le_of_ble_eq_true rfl, Nat.le_of_ble_eq_true rfl⟩ (by omega) (Nat.le_of_ble_eq_true rfl) (fun r_8 X_8 h_8 => ?_)
  obtain ⟨rfl, rfl⟩ := h_8
  refine r_if_ne (tgt := 20) C dX6_regret_11 (by decide) (fun c_11 => ?_) (fun c_11 => ?_)
  · -- 20
    have ep := bI_1 c_11
    rw [Bool.and_eq_true] at ep
    obtain ⟨i, hi, rfl⟩ := inI_t ep.1
    obtain ⟨j, hj, rfl⟩ := inI_t ep.2
    have e10 : (inI (nI i) A.R && inI (nI j) A.C) = true := by rw [ep.1, ep.2]; rfl
    refine r_aload_n C dX6_regret_20 rfl rfl ?_
    refine r_iload_n C dX6_regret_21 rfl rfl ?_
    refine r_iload_n C dX6_regret_22 rfl rfl ?_
    refine cl_RX6_123 C (con_X6_isUsable l hfl (Ym X 37 0 0) (A := A) (r := i) (c := j) hM (by omega) (by omega)) dX6_regret_23 rfl ⟨Nat.le_of_ble_eq_true rfl, Nat.le_of_ble_eq_true rfl⟩ (by omega) (Nat.le_of_ble_eq_true rfl) (fun r_23 X_23 h_23 => ?_)
    obtain ⟨rfl, rfl⟩ := h_23
    refine r_if_ne (tgt := 35) C dX6_regret_26 (by decide) (fun c_26 => ?_) (fun c_26 => ?_)
    · -- 35
      have hb : (us A.ra A.ca A.z i).testBit j = true := by rw [us_uP, mk_bit, decide_eq_true (show j < 10 by omega)]; exact bI_1 c_26
      refine r_aload_n C dX6_regret_35 rfl rfl ?_
      refine cl_RX6_146 C (con_X6_solve l hfl (Ym X 37 0 0) hM) dX6_regret_36 rfl ⟨Nat.le_of_ble_eq_true rfl, Nat.le_of_ble_eq_true rfl⟩ (by omega) (Nat.le_of_ble_eq_true rfl) (fun X_36 h_36 => ?_)
      obtain ⟨hk, hT, hM2, hF⟩ := h_36
      obtain ⟨t1, t2, t3⟩ := tpS hT hM.ok
      have z0 : Zm X_36 37 0 = 0 := (hF 37 (by omega)).1 0
      have hF0 : Fr Mp X X_36 := (Fr.t1 0).tr (hF.mono (fun k q => by have q : 48 ≤ k ∧ k ≤ 51 := q; show 37 ≤ k; omega))
      refine r_aload_n C dX6_regret_39 rfl rfl ?_
      refine gf_RX6_44 C dX6_regret_40 ?_
      refine r_iconst (v := 0) C dX6_regret_43 (by decide) ?_
      refine r_iald C (0) (by decide) rfl rfl (by decide) dX6_regret_44 ?_
      refine r_topi t2 ?_
      refine r_istore_n C dX6_regret_45 rfl (by decide) ?_
      refine r_aload_n C dX6_regret_46 rfl rfl ?_
      refine r_iload_n C dX6_regret_47 rfl rfl ?_
      refine r_iconst (v := 1) C dX6_regret_48 (by decide) ?_
      refine r_iload_n C dX6_regret_49 rfl rfl ?_
      refine r_ishl C dX6_regret_50 ?_
      refine r_topi (one_shl j (by omega)) ?_
      refine cl_RX6_159 C (con_X6_solveWith l hfl _ (r0 := i) (m9 := chU A.ra A.ca A.z i &&& 2 ^ j) hM2 hi (zand _ _) an_m) dX6_regret_51 rfl ⟨Nat.le_of_ble_eq_true rfl, Nat.le_of_ble_eq_true rfl⟩ (by omega) (Nat.le_of_ble_eq_true rfl) (fun X_51 h_51 => ?_)
      obtain ⟨w1, w2, w3, w4, w5⟩ := h_51
      refine r_aload_n C dX6_regret_54 rfl rfl ?_
      refine gf_RX6_152 C dX6_regret_55 ?_
      refine r_topi w1 ?_
      refine r_if_eq (tgt := 70) C dX6_regret_58 (by decide) (fun c_58 => ?_) (fun c_58 => ?_)
      · -- 70
        have ef : ¬ oS (gM A i (chU A.ra A.ca A.z i &&& 2 ^ j)) = i32 (szf (Ls A.ra A.ca A.z 10 A.ca)) := of_decide_eq_false (bI_0 c_58)
        have ea : (-1 : Int32) = i32 (xW A.ra A.ca A.z i j) := by
          rw [((ask_W hM hi (by omega) hb).resolve_left (fun q => ef q.1)).2]; rfl
        refine r_iconst (v := (-1)) C dX6_regret_70 (by decide) ?_
        exact r_iret CE rfl rfl dX6_regret_71 (Nat.le_of_ble_eq_true rfl) ⟨_, rfl, fun q => (by rw [e10] at q; cases q), fun r c hr hc e8 e9 => (by rw [← (nI_eq (by omega) (by omega)).mp e8, ← (nI_eq (by omega) (by omega)).mp e9]; exact ⟨fun q => (by rw [hb] at q; cases q), fun _ => ⟨ea, w3.trans z0, w4⟩⟩), hF0.tr w5⟩
      · -- 61
        have ef : oS (gM A i (chU A.ra A.ca A.z i &&& 2 ^ j)) = i32 (szf (Ls A.ra A.ca A.z 10 A.ca)) := of_decide_eq_true (bI_1 c_58)
        have h9 := (ask_W hM hi (by omega) hb).resolve_right (fun q => q.1 ef)
        refine r_aload_n C dX6_regret_61 rfl rfl ?_
        refine gf_RX6_156 C dX6_regret_62 ?_
        refine r_topi (w2.trans h9.2.1) ?_
        refine r_iload_n C dX6_regret_65 rfl rfl ?_
        refine r_isub C dX6_regret_66 ?_
        refine r_topi (i32_sub _ _) ?_
        have ea : i32 (csf (Ls A.ra A.ca A.z 10 A.ca) + xW A.ra A.ca A.z i j - csf (Ls A.ra A.ca A.z 10 A.ca)) = i32 (xW A.ra A.ca A.z i j) := by rw [show csf (Ls A.ra A.ca A.z 10 A.ca) + xW A.ra A.ca A.z i j - csf (Ls A.ra A.ca A.z 10 A.ca) = xW A.ra A.ca A.z i j by omega]
        refine r_goto (tgt := 71) C dX6_regret_67 (by decide) ?_
        exact r_iret CE rfl rfl dX6_regret_71 (Nat.le_of_ble_eq_true rfl) ⟨_, rfl, fun q => (by rw [e10] at q; cases q), fun r c hr hc e8 e9 => (by rw [← (nI_eq (by omega) (by omega)).mp e8, ← (nI_eq (by omega) (by omega)).mp e9]; exact ⟨fun q => (by rw [hb] at q; cases q), fun _ => ⟨ea, w3.trans z0, w4⟩⟩), hF0.tr w5⟩
    · -- 29
      have hb : (us A.ra A.ca A.z i).testBit j = false := by rw [us_uP, mk_bit, decide_eq_true (show j < 10 by omega)]; exact bI_0 c_26
      refine r_aload_n C dX6_regret_29 rfl rfl ?_
      refine r_iconst (v := 2) C dX6_regret_30 (by decide) ?_
      refine cl_RX6_98 C (con_X6_fail l hfl _) dX6_regret_31 rfl ⟨Nat.le_of_ble_eq_true rfl, Nat.le_of_ble_eq_true rfl⟩ (by omega) (Nat.le_of_ble_eq_true rfl) (fun r_31 X_31 h_31 => ?_)
      obtain ⟨rfl, rfl⟩ := h_31
      exact r_iret CE rfl rfl dX6_regret_34 (Nat.le_of_ble_eq_true rfl) ⟨_, rfl, fun q => (by rw [e10] at q; cases q), fun r c hr hc e8 e9 => (by rw [← (nI_eq (by omega) (by omega)).mp e8, ← (nI_eq (by omega) (by omega)).mp e9]; exact ⟨fun _ => ⟨rfl, rfl, hM⟩, fun q => (by rw [hb] at q; cases q)⟩), Fr.t2 _ _⟩
  · -- 14
    have e := bI_0 c_11
    refine r_aload_n C dX6_regret_14 rfl rfl ?_
    refine r_iconst (v := 1) C dX6_regret_15 (by decide) ?_
    refine cl_RX6_98 C (con_X6_fail l hfl _) dX6_regret_16 rfl ⟨Nat.le_of_ble_eq_true rfl, Nat.le_of_ble_eq_true rfl⟩ (by omega) (Nat.le_of_ble_eq_true rfl) (fun r_16 X_16 h_16 => ?_)
    obtain ⟨rfl, rfl⟩ := h_16
    exact r_iret CE rfl rfl dX6_regret_19 (Nat.le_of_ble_eq_true rfl) ⟨_, rfl, fun _ => ⟨rfl, rfl, hM⟩, fun r c hr hc e8 e9 => (by rw [e8, e9, inI_n (by omega), inI_n (by omega), decide_eq_true hr, decide_eq_true hc] at e; cases e), Fr.t2 _ _⟩
set_option maxHeartbeats 4000000 in
set_option maxRecDepth 100000 in
/-- X6_greatestCost  -/
theorem con_X6_greatestCost (l : Launch) (hfl : l.stackTraces = false) {A : DA} {x y : Int32} (X : St) (hM : MInv X A) : Con l yX6_greatestCost cX6_greatestCost 5 (some (FieldType.int)) 7 230 0 (fun G => [.ref (G.2.1 37), .int x, .int y]) X (kI (fun r9 X' => ((inI x A.R && inI y A.C) = false → r9 = 0 ∧ Zm X' 37 0 = 1 ∧ MInv X' A) ∧ (∀ r c, r < A.R → c < A.C → x = nI r → y = nI c → ((us A.ra A.ca A.z r).testBit c = false → r9 = 0 ∧ Zm X' 37 0 = 2 ∧ MInv X' A) ∧ ((us A.ra A.ca A.z r).testBit c = true → r9 = i32 (gcf (A.z (10 * r + c)) (xW A.ra A.ca A.z r c) (xO A.ra A.ca A.z r c)) ∧ Zm X' 37 0 = 0 ∧ MInv X' A)) ∧ Fr Mp X X')) kF := by
  refine con_of (lv := fun G => [(0, .ref (G.2.1 37)), (1, .int x), (2, .int y)]) hfl (by decide +kernel) (fun _ => rfl) (fun _ => Nat.le_of_ble_eq_true rfl) ?_
  intro G J JX CE
  have C := CE.b
  have hR10 := hM.ok.R
  have hC10 := hM.ok.C
  have hLb := Ls_bd (ra := A.ra) (ca := A.ca) hM.ok.t.2.2.1 10 A.ca (by omega)
  refine r_aload_n C dX6_greatestCost_0 rfl rfl ?_
  refine r_iconst (v := 0) C dX6_greatestCost_1 (by decide) ?_
  refine pf_RX6_77 C dX6_greatestCost_2 ?_
  refine r_aload_n C dX6_greatestCost_5 rfl rfl ?_
  refine r_iload_n C dX6_greatestCost_6 rfl rfl ?_
  refine r_iload_n C dX6_greatestCost_7 rfl rfl ?_
  refine cl_RX6_105 C (con_X6_isPair l hfl (Ym X 37 0 0) (R := A.R) (C0 := A.C) hM.b.1 hM.ok.R hM.b.2.1 hM.ok.C) dX6_greatestCost_8 rfl ⟨Nat.le_of_ble_eq_true rfl, Nat.le_of_ble_eq_true rfl⟩ (by omega) (Nat.le_of_ble_eq_true rfl) (fun r_8 X_8 h_8 => ?_)
  obtain ⟨rfl, rfl⟩ := h_8
  refine r_if_ne (tgt := 20) C dX6_greatestCost_11 (by decide) (fun c_11 => ?_) (fun c_11 => ?_)
  · -- 20
    have ep := bI_1 c_11
    rw [Bool.and_eq_true] at ep
    obtain ⟨i, hi, rfl⟩ := inI_t ep.1
    obtain ⟨j, hj, rfl⟩ := inI_t ep.2
    have e10 : (inI (nI i) A.R && inI (nI j) A.C) = true := by rw [ep.1, ep.2]; rfl
    refine r_aload_n C dX6_greatestCost_20 rfl rfl ?_
    refine r_iload_n C dX6_greatestCost_21 rfl rfl ?_
    refine r_iload_n C dX6_greatestCost_22 rfl rfl ?_
    refine cl_RX6_123 C (con_X6_isUsable l hfl (Ym X 37 0 0) (A := A) (r := i) (c := j) hM (by omega) (by omega)) dX6_greatestCost_23 rfl ⟨Nat.le_of_ble_eq_true rfl, Nat.le_of_ble_eq_true rfl⟩ (by omega) (Nat.le_of_ble_eq_true rfl) (fun r_23 X_23 h_23 => ?_)
    obtain ⟨rfl, rfl⟩ := h_23
    refine r_if_ne (tgt := 35) C dX6_greatestCost_26 (by decide) (fun c_26 => ?_) (fun c_26 => ?_)
    · -- 35
      have hb : (us A.ra A.ca A.z i).testBit j = true := by rw [us_uP, mk_bit, decide_eq_true (show j < 10 by omega)]; exact bI_1 c_26
      have hxb := xW_bd (ra := A.ra) (r := i) (c := j) hM.ok.t.2.2.1 (by omega) (by omega) (hM.ok.t.b hM.ok.C)
      have hxo := xO_bd (ra := A.ra) (r := i) (c := j) hM.ok.t.2.2.1 (by omega) (hM.ok.t.b hM.ok.C)
      have hzb := hM.ok.t.2.2.1 (10 * i + j) (by omega)
      have hal : al A.z (10 * i + j) = true := by
        have h7 := hb
        rw [us_bit (by omega), Bool.and_eq_true, Bool.and_eq_true, decide_eq_true_eq] at h7
        exact al_i.mpr h7.2.2
      have hcs : -20000000 ≤ csf (Ls A.ra A.ca A.z 10 A.ca) ∧ csf (Ls A.ra A.ca A.z 10 A.ca) ≤ 20000000 := by
        obtain ⟨s, c, h1, h2, h3, h4, h5, h6, h7⟩ := kv_s (kv_L hM) (Nat.le_refl _)
        rw [h3]; omega
      refine r_aload_n C dX6_greatestCost_35 rfl rfl ?_
      refine r_iload_n C dX6_greatestCost_36 rfl rfl ?_
      refine r_iconst (v := 1) C dX6_greatestCost_37 (by decide) ?_
      refine r_iload_n C dX6_greatestCost_38 rfl rfl ?_
      refine r_ishl C dX6_greatestCost_39 ?_
      refine r_topi (one_shl j (by omega)) ?_
      refine cl_RX6_159 C (con_X6_solveWith l hfl _ (r0 := i) (m9 := chU A.ra A.ca A.z i &&& 2 ^ j) (A := A) (show MInv (Ym X 37 0 0) A from hM) hi (zand _ _) an_m) dX6_greatestCost_40 rfl ⟨Nat.le_of_ble_eq_true rfl, Nat.le_of_ble_eq_true rfl⟩ (by omega) (Nat.le_of_ble_eq_true rfl) (fun X_40 h_40 => ?_)
      obtain ⟨w1, w2, w3, w4, w5⟩ := h_40
      refine r_aload_n C dX6_greatestCost_43 rfl rfl ?_
      refine gf_RX6_152 C dX6_greatestCost_44 ?_
      refine r_topi w1 ?_
      refine r_if_ne (tgt := 54) C dX6_greatestCost_47 (by decide) (fun c_47 => ?_) (fun c_47 => ?_)
      · -- 54
        have ef : oS (gM A i (chU A.ra A.ca A.z i &&& 2 ^ j)) = i32 (szf (Ls A.ra A.ca A.z 10 A.ca)) := of_decide_eq_true (bI_1 c_47)
        have h9 := (ask_W hM hi (by omega) hb).resolve_right (fun q => q.1 ef)
        have hw1 : ¬ xW A.ra A.ca A.z i j = -1 := by omega
        refine r_aload_n C dX6_greatestCost_54 rfl rfl ?_
        refine gf_RX6_156 C dX6_greatestCost_55 ?_
        refine r_topi (w2.trans h9.2.1) ?_
        refine r_aload_n C dX6_greatestCost_58 rfl rfl ?_
        refine gf_RX6_19 C dX6_greatestCost_59 ?_
        refine r_bipush (v := 10) C dX6_greatestCost_62 (by decide) ?_
        refine r_iload_n C dX6_greatestCost_64 rfl rfl ?_
        refine r_imul C dX6_greatestCost_65 ?_
        refine r_iload_n C dX6_greatestCost_66 rfl rfl ?_
        refine r_iadd C dX6_greatestCost_67 ?_
        refine r_iald C (10 * i + j) (by decide) rfl (zix' i j) (by omega) dX6_greatestCost_68 ?_
        refine r_topi (show _ = i32 (A.z (10 * i + j)) from w4.b.2.2.2.2.2 _ (by omega) hal) ?_
        refine r_isub C dX6_greatestCost_69 ?_
        refine r_topi (i32_sub _ _) ?_
        refine r_istore_n C dX6_greatestCost_70 rfl (by decide) ?_
        refine r_aload_n C dX6_greatestCost_71 rfl rfl ?_
        refine r_iload_n C dX6_greatestCost_72 rfl rfl ?_
        refine r_iconst (v := 1) C dX6_greatestCost_73 (by decide) ?_
        refine r_iload_n C dX6_greatestCost_74 rfl rfl ?_
        refine r_ishl C dX6_greatestCost_75 ?_
        refine r_topi (one_shl j (by omega)) ?_
        refine r_iconst (v := (-1)) C dX6_greatestCost_76 (by decide) ?_
        refine r_ixor C dX6_greatestCost_77 ?_
        refine cl_RX6_159 C (con_X6_solveWith l hfl _ (r0 := i) (m9 := cb (chU A.ra A.ca A.z i) j) w4 hi (zandn _ _) (cb_m (by omega))) dX6_greatestCost_78 rfl ⟨Nat.le_of_ble_eq_true rfl, Nat.le_of_ble_eq_true rfl⟩ (by omega) (Nat.le_of_ble_eq_true rfl) (fun X_78 h_78 => ?_)
        obtain ⟨v1, v2, v3, v4, v5⟩ := h_78
        refine r_aload_n C dX6_greatestCost_81 rfl rfl ?_
        refine gf_RX6_152 C dX6_greatestCost_82 ?_
        refine r_topi v1 ?_
        refine r_if_eq (tgt := 103) C dX6_greatestCost_85 (by decide) (fun c_85 => ?_) (fun c_85 => ?_)
        · -- 103
          have eo : ¬ oS (gM A i (cb (chU A.ra A.ca A.z i) j)) = i32 (szf (Ls A.ra A.ca A.z 10 A.ca)) := of_decide_eq_false (bI_0 c_85)
          have ho1 := ((ask_O hM hi (c := j) (by omega)).resolve_left (fun q => eo q.1)).2
          have hg9 : gcf (A.z (10 * i + j)) (xW A.ra A.ca A.z i j) (xO A.ra A.ca A.z i j) = 10000 := by rw [gcf, if_neg hw1, if_pos ho1]
          have hg8 := hg9
          refine r_sipush (v := 10000) C dX6_greatestCost_103 (by decide) ?_
          refine r_topi k10000 ?_
          refine r_istore C dX6_greatestCost_106 (by decide) ?_
          refine r_iload C dX6_greatestCost_108 rfl ?_
          refine r_sipush (v := (-10000)) C dX6_greatestCost_110 (by decide) ?_
          refine r_topi km10000 ?_
          refine r_icmp_ge (tgt := 122) C dX6_greatestCost_113 (by decide) (fun c_113 => ?_) (fun c_113 => ?_)
          · -- 122
            have c9 := (i32_le (by omega) (by omega)).mp c_113
            first
              | have ea : i32 (min (A.z (10 * i + j) + xO A.ra A.ca A.z i j - xW A.ra A.ca A.z i j) 10000) = i32 (gcf (A.z (10 * i + j)) (xW A.ra A.ca A.z i j) (xO A.ra A.ca A.z i j)) := by rw [hg9, if_neg (by omega)]
              | have ea : i32 10000 = i32 (gcf (A.z (10 * i + j)) (xW A.ra A.ca A.z i j) (xO A.ra A.ca A.z i j)) := by rw [hg8]
            refine r_iload C dX6_greatestCost_122 rfl ?_
            exact r_iret CE rfl rfl dX6_greatestCost_124 (Nat.le_of_ble_eq_true rfl) ⟨_, rfl, fun q => (by rw [e10] at q; cases q), fun r c hr hc e8 e9 => (by rw [← (nI_eq (by omega) (by omega)).mp e8, ← (nI_eq (by omega) (by omega)).mp e9]; exact ⟨fun q => (by rw [hb] at q; cases q), fun _ => ⟨ea, v3.trans w3, v4⟩⟩), (((Fr.t1 0).tr w5).tr v5)⟩
          · -- 116
            have c9 := fun q => c_113 ((i32_le (by omega) (by omega)).mpr q)
            have ea : (-20000 : Int32) = i32 (gcf (A.z (10 * i + j)) (xW A.ra A.ca A.z i j) (xO A.ra A.ca A.z i j)) := by
              first
                | (have c8 : A.z (10 * i + j) + xO A.ra A.ca A.z i j - xW A.ra A.ca A.z i j < -10000 := by
                    rcases Int.le_total (A.z (10 * i + j) + xO A.ra A.ca A.z i j - xW A.ra A.ca A.z i j) 10000 with q8 | q8
                    · rw [Int.min_eq_left q8] at c9; exact Int.not_le.mp c9
                    · rw [Int.min_eq_right q8] at c9; exact absurd (show (-10000 : Int) ≤ 10000 by decide) c9
                   rw [hg9, if_pos c8]; decide)
                | exact absurd (show (-10000 : Int) ≤ 10000 by decide) c9
            refine r_sipush (v := (-20000)) C dX6_greatestCost_116 (by decide) ?_
            refine r_goto (tgt := 124) C dX6_greatestCost_119 (by decide) ?_
            exact r_iret CE rfl rfl dX6_greatestCost_124 (Nat.le_of_ble_eq_true rfl) ⟨_, rfl, fun q => (by rw [e10] at q; cases q), fun r c hr hc e8 e9 => (by rw [← (nI_eq (by omega) (by omega)).mp e8, ← (nI_eq (by omega) (by omega)).mp e9]; exact ⟨fun q => (by rw [hb] at q; cases q), fun _ => ⟨ea, v3.trans w3, v4⟩⟩), (((Fr.t1 0).tr w5).tr v5)⟩
        · -- 88
          have eo : oS (gM A i (cb (chU A.ra A.ca A.z i) j)) = i32 (szf (Ls A.ra A.ca A.z 10 A.ca)) := of_decide_eq_true (bI_1 c_85)
          have h8 := (ask_O hM hi (c := j) (by omega)).resolve_right (fun q => q.1 eo)
          have ho1 : ¬ xO A.ra A.ca A.z i j = -1 := by omega
          have hg9 : gcf (A.z (10 * i + j)) (xW A.ra A.ca A.z i j) (xO A.ra A.ca A.z i j) = if A.z (10 * i + j) + xO A.ra A.ca A.z i j - xW A.ra A.ca A.z i j < -10000 then -20000 else min (A.z (10 * i + j) + xO A.ra A.ca A.z i j - xW A.ra A.ca A.z i j) 10000 := by rw [gcf, if_neg hw1, if_neg ho1]
          refine r_aload_n C dX6_greatestCost_88 rfl rfl ?_
          refine gf_RX6_156 C dX6_greatestCost_89 ?_
          refine r_topi (v2.trans h8.2.1) ?_
          refine r_iload_n C dX6_greatestCost_92 rfl rfl ?_
          refine r_isub C dX6_greatestCost_93 ?_
          refine r_topi (i32_sub _ _) ?_
          have ed : csf (Ls A.ra A.ca A.z 10 A.ca) + xO A.ra A.ca A.z i j - (csf (Ls A.ra A.ca A.z 10 A.ca) + xW A.ra A.ca A.z i j - A.z (10 * i + j)) = A.z (10 * i + j) + xO A.ra A.ca A.z i j - xW A.ra A.ca A.z i j := by omega
          refine r_topi (congrArg i32 ed) ?_
          refine r_sipush (v := 10000) C dX6_greatestCost_94 (by decide) ?_
          refine r_topi k10000 ?_
          refine r_min C lk_RX6_162 (by decide) (Nat.le_of_ble_eq_true rfl) (by omega) dX6_greatestCost_97 ?_
          refine r_topi (i32_min (by omega) (by omega)) ?_
          refine r_goto (tgt := 106) C dX6_greatestCost_100 (by decide) ?_
          refine r_istore C dX6_greatestCost_106 (by decide) ?_
          refine r_iload C dX6_greatestCost_108 rfl ?_
          refine r_sipush (v := (-10000)) C dX6_greatestCost_110 (by decide) ?_
          refine r_topi km10000 ?_
          refine r_icmp_ge (tgt := 122) C dX6_greatestCost_113 (by decide) (fun c_113 => ?_) (fun c_113 => ?_)
          · -- 122
            have c9 := (i32_le (by omega) (by omega)).mp c_113
            first
              | have ea : i32 (min (A.z (10 * i + j) + xO A.ra A.ca A.z i j - xW A.ra A.ca A.z i j) 10000) = i32 (gcf (A.z (10 * i + j)) (xW A.ra A.ca A.z i j) (xO A.ra A.ca A.z i j)) := by rw [hg9, if_neg (by omega)]
              | have ea : i32 10000 = i32 (gcf (A.z (10 * i + j)) (xW A.ra A.ca A.z i j) (xO A.ra A.ca A.z i j)) := by rw [hg8]
            refine r_iload C dX6_greatestCost_122 rfl ?_
            exact r_iret CE rfl rfl dX6_greatestCost_124 (Nat.le_of_ble_eq_true rfl) ⟨_, rfl, fun q => (by rw [e10] at q; cases q), fun r c hr hc e8 e9 => (by rw [← (nI_eq (by omega) (by omega)).mp e8, ← (nI_eq (by omega) (by omega)).mp e9]; exact ⟨fun q => (by rw [hb] at q; cases q), fun _ => ⟨ea, v3.trans w3, v4⟩⟩), (((Fr.t1 0).tr w5).tr v5)⟩
          · -- 116
            have c9 := fun q => c_113 ((i32_le (by omega) (by omega)).mpr q)
            have ea : (-20000 : Int32) = i32 (gcf (A.z (10 * i + j)) (xW A.ra A.ca A.z i j) (xO A.ra A.ca A.z i j)) := by
              first
                | (have c8 : A.z (10 * i + j) + xO A.ra A.ca A.z i j - xW A.ra A.ca A.z i j < -10000 := by
                    rcases Int.le_total (A.z (10 * i + j) + xO A.ra A.ca A.z i j - xW A.ra A.ca A.z i j) 10000 with q8 | q8
                    · rw [Int.min_eq_left q8] at c9; exact Int.not_le.mp c9
                    · rw [Int.min_eq_right q8] at c9; exact absurd (show (-10000 : Int) ≤ 10000 by decide) c9
                   rw [hg9, if_pos c8]; decide)
                | exact absurd (show (-10000 : Int) ≤ 10000 by decide) c9
            refine r_sipush (v := (-20000)) C dX6_greatestCost_116 (by decide) ?_
            refine r_goto (tgt := 124) C dX6_greatestCost_119 (by decide) ?_
            exact r_iret CE rfl rfl dX6_greatestCost_124 (Nat.le_of_ble_eq_true rfl) ⟨_, rfl, fun q => (by rw [e10] at q; cases q), fun r c hr hc e8 e9 => (by rw [← (nI_eq (by omega) (by omega)).mp e8, ← (nI_eq (by omega) (by omega)).mp e9]; exact ⟨fun q => (by rw [hb] at q; cases q), fun _ => ⟨ea, v3.trans w3, v4⟩⟩), (((Fr.t1 0).tr w5).tr v5)⟩
      · -- 50
        have ef : ¬ oS (gM A i (chU A.ra A.ca A.z i &&& 2 ^ j)) = i32 (szf (Ls A.ra A.ca A.z 10 A.ca)) := of_decide_eq_false (bI_0 c_47)
        have ea : (-20000 : Int32) = i32 (gcf (A.z (10 * i + j)) (xW A.ra A.ca A.z i j) (xO A.ra A.ca A.z i j)) := by
          rw [gcf, if_pos ((ask_W hM hi (by omega) hb).resolve_left (fun q => ef q.1)).2]; decide
        refine r_sipush (v := (-20000)) C dX6_greatestCost_50 (by decide) ?_
        exact r_iret CE rfl rfl dX6_greatestCost_53 (Nat.le_of_ble_eq_true rfl) ⟨_, rfl, fun q => (by rw [e10] at q; cases q), fun r c hr hc e8 e9 => (by rw [← (nI_eq (by omega) (by omega)).mp e8, ← (nI_eq (by omega) (by omega)).mp e9]; exact ⟨fun q => (by rw [hb] at q; cases q), fun _ => ⟨ea, w3, w4⟩⟩), (Fr.t1 0).tr w5⟩
    · -- 29
      have hb : (us A.ra A.ca A.z i).testBit j = false := by rw [us_uP, mk_bit, decide_eq_true (show j < 10 by omega)]; exact bI_0 c_26
      refine r_aload_n C dX6_greatestCost_29 rfl rfl ?_
      refine r_iconst (v := 2) C dX6_greatestCost_30 (by decide) ?_
      refine cl_RX6_98 C (con_X6_fail l hfl _) dX6_greatestCost_31 rfl ⟨Nat.le_of_ble_eq_true rfl, Nat.le_of_ble_eq_true rfl⟩ (by omega) (Nat.le_of_ble_eq_true rfl) (fun r_31 X_31 h_31 => ?_)
      obtain ⟨rfl, rfl⟩ := h_31
      exact r_iret CE rfl rfl dX6_greatestCost_34 (Nat.le_of_ble_eq_true rfl) ⟨_, rfl, fun q => (by rw [e10] at q; cases q), fun r c hr hc e8 e9 => (by rw [← (nI_eq (by omega) (by omega)).mp e8, ← (nI_eq (by omega) (by omega)).mp e9]; exact ⟨fun _ => ⟨rfl, rfl, hM⟩, fun q => (by rw [hb] at q; cases q)⟩), Fr.t2 _ _⟩
  · -- 14
    have e := bI_0 c_11
    refine r_aload_n C dX6_greatestCost_14 rfl rfl ?_
    refine r_iconst (v := 1) C dX6_greatestCost_15 (by decide) ?_
    refine cl_RX6_98 C (con_X6_fail l hfl _) dX6_greatestCost_16 rfl ⟨Nat.le_of_ble_eq_true rfl, Nat.le_of_ble_eq_true rfl⟩ (by omega) (Nat.le_of_ble_eq_true rfl) (fun r_16 X_16 h_16 => ?_)
    obtain ⟨rfl, rfl⟩ := h_16
    exact r_iret CE rfl rfl dX6_greatestCost_19 (Nat.le_of_ble_eq_true rfl) ⟨_, rfl, fun _ => ⟨rfl, rfl, hM⟩, fun r c hr hc e8 e9 => (by rw [e8, e9, inI_n (by omega), inI_n (by omega), decide_eq_true hr, decide_eq_true hc] at e; cases e), Fr.t2 _ _⟩
