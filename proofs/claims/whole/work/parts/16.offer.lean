set_option maxHeartbeats 4000000 in
set_option maxRecDepth 100000 in
/-- X0_isBefore  -/
theorem con_X0_isBefore_26 (l : Launch) (hfl : l.stackTraces = false) {i p p' : Nat} {s s' : Int} (X : St) (hi : i < 30) (hs : bd 200000000 s) (hs2 : bd 200000000 s') (hp : p < 1125899906842624) (hp2 : p' < 1125899906842624) (h1 : Zv X 27 i = i32 s') (h2 : Zu X 28 i = i64 p') : Con l yX0_isBefore cX0_isBefore 5 (some (FieldType.boolean)) 0 0 0 (fun G => [.ref (G.2.1 26), .int (i32 s), .long (i64 p), .int (nI i)]) X (kI (fun r9 X' => r9 = bI (bef s p s' p') ∧ X = X')) kF := by
  refine con_of (lv := fun G => [(0, .ref (G.2.1 26)), (1, .int (i32 s)), (2, .long (i64 p)), (4, .int (nI i))]) hfl (by decide +kernel) (fun _ => rfl) (fun _ => Nat.le_of_ble_eq_true rfl) ?_
  intro G J JX CE
  have C := CE.b
  refine r_iload_n C dX0_isBefore_0 rfl rfl ?_
  refine r_aload_n C dX0_isBefore_1 rfl rfl ?_
  refine gf_RX0_9 C (b := 26) (Or.inl rfl) dX0_isBefore_2 ?_
  refine r_iload C dX0_isBefore_5 rfl ?_
  refine r_iald C (i) (by decide) rfl rfl hi dX0_isBefore_7 ?_
  refine r_topi h1 ?_
  refine r_icmp_lt (tgt := 34) C dX0_isBefore_8 (by decide) (fun c_8 => ?_) (fun c_8 => ?_)
  · -- 34
    have e1 := (i32_lt (by omega) (by omega)).mp c_8
    refine r_iconst (v := 1) C dX0_isBefore_34 (by decide) ?_
    refine r_goto (tgt := 39) C dX0_isBefore_35 (by decide) ?_
    exact r_iret CE rfl rfl dX0_isBefore_39 (Nat.le_of_ble_eq_true rfl) ⟨_, rfl, by first | (rw [bef_t (Or.inl e1)]; rfl) | (rw [bef_f e1 (Or.inl e2)]; rfl) | (rw [bef_f e1 (Or.inr e3)]; rfl) | (rw [bef_t (Or.inr ⟨e2, e3⟩)]; rfl), rfl⟩
  · -- 11
    have e1 := fun q => c_8 ((i32_lt (by omega) (by omega)).mpr q)
    refine r_iload_n C dX0_isBefore_11 rfl rfl ?_
    refine r_aload_n C dX0_isBefore_12 rfl rfl ?_
    refine gf_RX0_9 C (b := 26) (Or.inl rfl) dX0_isBefore_13 ?_
    refine r_iload C dX0_isBefore_16 rfl ?_
    refine r_iald C (i) (by decide) rfl rfl hi dX0_isBefore_18 ?_
    refine r_topi h1 ?_
    refine r_icmp_ne (tgt := 38) C dX0_isBefore_19 (by decide) (fun c_19 => ?_) (fun c_19 => ?_)
    · -- 38
      have e2 := fun q => c_19 ((i32_eq (by omega) (by omega)).mpr q)
      refine r_iconst (v := 0) C dX0_isBefore_38 (by decide) ?_
      exact r_iret CE rfl rfl dX0_isBefore_39 (Nat.le_of_ble_eq_true rfl) ⟨_, rfl, by first | (rw [bef_t (Or.inl e1)]; rfl) | (rw [bef_f e1 (Or.inl e2)]; rfl) | (rw [bef_f e1 (Or.inr e3)]; rfl) | (rw [bef_t (Or.inr ⟨e2, e3⟩)]; rfl), rfl⟩
    · -- 22
      have e2 := (i32_eq (by omega) (by omega)).mp c_19
      refine r_lload_n C dX0_isBefore_22 rfl rfl ?_
      refine r_aload_n C dX0_isBefore_23 rfl rfl ?_
      refine gf_RX0_15 C (b := 26) (Or.inl rfl) dX0_isBefore_24 ?_
      refine r_iload C dX0_isBefore_27 rfl ?_
      refine r_lald C (i) (by decide) rfl rfl hi dX0_isBefore_29 ?_
      refine r_topl h2 ?_
      refine r_lcmp C dX0_isBefore_30 ?_
      refine r_if_ge (tgt := 38) C dX0_isBefore_31 (by decide) (fun c_31 => ?_) (fun c_31 => ?_)
      · -- 38
        have e3 : ¬ p < p' := fun q => absurd c_31 (Int32.not_le.mpr ((lcmp_0 (by omega) (by omega)).mpr (by omega)))
        refine r_iconst (v := 0) C dX0_isBefore_38 (by decide) ?_
        exact r_iret CE rfl rfl dX0_isBefore_39 (Nat.le_of_ble_eq_true rfl) ⟨_, rfl, by first | (rw [bef_t (Or.inl e1)]; rfl) | (rw [bef_f e1 (Or.inl e2)]; rfl) | (rw [bef_f e1 (Or.inr e3)]; rfl) | (rw [bef_t (Or.inr ⟨e2, e3⟩)]; rfl), rfl⟩
      · -- 34
        have e3 : p < p' := by have := (lcmp_0 (by omega) (by omega)).mp (Int32.not_le.mp c_31); omega
        refine r_iconst (v := 1) C dX0_isBefore_34 (by decide) ?_
        refine r_goto (tgt := 39) C dX0_isBefore_35 (by decide) ?_
        exact r_iret CE rfl rfl dX0_isBefore_39 (Nat.le_of_ble_eq_true rfl) ⟨_, rfl, by first | (rw [bef_t (Or.inl e1)]; rfl) | (rw [bef_f e1 (Or.inl e2)]; rfl) | (rw [bef_f e1 (Or.inr e3)]; rfl) | (rw [bef_t (Or.inr ⟨e2, e3⟩)]; rfl), rfl⟩
set_option maxHeartbeats 4000000 in
set_option maxRecDepth 100000 in
/-- X0_moveBack  -/
theorem con_X0_moveBack_26 (l : Launch) (hfl : l.stackTraces = false) {i : Nat} (X : St) (hi : i < 29) : Con l yX0_moveBack cX0_moveBack 2 none 0 0 0 (fun G => [.ref (G.2.1 26), .int (nI i)]) X (kV (fun X' => setE X 26 (i + 1) (Zv X 27 i) (Zu X 28 i) (Zv X 29 i) (Zv X 30 i) = X')) kF := by
  refine con_of (lv := fun G => [(0, .ref (G.2.1 26)), (1, .int (nI i))]) hfl (by decide +kernel) (fun _ => rfl) (fun _ => Nat.le_of_ble_eq_true rfl) ?_
  intro G J JX CE
  have C := CE.b
  refine r_aload_n C dX0_moveBack_0 rfl rfl ?_
  refine gf_RX0_9 C (b := 26) (Or.inl rfl) dX0_moveBack_1 ?_
  refine r_iload_n C dX0_moveBack_4 rfl rfl ?_
  refine r_iconst (v := 1) C dX0_moveBack_5 (by decide) ?_
  refine r_iadd C dX0_moveBack_6 ?_
  refine r_topi (nI_1 i) ?_
  refine r_aload_n C dX0_moveBack_7 rfl rfl ?_
  refine gf_RX0_9 C (b := 26) (Or.inl rfl) dX0_moveBack_8 ?_
  refine r_iload_n C dX0_moveBack_11 rfl rfl ?_
  refine r_iald C (i) (by decide) rfl rfl (by omega) dX0_moveBack_12 ?_
  refine r_iast C (i + 1) (by decide) rfl rfl (by omega) dX0_moveBack_13 ?_
  refine r_aload_n C dX0_moveBack_14 rfl rfl ?_
  refine gf_RX0_15 C (b := 26) (Or.inl rfl) dX0_moveBack_15 ?_
  refine r_iload_n C dX0_moveBack_18 rfl rfl ?_
  refine r_iconst (v := 1) C dX0_moveBack_19 (by decide) ?_
  refine r_iadd C dX0_moveBack_20 ?_
  refine r_topi (nI_1 i) ?_
  refine r_aload_n C dX0_moveBack_21 rfl rfl ?_
  refine gf_RX0_15 C (b := 26) (Or.inl rfl) dX0_moveBack_22 ?_
  refine r_iload_n C dX0_moveBack_25 rfl rfl ?_
  refine r_lald C (i) (by decide) rfl rfl (by omega) dX0_moveBack_26 ?_
  refine r_last C (i + 1) (by decide) rfl rfl (by omega) dX0_moveBack_27 ?_
  refine r_aload_n C dX0_moveBack_28 rfl rfl ?_
  refine gf_RX0_19 C (b := 26) (Or.inl rfl) dX0_moveBack_29 ?_
  refine r_iload_n C dX0_moveBack_32 rfl rfl ?_
  refine r_iconst (v := 1) C dX0_moveBack_33 (by decide) ?_
  refine r_iadd C dX0_moveBack_34 ?_
  refine r_topi (nI_1 i) ?_
  refine r_aload_n C dX0_moveBack_35 rfl rfl ?_
  refine gf_RX0_19 C (b := 26) (Or.inl rfl) dX0_moveBack_36 ?_
  refine r_iload_n C dX0_moveBack_39 rfl rfl ?_
  refine r_iald C (i) (by decide) rfl rfl (by omega) dX0_moveBack_40 ?_
  refine r_iast C (i + 1) (by decide) rfl rfl (by omega) dX0_moveBack_41 ?_
  refine r_aload_n C dX0_moveBack_42 rfl rfl ?_
  refine gf_RX0_22 C (b := 26) (Or.inl rfl) dX0_moveBack_43 ?_
  refine r_iload_n C dX0_moveBack_46 rfl rfl ?_
  refine r_iconst (v := 1) C dX0_moveBack_47 (by decide) ?_
  refine r_iadd C dX0_moveBack_48 ?_
  refine r_topi (nI_1 i) ?_
  refine r_aload_n C dX0_moveBack_49 rfl rfl ?_
  refine gf_RX0_22 C (b := 26) (Or.inl rfl) dX0_moveBack_50 ?_
  refine r_iload_n C dX0_moveBack_53 rfl rfl ?_
  refine r_iald C (i) (by decide) rfl rfl (by omega) dX0_moveBack_54 ?_
  refine r_iast C (i + 1) (by decide) rfl rfl (by omega) dX0_moveBack_55 ?_
  exact r_vret CE rfl dX0_moveBack_56 (Nat.le_of_ble_eq_true rfl) ⟨rfl, rfl⟩
set_option maxHeartbeats 4000000 in
set_option maxRecDepth 100000 in
theorem lp_X0_offer_26 {l : Launch} {G : Geo} {J : JT} {JX : JXT} {X : St} (hfl : l.stackTraces = false) {lim : Nat} {e : BE} {L : List BE} {M : List BE} (hMl : M.length < 30) (hMok : ∀ (i : Nat) (x : BE), M[i]? = some x → eok x) (he : eok e) (hfin : ∀ q, q ≤ M.length → (∀ (i : Nat) (x : BE), M[i]? = some x → q ≤ i → befE e x = true) → (∀ (x : BE), M[q - 1]? = some x → 0 < q → befE e x = false) → M.take q ++ e :: M.drop q = offL lim L e) (CE : Cl l RX0 cX0_offer 8 none [] G 2 60 0 (kV (fun X' => BH X' 26 (offL lim L e) ∧ Fr (fun k => 26 ≤ k ∧ k ≤ 30) X X')) kF J JX) :
    ∀ n (Y : St), n ≤ M.length → BQ Y 26 n M → Zm Y 26 4 = nI M.length → Fr (fun k => 26 ≤ k ∧ k ≤ 30) X Y → (∀ (i : Nat) (x : BE), M[i]? = some x → n ≤ i → befE e x = true) → J Y 0 37 [(7, .int (nI n)), (0, .ref (G.2.1 26)), (1, .int (i32 e.1)), (2, .long (i64 e.2.1)), (4, .int (i32 e.2.2.1)), (5, .int (nI e.2.2.2)), (6, .int (nI lim))] [] := by
  have C := CE.b
  intro n
  induction n with
  | zero =>
    intro Y h hQ hc hF hgt
    have hno : ∀ (x : BE), M[0 - 1]? = some x → 0 < 0 → befE e x = false := fun x _ q => absurd q (Nat.lt_irrefl 0)
    refine r_iload C dX0_offer_37 rfl ?_
    refine r_if_le (tgt := 69) C dX0_offer_39 (by decide) (fun c_39 => ?_) (fun c_39 => absurd ((by decide)) c_39)
    refine r_aload_n C dX0_offer_69 rfl rfl ?_
    refine gf_RX0_9 C (b := 26) (Or.inl rfl) dX0_offer_70 ?_
    refine r_iload C dX0_offer_73 rfl ?_
    refine r_iload_n C dX0_offer_75 rfl rfl ?_
    refine r_iast C (0) (by decide) rfl rfl (by omega) dX0_offer_76 ?_
    refine r_aload_n C dX0_offer_77 rfl rfl ?_
    refine gf_RX0_15 C (b := 26) (Or.inl rfl) dX0_offer_78 ?_
    refine r_iload C dX0_offer_81 rfl ?_
    refine r_lload_n C dX0_offer_83 rfl rfl ?_
    refine r_last C (0) (by decide) rfl rfl (by omega) dX0_offer_84 ?_
    refine r_aload_n C dX0_offer_85 rfl rfl ?_
    refine gf_RX0_19 C (b := 26) (Or.inl rfl) dX0_offer_86 ?_
    refine r_iload C dX0_offer_89 rfl ?_
    refine r_iload C dX0_offer_91 rfl ?_
    refine r_iast C (0) (by decide) rfl rfl (by omega) dX0_offer_93 ?_
    refine r_aload_n C dX0_offer_94 rfl rfl ?_
    refine gf_RX0_22 C (b := 26) (Or.inl rfl) dX0_offer_95 ?_
    refine r_iload C dX0_offer_98 rfl ?_
    refine r_iload C dX0_offer_100 rfl ?_
    refine r_iast C (0) (by decide) rfl rfl (by omega) dX0_offer_102 ?_
    refine r_aload_n C dX0_offer_103 rfl rfl ?_
    refine r_dup C dX0_offer_104 rfl ?_
    refine gf_RX0_25 C (b := 26) (Or.inl rfl) dX0_offer_105 ?_
    refine r_topi (show _ = nI M.length from hc) ?_
    refine r_iconst (v := 1) C dX0_offer_108 (by decide) ?_
    refine r_iadd C dX0_offer_109 ?_
    refine r_topi (nI_1 _) ?_
    refine pf_RX0_25 C (b := 26) (Or.inl rfl) dX0_offer_110 ?_
    have hE := hfin 0 (by omega) hgt hno
    have hN : BH (Ym (setE Y 26 0 (i32 e.1) (i64 e.2.1) (i32 e.2.2.1) (nI e.2.2.2)) 26 4 (nI (M.length + 1))) 26 (offL lim L e) := by
      rw [← hE]
      have hlen : (M.take 0 ++ e :: M.drop 0).length = M.length + 1 := by rw [List.length_append, List.length_cons, List.length_take, List.length_drop]; omega
      refine ⟨by rw [hlen]; rfl, by omega, fun i x hx => ⟨BQ_end hQ (by omega) i x hx, ?_⟩⟩
      rcases List.mem_append.mp (List.mem_of_getElem? hx) with g | g
      · obtain ⟨j, hj⟩ := List.getElem?_of_mem (List.mem_of_mem_take g)
        exact hMok j x hj
      · rcases List.mem_cons.mp g with g | g
        · rw [g]; exact he
        · obtain ⟨j, hj⟩ := List.getElem?_of_mem (List.mem_of_mem_drop g)
          exact hMok j x hj
    exact r_vret CE rfl dX0_offer_113 (Nat.le_of_ble_eq_true rfl) ⟨rfl, hN, (hF.tr setE_fr).tr (Fr.m _ (by decide))⟩
  | succ n ih =>
    intro Y h hQ hc hF hgt
    have hx0 : ∃ x : BE, M[n]? = some x := ⟨M[n]'(by omega), List.getElem?_eq_getElem (by omega)⟩
    obtain ⟨x, hx⟩ := hx0
    have hxh := hQ.1 n x hx (by omega)
    have hxo := hMok n x hx
    refine r_iload C dX0_offer_37 rfl ?_
    refine r_if_le (tgt := 69) C dX0_offer_39 (by decide) (fun c_39 => absurd c_39 ((nI_nle (Nat.succ_pos n) (by omega)))) (fun c_39 => ?_)
    refine r_aload_n C dX0_offer_42 rfl rfl ?_
    refine r_iload_n C dX0_offer_43 rfl rfl ?_
    refine r_lload_n C dX0_offer_44 rfl rfl ?_
    refine r_iload C dX0_offer_45 rfl ?_
    refine r_iconst (v := 1) C dX0_offer_47 (by decide) ?_
    refine r_isub C dX0_offer_48 ?_
    refine r_topi (nI_pred n) ?_
    refine cl_RX0_29 C (b := 26) (Or.inl rfl) (con_X0_isBefore_26 l hfl _ (i := n) (p := e.2.1) (s := e.1) (p' := x.2.1) (s' := x.1) (by omega) he.1 hxo.1 he.2.1 hxo.2.1 hxh.1 hxh.2.1) dX0_offer_49 rfl ⟨Nat.le_of_ble_eq_true rfl, Nat.le_of_ble_eq_true rfl⟩ (by omega) (Nat.le_of_ble_eq_true rfl) (fun r_49 X_49 h_49 => ?_)
    obtain ⟨rfl, rfl⟩ := h_49
    refine r_if_eq (tgt := 69) C dX0_offer_52 (by decide) (fun c_52 => ?_) (fun c_52 => ?_)
    · -- 69
      have hno : ∀ (y : BE), M[n + 1 - 1]? = some y → 0 < n + 1 → befE e y = false := fun y hy _ => by rw [Nat.add_sub_cancel, hx] at hy; cases hy; exact bI_0 c_52
      refine r_aload_n C dX0_offer_69 rfl rfl ?_
      refine gf_RX0_9 C (b := 26) (Or.inl rfl) dX0_offer_70 ?_
      refine r_iload C dX0_offer_73 rfl ?_
      refine r_iload_n C dX0_offer_75 rfl rfl ?_
      refine r_iast C ((n + 1)) (by decide) rfl rfl (by omega) dX0_offer_76 ?_
      refine r_aload_n C dX0_offer_77 rfl rfl ?_
      refine gf_RX0_15 C (b := 26) (Or.inl rfl) dX0_offer_78 ?_
      refine r_iload C dX0_offer_81 rfl ?_
      refine r_lload_n C dX0_offer_83 rfl rfl ?_
      refine r_last C ((n + 1)) (by decide) rfl rfl (by omega) dX0_offer_84 ?_
      refine r_aload_n C dX0_offer_85 rfl rfl ?_
      refine gf_RX0_19 C (b := 26) (Or.inl rfl) dX0_offer_86 ?_
      refine r_iload C dX0_offer_89 rfl ?_
      refine r_iload C dX0_offer_91 rfl ?_
      refine r_iast C ((n + 1)) (by decide) rfl rfl (by omega) dX0_offer_93 ?_
      refine r_aload_n C dX0_offer_94 rfl rfl ?_
      refine gf_RX0_22 C (b := 26) (Or.inl rfl) dX0_offer_95 ?_
      refine r_iload C dX0_offer_98 rfl ?_
      refine r_iload C dX0_offer_100 rfl ?_
      refine r_iast C ((n + 1)) (by decide) rfl rfl (by omega) dX0_offer_102 ?_
      refine r_aload_n C dX0_offer_103 rfl rfl ?_
      refine r_dup C dX0_offer_104 rfl ?_
      refine gf_RX0_25 C (b := 26) (Or.inl rfl) dX0_offer_105 ?_
      refine r_topi (show _ = nI M.length from hc) ?_
      refine r_iconst (v := 1) C dX0_offer_108 (by decide) ?_
      refine r_iadd C dX0_offer_109 ?_
      refine r_topi (nI_1 _) ?_
      refine pf_RX0_25 C (b := 26) (Or.inl rfl) dX0_offer_110 ?_
      have hE := hfin (n + 1) (by omega) hgt hno
      have hN : BH (Ym (setE Y 26 (n + 1) (i32 e.1) (i64 e.2.1) (i32 e.2.2.1) (nI e.2.2.2)) 26 4 (nI (M.length + 1))) 26 (offL lim L e) := by
        rw [← hE]
        have hlen : (M.take (n + 1) ++ e :: M.drop (n + 1)).length = M.length + 1 := by rw [List.length_append, List.length_cons, List.length_take, List.length_drop]; omega
        refine ⟨by rw [hlen]; rfl, by omega, fun i x hx => ⟨BQ_end hQ (by omega) i x hx, ?_⟩⟩
        rcases List.mem_append.mp (List.mem_of_getElem? hx) with g | g
        · obtain ⟨j, hj⟩ := List.getElem?_of_mem (List.mem_of_mem_take g)
          exact hMok j x hj
        · rcases List.mem_cons.mp g with g | g
          · rw [g]; exact he
          · obtain ⟨j, hj⟩ := List.getElem?_of_mem (List.mem_of_mem_drop g)
            exact hMok j x hj
      exact r_vret CE rfl dX0_offer_113 (Nat.le_of_ble_eq_true rfl) ⟨rfl, hN, (hF.tr setE_fr).tr (Fr.m _ (by decide))⟩
    · -- 55
      have hbx : befE e x = true := bI_1 c_52
      refine r_aload_n C dX0_offer_55 rfl rfl ?_
      refine r_iload C dX0_offer_56 rfl ?_
      refine r_iconst (v := 1) C dX0_offer_58 (by decide) ?_
      refine r_isub C dX0_offer_59 ?_
      refine r_topi (nI_pred n) ?_
      refine cl_RX0_33 C (b := 26) (Or.inl rfl) (con_X0_moveBack_26 l hfl _ (i := n) (by omega)) dX0_offer_60 rfl ⟨Nat.le_of_ble_eq_true rfl, Nat.le_of_ble_eq_true rfl⟩ (by omega) (Nat.le_of_ble_eq_true rfl) (fun X_60 h_60 => ?_)
      subst h_60
      refine r_iinc (v := _) C dX0_offer_63 rfl (show _ = nI n from pk_m1 n) ?_
      refine r_goto (tgt := 37) C dX0_offer_66 (by decide) ?_
      refine r_sub C (lv' := [(7, .int (nI n)), (0, .ref (G.2.1 26)), (1, .int (i32 e.1)), (2, .long (i64 e.2.1)), (4, .int (i32 e.2.2.1)), (5, .int (nI e.2.2.2)), (6, .int (nI lim))]) ⟨rfl, rfl, rfl, rfl, rfl, rfl, rfl, trivial⟩ ?_
      exact ih _ (by omega) (BQ_step hQ (by omega)) hc (hF.tr setE_fr) (fun i y hy hi => by rcases Nat.lt_or_ge n i with q | q; exact hgt i y hy q; rw [show i = n by omega, hx] at hy; cases hy; exact hbx)

set_option maxHeartbeats 4000000 in
set_option maxRecDepth 100000 in
/-- X0_offer  -/
theorem con_X0_offer_26 (l : Launch) (hfl : l.stackTraces = false) {lim : Nat} {e : BE} {L : List BE} (X : St) (hB : BH X 26 L) (hs : Srt L) (hl : L.length ≤ lim) (hl0 : 0 < lim) (hl2 : lim ≤ 30) (he : eok e) : Con l yX0_offer cX0_offer 8 none 2 60 0 (fun G => [.ref (G.2.1 26), .int (i32 e.1), .long (i64 e.2.1), .int (i32 e.2.2.1), .int (nI e.2.2.2), .int (nI lim)]) X (kV (fun X' => BH X' 26 (offL lim L e) ∧ Fr (fun k => 26 ≤ k ∧ k ≤ 30) X X')) kF := by
  refine con_of (lv := fun G => [(0, .ref (G.2.1 26)), (1, .int (i32 e.1)), (2, .long (i64 e.2.1)), (4, .int (i32 e.2.2.1)), (5, .int (nI e.2.2.2)), (6, .int (nI lim))]) hfl (by decide +kernel) (fun _ => rfl) (fun _ => Nat.le_of_ble_eq_true rfl) ?_
  intro G J JX CE
  have C := CE.b
  refine r_aload_n C dX0_offer_0 rfl rfl ?_
  refine gf_RX0_25 C (b := 26) (Or.inl rfl) dX0_offer_1 ?_
  refine r_topi hB.1 ?_
  refine r_iload C dX0_offer_4 rfl ?_
  refine r_icmp_lt (tgt := 31) C dX0_offer_6 (by decide) (fun c_6 => ?_) (fun c_6 => ?_)
  · -- 31
    have hlt := (nI_ltI (by omega) (by omega)).mp c_6
    refine r_aload_n C dX0_offer_31 rfl rfl ?_
    refine gf_RX0_25 C (b := 26) (Or.inl rfl) dX0_offer_32 ?_
    refine r_topi hB.1 ?_
    refine r_istore C dX0_offer_35 (by decide) ?_
    refine r_sub C (lv' := [(7, .int (nI L.length)), (0, .ref (G.2.1 26)), (1, .int (i32 e.1)), (2, .long (i64 e.2.1)), (4, .int (i32 e.2.2.1)), (5, .int (nI e.2.2.2)), (6, .int (nI lim))]) ⟨rfl, rfl, rfl, rfl, rfl, rfl, rfl, trivial⟩ ?_
    exact lp_X0_offer_26 hfl (M := L) (by omega) (fun i x hx => (hB.2.2 i x hx).2) he (fun q hq h2 h1 => off_ins hs hlt hq h2 h1) CE L.length X (Nat.le_refl _) ⟨fun i x hx _ => (hB.2.2 i x hx).1, fun i x hx hi => absurd (List.getElem?_eq_some_iff.mp hx).1 (Nat.not_lt.mpr hi)⟩ hB.1 Fr.rf (fun i x hx hi => absurd (List.getElem?_eq_some_iff.mp hx).1 (Nat.not_lt.mpr hi))
  · -- 9
    have hll : L.length = lim := by
      have h9 : ¬ L.length < lim := fun q => c_6 ((nI_ltI (by omega) (by omega)).mpr q)
      omega
    obtain ⟨x, hx⟩ : ∃ x, L[lim - 1]? = some x := ⟨L[lim - 1]'(by omega), List.getElem?_eq_getElem (by omega)⟩
    have hxh := hB.2.2 (lim - 1) x hx
    refine r_aload_n C dX0_offer_9 rfl rfl ?_
    refine r_iload_n C dX0_offer_10 rfl rfl ?_
    refine r_lload_n C dX0_offer_11 rfl rfl ?_
    refine r_iload C dX0_offer_12 rfl ?_
    refine r_iconst (v := 1) C dX0_offer_14 (by decide) ?_
    refine r_isub C dX0_offer_15 ?_
    refine r_topi (show nI lim - 1 = nI (lim - 1) from pk_sub (b := 1) hl0) ?_
    refine cl_RX0_29 C (b := 26) (Or.inl rfl) (con_X0_isBefore_26 l hfl _ (i := lim - 1) (p := e.2.1) (s := e.1) (p' := x.2.1) (s' := x.1) (by omega) he.1 hxh.2.1 he.2.1 hxh.2.2.1 hxh.1.1 hxh.1.2.1) dX0_offer_16 rfl ⟨Nat.le_of_ble_eq_true rfl, Nat.le_of_ble_eq_true rfl⟩ (by omega) (Nat.le_of_ble_eq_true rfl) (fun r_16 X_16 h_16 => ?_)
    obtain ⟨rfl, rfl⟩ := h_16
    refine r_if_ne (tgt := 23) C dX0_offer_19 (by decide) (fun c_19 => ?_) (fun c_19 => ?_)
    · -- 23
      refine r_aload_n C dX0_offer_23 rfl rfl ?_
      refine r_iload C dX0_offer_24 rfl ?_
      refine r_iconst (v := 1) C dX0_offer_26 (by decide) ?_
      refine r_isub C dX0_offer_27 ?_
      refine r_topi (show nI lim - 1 = nI (lim - 1) from pk_sub (b := 1) hl0) ?_
      have hlt := bI_1 c_19
      refine pf_RX0_25 C (b := 26) (Or.inl rfl) dX0_offer_28 ?_
      refine r_aload_n C dX0_offer_31 rfl rfl ?_
      refine gf_RX0_25 C (b := 26) (Or.inl rfl) dX0_offer_32 ?_
      refine r_topi (show _ = nI (lim - 1) from rfl) ?_
      refine r_istore C dX0_offer_35 (by decide) ?_
      have hM : (L.take (lim - 1)).length = lim - 1 := by rw [List.length_take]; omega
      refine r_sub C (lv' := [(7, .int (nI (lim - 1))), (0, .ref (G.2.1 26)), (1, .int (i32 e.1)), (2, .long (i64 e.2.1)), (4, .int (i32 e.2.2.1)), (5, .int (nI e.2.2.2)), (6, .int (nI lim))]) ⟨rfl, rfl, rfl, rfl, rfl, rfl, rfl, trivial⟩ ?_
      have hq := lp_X0_offer_26 hfl (X := X) (M := L.take (lim - 1)) (lim := lim) (L := L) (by omega) (fun i x hx => (hB.2.2 i x (take_get hx).1).2) he (fun q hq h2 h1 => off_put hs hll hx hlt hl0 (by omega) h2 h1) CE (lim - 1) (Ym X 26 4 (nI (lim - 1))) (by omega) ⟨fun i x hx _ => (hB.2.2 i x (take_get hx).1).1, fun i x hx hi => absurd (take_get hx).2 (Nat.not_lt.mpr hi)⟩ (by rw [hM]; rfl) (Fr.m _ ⟨by decide, by decide⟩) (fun i x hx hi => absurd (take_get hx).2 (Nat.not_lt.mpr hi))
      exact hq
    · -- 22
      exact r_vret CE rfl dX0_offer_22 (Nat.le_of_ble_eq_true rfl) ⟨rfl, by rw [off_no hs hll hx (bI_0 c_19) hl0]; exact hB, Fr.rf⟩
set_option maxHeartbeats 4000000 in
set_option maxRecDepth 100000 in
/-- X0_isBefore  -/
theorem con_X0_isBefore_31 (l : Launch) (hfl : l.stackTraces = false) {i p p' : Nat} {s s' : Int} (X : St) (hi : i < 30) (hs : bd 200000000 s) (hs2 : bd 200000000 s') (hp : p < 1125899906842624) (hp2 : p' < 1125899906842624) (h1 : Zv X 32 i = i32 s') (h2 : Zu X 33 i = i64 p') : Con l yX0_isBefore cX0_isBefore 5 (some (FieldType.boolean)) 0 0 0 (fun G => [.ref (G.2.1 31), .int (i32 s), .long (i64 p), .int (nI i)]) X (kI (fun r9 X' => r9 = bI (bef s p s' p') ∧ X = X')) kF := by
  refine con_of (lv := fun G => [(0, .ref (G.2.1 31)), (1, .int (i32 s)), (2, .long (i64 p)), (4, .int (nI i))]) hfl (by decide +kernel) (fun _ => rfl) (fun _ => Nat.le_of_ble_eq_true rfl) ?_
  intro G J JX CE
  have C := CE.b
  refine r_iload_n C dX0_isBefore_0 rfl rfl ?_
  refine r_aload_n C dX0_isBefore_1 rfl rfl ?_
  refine gf_RX0_9 C (b := 31) (Or.inr rfl) dX0_isBefore_2 ?_
  refine r_iload C dX0_isBefore_5 rfl ?_
  refine r_iald C (i) (by decide) rfl rfl hi dX0_isBefore_7 ?_
  refine r_topi h1 ?_
  refine r_icmp_lt (tgt := 34) C dX0_isBefore_8 (by decide) (fun c_8 => ?_) (fun c_8 => ?_)
  · -- 34
    have e1 := (i32_lt (by omega) (by omega)).mp c_8
    refine r_iconst (v := 1) C dX0_isBefore_34 (by decide) ?_
    refine r_goto (tgt := 39) C dX0_isBefore_35 (by decide) ?_
    exact r_iret CE rfl rfl dX0_isBefore_39 (Nat.le_of_ble_eq_true rfl) ⟨_, rfl, by first | (rw [bef_t (Or.inl e1)]; rfl) | (rw [bef_f e1 (Or.inl e2)]; rfl) | (rw [bef_f e1 (Or.inr e3)]; rfl) | (rw [bef_t (Or.inr ⟨e2, e3⟩)]; rfl), rfl⟩
  · -- 11
    have e1 := fun q => c_8 ((i32_lt (by omega) (by omega)).mpr q)
    refine r_iload_n C dX0_isBefore_11 rfl rfl ?_
    refine r_aload_n C dX0_isBefore_12 rfl rfl ?_
    refine gf_RX0_9 C (b := 31) (Or.inr rfl) dX0_isBefore_13 ?_
    refine r_iload C dX0_isBefore_16 rfl ?_
    refine r_iald C (i) (by decide) rfl rfl hi dX0_isBefore_18 ?_
    refine r_topi h1 ?_
    refine r_icmp_ne (tgt := 38) C dX0_isBefore_19 (by decide) (fun c_19 => ?_) (fun c_19 => ?_)
    · -- 38
      have e2 := fun q => c_19 ((i32_eq (by omega) (by omega)).mpr q)
      refine r_iconst (v := 0) C dX0_isBefore_38 (by decide) ?_
      exact r_iret CE rfl rfl dX0_isBefore_39 (Nat.le_of_ble_eq_true rfl) ⟨_, rfl, by first | (rw [bef_t (Or.inl e1)]; rfl) | (rw [bef_f e1 (Or.inl e2)]; rfl) | (rw [bef_f e1 (Or.inr e3)]; rfl) | (rw [bef_t (Or.inr ⟨e2, e3⟩)]; rfl), rfl⟩
    · -- 22
      have e2 := (i32_eq (by omega) (by omega)).mp c_19
      refine r_lload_n C dX0_isBefore_22 rfl rfl ?_
      refine r_aload_n C dX0_isBefore_23 rfl rfl ?_
      refine gf_RX0_15 C (b := 31) (Or.inr rfl) dX0_isBefore_24 ?_
      refine r_iload C dX0_isBefore_27 rfl ?_
      refine r_lald C (i) (by decide) rfl rfl hi dX0_isBefore_29 ?_
      refine r_topl h2 ?_
      refine r_lcmp C dX0_isBefore_30 ?_
      refine r_if_ge (tgt := 38) C dX0_isBefore_31 (by decide) (fun c_31 => ?_) (fun c_31 => ?_)
      · -- 38
        have e3 : ¬ p < p' := fun q => absurd c_31 (Int32.not_le.mpr ((lcmp_0 (by omega) (by omega)).mpr (by omega)))
        refine r_iconst (v := 0) C dX0_isBefore_38 (by decide) ?_
        exact r_iret CE rfl rfl dX0_isBefore_39 (Nat.le_of_ble_eq_true rfl) ⟨_, rfl, by first | (rw [bef_t (Or.inl e1)]; rfl) | (rw [bef_f e1 (Or.inl e2)]; rfl) | (rw [bef_f e1 (Or.inr e3)]; rfl) | (rw [bef_t (Or.inr ⟨e2, e3⟩)]; rfl), rfl⟩
      · -- 34
        have e3 : p < p' := by have := (lcmp_0 (by omega) (by omega)).mp (Int32.not_le.mp c_31); omega
        refine r_iconst (v := 1) C dX0_isBefore_34 (by decide) ?_
        refine r_goto (tgt := 39) C dX0_isBefore_35 (by decide) ?_
        exact r_iret CE rfl rfl dX0_isBefore_39 (Nat.le_of_ble_eq_true rfl) ⟨_, rfl, by first | (rw [bef_t (Or.inl e1)]; rfl) | (rw [bef_f e1 (Or.inl e2)]; rfl) | (rw [bef_f e1 (Or.inr e3)]; rfl) | (rw [bef_t (Or.inr ⟨e2, e3⟩)]; rfl), rfl⟩
set_option maxHeartbeats 4000000 in
set_option maxRecDepth 100000 in
/-- X0_moveBack  -/
theorem con_X0_moveBack_31 (l : Launch) (hfl : l.stackTraces = false) {i : Nat} (X : St) (hi : i < 29) : Con l yX0_moveBack cX0_moveBack 2 none 0 0 0 (fun G => [.ref (G.2.1 31), .int (nI i)]) X (kV (fun X' => setE X 31 (i + 1) (Zv X 32 i) (Zu X 33 i) (Zv X 34 i) (Zv X 35 i) = X')) kF := by
  refine con_of (lv := fun G => [(0, .ref (G.2.1 31)), (1, .int (nI i))]) hfl (by decide +kernel) (fun _ => rfl) (fun _ => Nat.le_of_ble_eq_true rfl) ?_
  intro G J JX CE
  have C := CE.b
  refine r_aload_n C dX0_moveBack_0 rfl rfl ?_
  refine gf_RX0_9 C (b := 31) (Or.inr rfl) dX0_moveBack_1 ?_
  refine r_iload_n C dX0_moveBack_4 rfl rfl ?_
  refine r_iconst (v := 1) C dX0_moveBack_5 (by decide) ?_
  refine r_iadd C dX0_moveBack_6 ?_
  refine r_topi (nI_1 i) ?_
  refine r_aload_n C dX0_moveBack_7 rfl rfl ?_
  refine gf_RX0_9 C (b := 31) (Or.inr rfl) dX0_moveBack_8 ?_
  refine r_iload_n C dX0_moveBack_11 rfl rfl ?_
  refine r_iald C (i) (by decide) rfl rfl (by omega) dX0_moveBack_12 ?_
  refine r_iast C (i + 1) (by decide) rfl rfl (by omega) dX0_moveBack_13 ?_
  refine r_aload_n C dX0_moveBack_14 rfl rfl ?_
  refine gf_RX0_15 C (b := 31) (Or.inr rfl) dX0_moveBack_15 ?_
  refine r_iload_n C dX0_moveBack_18 rfl rfl ?_
  refine r_iconst (v := 1) C dX0_moveBack_19 (by decide) ?_
  refine r_iadd C dX0_moveBack_20 ?_
  refine r_topi (nI_1 i) ?_
  refine r_aload_n C dX0_moveBack_21 rfl rfl ?_
  refine gf_RX0_15 C (b := 31) (Or.inr rfl) dX0_moveBack_22 ?_
  refine r_iload_n C dX0_moveBack_25 rfl rfl ?_
  refine r_lald C (i) (by decide) rfl rfl (by omega) dX0_moveBack_26 ?_
  refine r_last C (i + 1) (by decide) rfl rfl (by omega) dX0_moveBack_27 ?_
  refine r_aload_n C dX0_moveBack_28 rfl rfl ?_
  refine gf_RX0_19 C (b := 31) (Or.inr rfl) dX0_moveBack_29 ?_
  refine r_iload_n C dX0_moveBack_32 rfl rfl ?_
  refine r_iconst (v := 1) C dX0_moveBack_33 (by decide) ?_
  refine r_iadd C dX0_moveBack_34 ?_
  refine r_topi (nI_1 i) ?_
  refine r_aload_n C dX0_moveBack_35 rfl rfl ?_
  refine gf_RX0_19 C (b := 31) (Or.inr rfl) dX0_moveBack_36 ?_
  refine r_iload_n C dX0_moveBack_39 rfl rfl ?_
  refine r_iald C (i) (by decide) rfl rfl (by omega) dX0_moveBack_40 ?_
  refine r_iast C (i + 1) (by decide) rfl rfl (by omega) dX0_moveBack_41 ?_
  refine r_aload_n C dX0_moveBack_42 rfl rfl ?_
  refine gf_RX0_22 C (b := 31) (Or.inr rfl) dX0_moveBack_43 ?_
  refine r_iload_n C dX0_moveBack_46 rfl rfl ?_
  refine r_iconst (v := 1) C dX0_moveBack_47 (by decide) ?_
  refine r_iadd C dX0_moveBack_48 ?_
  refine r_topi (nI_1 i) ?_
  refine r_aload_n C dX0_moveBack_49 rfl rfl ?_
  refine gf_RX0_22 C (b := 31) (Or.inr rfl) dX0_moveBack_50 ?_
  refine r_iload_n C dX0_moveBack_53 rfl rfl ?_
  refine r_iald C (i) (by decide) rfl rfl (by omega) dX0_moveBack_54 ?_
  refine r_iast C (i + 1) (by decide) rfl rfl (by omega) dX0_moveBack_55 ?_
  exact r_vret CE rfl dX0_moveBack_56 (Nat.le_of_ble_eq_true rfl) ⟨rfl, rfl⟩
set_option maxHeartbeats 4000000 in
set_option maxRecDepth 100000 in
theorem lp_X0_offer_31 {l : Launch} {G : Geo} {J : JT} {JX : JXT} {X : St} (hfl : l.stackTraces = false) {lim : Nat} {e : BE} {L : List BE} {M : List BE} (hMl : M.length < 30) (hMok : ∀ (i : Nat) (x : BE), M[i]? = some x → eok x) (he : eok e) (hfin : ∀ q, q ≤ M.length → (∀ (i : Nat) (x : BE), M[i]? = some x → q ≤ i → befE e x = true) → (∀ (x : BE), M[q - 1]? = some x → 0 < q → befE e x = false) → M.take q ++ e :: M.drop q = offL lim L e) (CE : Cl l RX0 cX0_offer 8 none [] G 2 60 0 (kV (fun X' => BH X' 31 (offL lim L e) ∧ Fr (fun k => 31 ≤ k ∧ k ≤ 35) X X')) kF J JX) :
    ∀ n (Y : St), n ≤ M.length → BQ Y 31 n M → Zm Y 31 4 = nI M.length → Fr (fun k => 31 ≤ k ∧ k ≤ 35) X Y → (∀ (i : Nat) (x : BE), M[i]? = some x → n ≤ i → befE e x = true) → J Y 0 37 [(7, .int (nI n)), (0, .ref (G.2.1 31)), (1, .int (i32 e.1)), (2, .long (i64 e.2.1)), (4, .int (i32 e.2.2.1)), (5, .int (nI e.2.2.2)), (6, .int (nI lim))] [] := by
  have C := CE.b
  intro n
  induction n with
  | zero =>
    intro Y h hQ hc hF hgt
    have hno : ∀ (x : BE), M[0 - 1]? = some x → 0 < 0 → befE e x = false := fun x _ q => absurd q (Nat.lt_irrefl 0)
    refine r_iload C dX0_offer_37 rfl ?_
    refine r_if_le (tgt := 69) C dX0_offer_39 (by decide) (fun c_39 => ?_) (fun c_39 => absurd ((by decide)) c_39)
    refine r_aload_n C dX0_offer_69 rfl rfl ?_
    refine gf_RX0_9 C (b := 31) (Or.inr rfl) dX0_offer_70 ?_
    refine r_iload C dX0_offer_73 rfl ?_
    refine r_iload_n C dX0_offer_75 rfl rfl ?_
    refine r_iast C (0) (by decide) rfl rfl (by omega) dX0_offer_76 ?_
    refine r_aload_n C dX0_offer_77 rfl rfl ?_
    refine gf_RX0_15 C (b := 31) (Or.inr rfl) dX0_offer_78 ?_
    refine r_iload C dX0_offer_81 rfl ?_
    refine r_lload_n C dX0_offer_83 rfl rfl ?_
    refine r_last C (0) (by decide) rfl rfl (by omega) dX0_offer_84 ?_
    refine r_aload_n C dX0_offer_85 rfl rfl ?_
    refine gf_RX0_19 C (b := 31) (Or.inr rfl) dX0_offer_86 ?_
    refine r_iload C dX0_offer_89 rfl ?_
    refine r_iload C dX0_offer_91 rfl ?_
    refine r_iast C (0) (by decide) rfl rfl (by omega) dX0_offer_93 ?_
    refine r_aload_n C dX0_offer_94 rfl rfl ?_
    refine gf_RX0_22 C (b := 31) (Or.inr rfl) dX0_offer_95 ?_
    refine r_iload C dX0_offer_98 rfl ?_
    refine r_iload C dX0_offer_100 rfl ?_
    refine r_iast C (0) (by decide) rfl rfl (by omega) dX0_offer_102 ?_
    refine r_aload_n C dX0_offer_103 rfl rfl ?_
    refine r_dup C dX0_offer_104 rfl ?_
    refine gf_RX0_25 C (b := 31) (Or.inr rfl) dX0_offer_105 ?_
    refine r_topi (show _ = nI M.length from hc) ?_
    refine r_iconst (v := 1) C dX0_offer_108 (by decide) ?_
    refine r_iadd C dX0_offer_109 ?_
    refine r_topi (nI_1 _) ?_
    refine pf_RX0_25 C (b := 31) (Or.inr rfl) dX0_offer_110 ?_
    have hE := hfin 0 (by omega) hgt hno
    have hN : BH (Ym (setE Y 31 0 (i32 e.1) (i64 e.2.1) (i32 e.2.2.1) (nI e.2.2.2)) 31 4 (nI (M.length + 1))) 31 (offL lim L e) := by
      rw [← hE]
      have hlen : (M.take 0 ++ e :: M.drop 0).length = M.length + 1 := by rw [List.length_append, List.length_cons, List.length_take, List.length_drop]; omega
      refine ⟨by rw [hlen]; rfl, by omega, fun i x hx => ⟨BQ_end hQ (by omega) i x hx, ?_⟩⟩
      rcases List.mem_append.mp (List.mem_of_getElem? hx) with g | g
      · obtain ⟨j, hj⟩ := List.getElem?_of_mem (List.mem_of_mem_take g)
        exact hMok j x hj
      · rcases List.mem_cons.mp g with g | g
        · rw [g]; exact he
        · obtain ⟨j, hj⟩ := List.getElem?_of_mem (List.mem_of_mem_drop g)
          exact hMok j x hj
    exact r_vret CE rfl dX0_offer_113 (Nat.le_of_ble_eq_true rfl) ⟨rfl, hN, (hF.tr setE_fr).tr (Fr.m _ (by decide))⟩
  | succ n ih =>
    intro Y h hQ hc hF hgt
    have hx0 : ∃ x : BE, M[n]? = some x := ⟨M[n]'(by omega), List.getElem?_eq_getElem (by omega)⟩
    obtain ⟨x, hx⟩ := hx0
    have hxh := hQ.1 n x hx (by omega)
    have hxo := hMok n x hx
    refine r_iload C dX0_offer_37 rfl ?_
    refine r_if_le (tgt := 69) C dX0_offer_39 (by decide) (fun c_39 => absurd c_39 ((nI_nle (Nat.succ_pos n) (by omega)))) (fun c_39 => ?_)
    refine r_aload_n C dX0_offer_42 rfl rfl ?_
    refine r_iload_n C dX0_offer_43 rfl rfl ?_
    refine r_lload_n C dX0_offer_44 rfl rfl ?_
    refine r_iload C dX0_offer_45 rfl ?_
    refine r_iconst (v := 1) C dX0_offer_47 (by decide) ?_
    refine r_isub C dX0_offer_48 ?_
    refine r_topi (nI_pred n) ?_
    refine cl_RX0_29 C (b := 31) (Or.inr rfl) (con_X0_isBefore_31 l hfl _ (i := n) (p := e.2.1) (s := e.1) (p' := x.2.1) (s' := x.1) (by omega) he.1 hxo.1 he.2.1 hxo.2.1 hxh.1 hxh.2.1) dX0_offer_49 rfl ⟨Nat.le_of_ble_eq_true rfl, Nat.le_of_ble_eq_true rfl⟩ (by omega) (Nat.le_of_ble_eq_true rfl) (fun r_49 X_49 h_49 => ?_)
    obtain ⟨rfl, rfl⟩ := h_49
    refine r_if_eq (tgt := 69) C dX0_offer_52 (by decide) (fun c_52 => ?_) (fun c_52 => ?_)
    · -- 69
      have hno : ∀ (y : BE), M[n + 1 - 1]? = some y → 0 < n + 1 → befE e y = false := fun y hy _ => by rw [Nat.add_sub_cancel, hx] at hy; cases hy; exact bI_0 c_52
      refine r_aload_n C dX0_offer_69 rfl rfl ?_
      refine gf_RX0_9 C (b := 31) (Or.inr rfl) dX0_offer_70 ?_
      refine r_iload C dX0_offer_73 rfl ?_
      refine r_iload_n C dX0_offer_75 rfl rfl ?_
      refine r_iast C ((n + 1)) (by decide) rfl rfl (by omega) dX0_offer_76 ?_
      refine r_aload_n C dX0_offer_77 rfl rfl ?_
      refine gf_RX0_15 C (b := 31) (Or.inr rfl) dX0_offer_78 ?_
      refine r_iload C dX0_offer_81 rfl ?_
      refine r_lload_n C dX0_offer_83 rfl rfl ?_
      refine r_last C ((n + 1)) (by decide) rfl rfl (by omega) dX0_offer_84 ?_
      refine r_aload_n C dX0_offer_85 rfl rfl ?_
      refine gf_RX0_19 C (b := 31) (Or.inr rfl) dX0_offer_86 ?_
      refine r_iload C dX0_offer_89 rfl ?_
      refine r_iload C dX0_offer_91 rfl ?_
      refine r_iast C ((n + 1)) (by decide) rfl rfl (by omega) dX0_offer_93 ?_
      refine r_aload_n C dX0_offer_94 rfl rfl ?_
      refine gf_RX0_22 C (b := 31) (Or.inr rfl) dX0_offer_95 ?_
      refine r_iload C dX0_offer_98 rfl ?_
      refine r_iload C dX0_offer_100 rfl ?_
      refine r_iast C ((n + 1)) (by decide) rfl rfl (by omega) dX0_offer_102 ?_
      refine r_aload_n C dX0_offer_103 rfl rfl ?_
      refine r_dup C dX0_offer_104 rfl ?_
      refine gf_RX0_25 C (b := 31) (Or.inr rfl) dX0_offer_105 ?_
      refine r_topi (show _ = nI M.length from hc) ?_
      refine r_iconst (v := 1) C dX0_offer_108 (by decide) ?_
      refine r_iadd C dX0_offer_109 ?_
      refine r_topi (nI_1 _) ?_
      refine pf_RX0_25 C (b := 31) (Or.inr rfl) dX0_offer_110 ?_
      have hE := hfin (n + 1) (by omega) hgt hno
      have hN : BH (Ym (setE Y 31 (n + 1) (i32 e.1) (i64 e.2.1) (i32 e.2.2.1) (nI e.2.2.2)) 31 4 (nI (M.length + 1))) 31 (offL lim L e) := by
        rw [← hE]
        have hlen : (M.take (n + 1) ++ e :: M.drop (n + 1)).length = M.length + 1 := by rw [List.length_append, List.length_cons, List.length_take, List.length_drop]; omega
        refine ⟨by rw [hlen]; rfl, by omega, fun i x hx => ⟨BQ_end hQ (by omega) i x hx, ?_⟩⟩
        rcases List.mem_append.mp (List.mem_of_getElem? hx) with g | g
        · obtain ⟨j, hj⟩ := List.getElem?_of_mem (List.mem_of_mem_take g)
          exact hMok j x hj
        · rcases List.mem_cons.mp g with g | g
          · rw [g]; exact he
          · obtain ⟨j, hj⟩ := List.getElem?_of_mem (List.mem_of_mem_drop g)
            exact hMok j x hj
      exact r_vret CE rfl dX0_offer_113 (Nat.le_of_ble_eq_true rfl) ⟨rfl, hN, (hF.tr setE_fr).tr (Fr.m _ (by decide))⟩
    · -- 55
      have hbx : befE e x = true := bI_1 c_52
      refine r_aload_n C dX0_offer_55 rfl rfl ?_
      refine r_iload C dX0_offer_56 rfl ?_
      refine r_iconst (v := 1) C dX0_offer_58 (by decide) ?_
      refine r_isub C dX0_offer_59 ?_
      refine r_topi (nI_pred n) ?_
      refine cl_RX0_33 C (b := 31) (Or.inr rfl) (con_X0_moveBack_31 l hfl _ (i := n) (by omega)) dX0_offer_60 rfl ⟨Nat.le_of_ble_eq_true rfl, Nat.le_of_ble_eq_true rfl⟩ (by omega) (Nat.le_of_ble_eq_true rfl) (fun X_60 h_60 => ?_)
      subst h_60
      refine r_iinc (v := _) C dX0_offer_63 rfl (show _ = nI n from pk_m1 n) ?_
      refine r_goto (tgt := 37) C dX0_offer_66 (by decide) ?_
      refine r_sub C (lv' := [(7, .int (nI n)), (0, .ref (G.2.1 31)), (1, .int (i32 e.1)), (2, .long (i64 e.2.1)), (4, .int (i32 e.2.2.1)), (5, .int (nI e.2.2.2)), (6, .int (nI lim))]) ⟨rfl, rfl, rfl, rfl, rfl, rfl, rfl, trivial⟩ ?_
      exact ih _ (by omega) (BQ_step hQ (by omega)) hc (hF.tr setE_fr) (fun i y hy hi => by rcases Nat.lt_or_ge n i with q | q; exact hgt i y hy q; rw [show i = n by omega, hx] at hy; cases hy; exact hbx)

set_option maxHeartbeats 4000000 in
set_option maxRecDepth 100000 in
/-- X0_offer  -/
theorem con_X0_offer_31 (l : Launch) (hfl : l.stackTraces = false) {lim : Nat} {e : BE} {L : List BE} (X : St) (hB : BH X 31 L) (hs : Srt L) (hl : L.length ≤ lim) (hl0 : 0 < lim) (hl2 : lim ≤ 30) (he : eok e) : Con l yX0_offer cX0_offer 8 none 2 60 0 (fun G => [.ref (G.2.1 31), .int (i32 e.1), .long (i64 e.2.1), .int (i32 e.2.2.1), .int (nI e.2.2.2), .int (nI lim)]) X (kV (fun X' => BH X' 31 (offL lim L e) ∧ Fr (fun k => 31 ≤ k ∧ k ≤ 35) X X')) kF := by
  refine con_of (lv := fun G => [(0, .ref (G.2.1 31)), (1, .int (i32 e.1)), (2, .long (i64 e.2.1)), (4, .int (i32 e.2.2.1)), (5, .int (nI e.2.2.2)), (6, .int (nI lim))]) hfl (by decide +kernel) (fun _ => rfl) (fun _ => Nat.le_of_ble_eq_true rfl) ?_
  intro G J JX CE
  have C := CE.b
  refine r_aload_n C dX0_offer_0 rfl rfl ?_
  refine gf_RX0_25 C (b := 31) (Or.inr rfl) dX0_offer_1 ?_
  refine r_topi hB.1 ?_
  refine r_iload C dX0_offer_4 rfl ?_
  refine r_icmp_lt (tgt := 31) C dX0_offer_6 (by decide) (fun c_6 => ?_) (fun c_6 => ?_)
  · -- 31
    have hlt := (nI_ltI (by omega) (by omega)).mp c_6
    refine r_aload_n C dX0_offer_31 rfl rfl ?_
    refine gf_RX0_25 C (b := 31) (Or.inr rfl) dX0_offer_32 ?_
    refine r_topi hB.1 ?_
    refine r_istore C dX0_offer_35 (by decide) ?_
    refine r_sub C (lv' := [(7, .int (nI L.length)), (0, .ref (G.2.1 31)), (1, .int (i32 e.1)), (2, .long (i64 e.2.1)), (4, .int (i32 e.2.2.1)), (5, .int (nI e.2.2.2)), (6, .int (nI lim))]) ⟨rfl, rfl, rfl, rfl, rfl, rfl, rfl, trivial⟩ ?_
    exact lp_X0_offer_31 hfl (M := L) (by omega) (fun i x hx => (hB.2.2 i x hx).2) he (fun q hq h2 h1 => off_ins hs hlt hq h2 h1) CE L.length X (Nat.le_refl _) ⟨fun i x hx _ => (hB.2.2 i x hx).1, fun i x hx hi => absurd (List.getElem?_eq_some_iff.mp hx).1 (Nat.not_lt.mpr hi)⟩ hB.1 Fr.rf (fun i x hx hi => absurd (List.getElem?_eq_some_iff.mp hx).1 (Nat.not_lt.mpr hi))
  · -- 9
    have hll : L.length = lim := by
      have h9 : ¬ L.length < lim := fun q => c_6 ((nI_ltI (by omega) (by omega)).mpr q)
      omega
    obtain ⟨x, hx⟩ : ∃ x, L[lim - 1]? = some x := ⟨L[lim - 1]'(by omega), List.getElem?_eq_getElem (by omega)⟩
    have hxh := hB.2.2 (lim - 1) x hx
    refine r_aload_n C dX0_offer_9 rfl rfl ?_
    refine r_iload_n C dX0_offer_10 rfl rfl ?_
    refine r_lload_n C dX0_offer_11 rfl rfl ?_
    refine r_iload C dX0_offer_12 rfl ?_
    refine r_iconst (v := 1) C dX0_offer_14 (by decide) ?_
    refine r_isub C dX0_offer_15 ?_
    refine r_topi (show nI lim - 1 = nI (lim - 1) from pk_sub (b := 1) hl0) ?_
    refine cl_RX0_29 C (b := 31) (Or.inr rfl) (con_X0_isBefore_31 l hfl _ (i := lim - 1) (p := e.2.1) (s := e.1) (p' := x.2.1) (s' := x.1) (by omega) he.1 hxh.2.1 he.2.1 hxh.2.2.1 hxh.1.1 hxh.1.2.1) dX0_offer_16 rfl ⟨Nat.le_of_ble_eq_true rfl, Nat.le_of_ble_eq_true rfl⟩ (by omega) (Nat.le_of_ble_eq_true rfl) (fun r_16 X_16 h_16 => ?_)
    obtain ⟨rfl, rfl⟩ := h_16
    refine r_if_ne (tgt := 23) C dX0_offer_19 (by decide) (fun c_19 => ?_) (fun c_19 => ?_)
    · -- 23
      refine r_aload_n C dX0_offer_23 rfl rfl ?_
      refine r_iload C dX0_offer_24 rfl ?_
      refine r_iconst (v := 1) C dX0_offer_26 (by decide) ?_
      refine r_isub C dX0_offer_27 ?_
      refine r_topi (show nI lim - 1 = nI (lim - 1) from pk_sub (b := 1) hl0) ?_
      have hlt := bI_1 c_19
      refine pf_RX0_25 C (b := 31) (Or.inr rfl) dX0_offer_28 ?_
      refine r_aload_n C dX0_offer_31 rfl rfl ?_
      refine gf_RX0_25 C (b := 31) (Or.inr rfl) dX0_offer_32 ?_
      refine r_topi (show _ = nI (lim - 1) from rfl) ?_
      refine r_istore C dX0_offer_35 (by decide) ?_
      have hM : (L.take (lim - 1)).length = lim - 1 := by rw [List.length_take]; omega
      refine r_sub C (lv' := [(7, .int (nI (lim - 1))), (0, .ref (G.2.1 31)), (1, .int (i32 e.1)), (2, .long (i64 e.2.1)), (4, .int (i32 e.2.2.1)), (5, .int (nI e.2.2.2)), (6, .int (nI lim))]) ⟨rfl, rfl, rfl, rfl, rfl, rfl, rfl, trivial⟩ ?_
      have hq := lp_X0_offer_31 hfl (X := X) (M := L.take (lim - 1)) (lim := lim) (L := L) (by omega) (fun i x hx => (hB.2.2 i x (take_get hx).1).2) he (fun q hq h2 h1 => off_put hs hll hx hlt hl0 (by omega) h2 h1) CE (lim - 1) (Ym X 31 4 (nI (lim - 1))) (by omega) ⟨fun i x hx _ => (hB.2.2 i x (take_get hx).1).1, fun i x hx hi => absurd (take_get hx).2 (Nat.not_lt.mpr hi)⟩ (by rw [hM]; rfl) (Fr.m _ ⟨by decide, by decide⟩) (fun i x hx hi => absurd (take_get hx).2 (Nat.not_lt.mpr hi))
      exact hq
    · -- 22
      exact r_vret CE rfl dX0_offer_22 (Nat.le_of_ble_eq_true rfl) ⟨rfl, by rw [off_no hs hll hx (bI_0 c_19) hl0]; exact hB, Fr.rf⟩
theorem con_X0_offer (l : Launch) (hfl : l.stackTraces = false) {b lim : Nat} {e : BE} {L : List BE} (X : St) (hb : b = 26 ∨ b = 31) (hB : BH X b L) (hs : Srt L) (hl : L.length ≤ lim) (hl0 : 0 < lim) (hl2 : lim ≤ 30) (he : eok e) : Con l yX0_offer cX0_offer 8 none 2 60 0 (fun G => [.ref (G.2.1 b), .int (i32 e.1), .long (i64 e.2.1), .int (i32 e.2.2.1), .int (nI e.2.2.2), .int (nI lim)]) X (kV (fun X' => BH X' b (offL lim L e) ∧ Fr (fun k => b ≤ k ∧ k ≤ b + 4) X X')) kF := by
  rcases hb with rfl | rfl
  · exact con_X0_offer_26 l hfl X hB hs hl hl0 hl2 he
  · exact con_X0_offer_31 l hfl X hB hs hl hl0 hl2 he
