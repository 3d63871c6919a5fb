def PO (X Y : St) (n : Nat) (x : Nat × Nat × (Nat → Int)) (c d : Nat) : Prop := Fr (fun k => 37 ≤ k ∧ k ≤ 41) X Y ∧ (Zm Y 37 1 = Zm X 37 1 ∧ Zm Y 37 2 = Zm X 37 2 ∧ Zm Y 37 7 = nI n ∧ Zm Y 37 19 = Zm X 37 19 ∧ Zm Y 37 0 = 0) ∧ (∀ k, k < c → Zv Y 38 k = bI (x.1.testBit k)) ∧ (∀ k, k < c → Zv Y 39 k = bI (x.2.1.testBit k)) ∧ ∀ k, k < d → Zv Y 40 k = bI (al x.2.2 k) ∧ (al x.2.2 k = true → Zv Y 41 k = i32 (x.2.2 k))
theorem bt_out {S R k : Nat} (h : S < 2 ^ R) (hk : R ≤ k) : S.testBit k = false := Nat.testBit_lt_two_pow (Nat.lt_of_lt_of_le h (Nat.pow_le_pow_right (by decide) hk))
theorem up_st {f : Nat → Int32} {c : Nat} {v : Int32} {P : Nat → Int32} (h : ∀ k, k < c → f k = P k) (hv : v = P c) : ∀ k, k < c + 1 → upd f c v k = P k := fun k hk => by
  unfold upd
  by_cases e : k = c
  · rw [if_pos e, e]; exact hv
  · rw [if_neg e]; exact h k (by omega)
theorem PO.s1 {X Y : St} {n : Nat} {x : Nat × Nat × (Nat → Int)} {c d : Nat} {v w : Int32} (h : PO X Y n x c d) (hv : v = bI (x.1.testBit c)) (hw : w = bI (x.2.1.testBit c)) : PO X (Yv (Yv Y 38 (upd (Zv Y 38) c v)) 39 (upd (Zv Y 39) c w)) n x (c + 1) d :=
  ⟨(h.1.tr (Fr.v _ ⟨by omega, by omega⟩)).tr (Fr.v _ ⟨by omega, by omega⟩), h.2.1, up_st h.2.2.1 hv, up_st h.2.2.2.1 hw, h.2.2.2.2⟩
theorem PO.s2 {X Y : St} {n : Nat} {x : Nat × Nat × (Nat → Int)} {c d : Nat} {v w : Int32} (h : PO X Y n x c d) (hv : v = bI (al x.2.2 d)) (hw : al x.2.2 d = true → w = i32 (x.2.2 d)) : PO X (Yv (Yv Y 40 (upd (Zv Y 40) d v)) 41 (upd (Zv Y 41) d w)) n x c (d + 1) :=
  ⟨(h.1.tr (Fr.v _ ⟨by omega, by omega⟩)).tr (Fr.v _ ⟨by omega, by omega⟩), h.2.1, h.2.2.1, h.2.2.2.1, fun k hk => by
    show upd (Zv Y 40) d v k = _ ∧ (_ → upd (Zv Y 41) d w k = _)
    unfold upd
    by_cases e : k = d
    · rw [if_pos e, if_pos e, e]; exact ⟨hv, hw⟩
    · rw [if_neg e, if_neg e]; exact h.2.2.2.2 k (by omega)⟩
theorem MInv.pop {X Y : St} {A : DA} {n : Nat} {x : Nat × Nat × (Nat → Int)} (h : MInv X A) (hn : A.lv.length = n + 1) (hx : A.lv[n]? = some x) (hP : PO X Y n x 10 100) : MInv Y ((A.lvl (A.lv.take n)).tab A.R A.C x.1 x.2.1 x.2.2) := by
  have h8 := h.ok.n
  have hlen : (A.lv.take n).length = n := by rw [List.length_take]; omega
  have hL : ∀ (i : Nat) (y : Nat × Nat × (Nat → Int)), (A.lv.take n)[i]? = some y → A.lv[i]? = some y := fun i y hy => by
    rw [List.getElem?_take] at hy
    by_cases g : i < n
    · rw [if_pos g] at hy; exact hy
    · rw [if_neg g] at hy; cases hy
  have hF := hP.1
  refine ⟨⟨hP.2.1.1.trans h.b.1, hP.2.1.2.1.trans h.b.2.1, hP.2.2.1, hP.2.2.2.1, fun k hk => (hP.2.2.2.2 k hk).1, fun k hk => (hP.2.2.2.2 k hk).2⟩, ?_, fun i y hy => ?_, ⟨hP.2.1.2.2.2.1.trans h.r.1, h.r.2.1, by rw [(hF 53 (by omega)).2.1, (hF 54 (by omega)).2.1]; exact h.r.2.2⟩, ⟨h.ok.R, h.ok.C, h.ok.l n x hx, by show (A.lv.take n).length ≤ 8; omega, fun i y hy => h.ok.l i y (hL i y hy)⟩⟩
  · show Zm Y 37 7 = nI (A.lv.take n).length
    rw [hlen]; exact hP.2.1.2.2.1
  · rw [(hF 42 (by omega)).2.1, (hF 43 (by omega)).2.1, (hF 44 (by omega)).2.1, (hF 45 (by omega)).2.1, (hF 46 (by omega)).2.1, (hF 47 (by omega)).2.1]
    exact h.l i y (hL i y hy)
set_option maxHeartbeats 4000000 in
set_option maxRecDepth 100000 in
theorem lp_X6_pop2 {l : Launch} {G : Geo} {J : JT} {JX : JXT} {X : St} (hfl : l.stackTraces = false) {A : DA} (hM : MInv X A) {v : Nat} {x : Nat × Nat × (Nat → Int)} (hn : A.lv.length = v + 1) (hx : A.lv[v]? = some x) (hn8 : v < 8) (CE : Cl l RX6 cX6_pop 2 (some .int) [] G 1 30 0 (kI (fun r9 X' => (A.lv.length = 0 → r9 = 0 ∧ Zm X' 37 0 = 1 ∧ MInv X' A) ∧ (∀ (n : Nat) (x : Nat × Nat × (Nat → Int)), A.lv.length = n + 1 → A.lv[n]? = some x → r9 = nI n ∧ Zm X' 37 0 = 0 ∧ MInv X' ((A.lvl (A.lv.take n)).tab A.R A.C x.1 x.2.1 x.2.2)) ∧ Fr Mp X X')) kF J JX) :
    ∀ m c (Y : St), c + m = 100 → PO X Y v x 10 c → J Y 0 126 [(1, .int (nI c)), (0, .ref (G.2.1 37))] [] := by
  have C := CE.b
  intro n
  induction n with
  | zero =>
    intro c Y h hP
    have hc : c = 100 := by omega
    subst hc
    refine r_iload_n C dX6_pop_126 rfl rfl ?_
    refine r_bipush (v := 100) C dX6_pop_127 (by decide) ?_
    refine r_icmp_ge (tgt := 178) C dX6_pop_129 (by decide) (fun c_129 => ?_) (fun c_129 => absurd ((by decide)) c_129)
    refine r_aload_n C dX6_pop_178 rfl rfl ?_
    refine gf_RX6_182 C dX6_pop_179 ?_
    refine r_topi (show _ = nI v from hP.2.1.2.2.1) ?_
    exact r_iret CE rfl rfl dX6_pop_182 (Nat.le_of_ble_eq_true rfl) ⟨_, rfl, fun q => (by omega), fun n9 x9 q1 q2 => (by
      have e : n9 = v := by omega
      subst e
      rw [hx] at q2
      cases q2
      exact ⟨rfl, hP.2.1.2.2.2.2, hM.pop hn hx hP⟩), hP.1.mm⟩
  | succ n ih =>
    intro c Y h hP
    have hlt : c < 100 := by omega
    obtain ⟨R, C9, b1, b2, b3, b4, b5, b6, b7, b8, b9, b10⟩ := hM.l v x hx
    refine r_iload_n C dX6_pop_126 rfl rfl ?_
    refine r_bipush (v := 100) C dX6_pop_127 (by decide) ?_
    refine r_icmp_ge (tgt := 178) C dX6_pop_129 (by decide) (fun c_129 => absurd c_129 ((nI_ge (a := c) (b := 100) (by omega) (by decide)))) (fun c_129 => ?_)
    refine r_aload_n C dX6_pop_132 rfl rfl ?_
    refine gf_RX6_16 C dX6_pop_133 ?_
    refine r_iload_n C dX6_pop_136 rfl rfl ?_
    refine r_aload_n C dX6_pop_137 rfl rfl ?_
    refine gf_RX6_35 C dX6_pop_138 ?_
    refine r_bipush (v := 100) C dX6_pop_141 (by decide) ?_
    refine r_aload_n C dX6_pop_143 rfl rfl ?_
    refine gf_RX6_182 C dX6_pop_144 ?_
    refine r_topi (show _ = nI v from hP.2.1.2.2.1) ?_
    refine r_imul C dX6_pop_147 ?_
    refine r_iload_n C dX6_pop_148 rfl rfl ?_
    refine r_iadd C dX6_pop_149 ?_
    refine r_zald C (100 * v + c) (by decide) rfl (z100 _ _) (by omega) dX6_pop_150 ?_
    refine r_topi (show _ = bI (al x.2.2 c) by rw [(hP.1 46 (by omega)).2.1]; exact b9 c hlt) ?_
    refine r_zast C (c) (by decide) rfl rfl hlt (bI_vn _) dX6_pop_151 ?_
    refine r_aload_n C dX6_pop_152 rfl rfl ?_
    refine gf_RX6_19 C dX6_pop_153 ?_
    refine r_iload_n C dX6_pop_156 rfl rfl ?_
    refine r_aload_n C dX6_pop_157 rfl rfl ?_
    refine gf_RX6_38 C dX6_pop_158 ?_
    refine r_bipush (v := 100) C dX6_pop_161 (by decide) ?_
    refine r_aload_n C dX6_pop_163 rfl rfl ?_
    refine gf_RX6_182 C dX6_pop_164 ?_
    refine r_topi (show _ = nI v from hP.2.1.2.2.1) ?_
    refine r_imul C dX6_pop_167 ?_
    refine r_iload_n C dX6_pop_168 rfl rfl ?_
    refine r_iadd C dX6_pop_169 ?_
    refine r_iald C (100 * v + c) (by decide) rfl (z100 _ _) (by omega) dX6_pop_170 ?_
    refine r_topi (show _ = Zv X 47 (100 * v + c) by show Zv Y 47 _ = _; rw [(hP.1 47 (by omega)).2.1]) ?_
    refine r_iast C (c) (by decide) rfl rfl hlt dX6_pop_171 ?_
    refine r_iinc (v := _) C dX6_pop_172 rfl (nI_1 c) ?_
    refine r_goto (tgt := 126) C dX6_pop_175 (by decide) ?_
    refine r_sub C (lv' := [(1, .int (nI (c + 1))), (0, .ref (G.2.1 37))]) ⟨rfl, rfl, trivial⟩ ?_
    exact ih (c + 1) _ (by omega) (hP.s2 rfl (fun ha => b10 c hlt ha))

set_option maxHeartbeats 4000000 in
set_option maxRecDepth 100000 in
theorem lp_X6_pop1 {l : Launch} {G : Geo} {J : JT} {JX : JXT} {X : St} (hfl : l.stackTraces = false) {A : DA} (hM : MInv X A) {v : Nat} {x : Nat × Nat × (Nat → Int)} (hn : A.lv.length = v + 1) (hx : A.lv[v]? = some x) (hn8 : v < 8) (CE : Cl l RX6 cX6_pop 2 (some .int) [] G 1 30 0 (kI (fun r9 X' => (A.lv.length = 0 → r9 = 0 ∧ Zm X' 37 0 = 1 ∧ MInv X' A) ∧ (∀ (n : Nat) (x : Nat × Nat × (Nat → Int)), A.lv.length = n + 1 → A.lv[n]? = some x → r9 = nI n ∧ Zm X' 37 0 = 0 ∧ MInv X' ((A.lvl (A.lv.take n)).tab A.R A.C x.1 x.2.1 x.2.2)) ∧ Fr Mp X X')) kF J JX) :
    ∀ m c (Y : St), c + m = 10 → PO X Y v x c 0 → J Y 0 30 [(1, .int (nI c)), (0, .ref (G.2.1 37))] [] := by
  have C := CE.b
  intro n
  induction n with
  | zero =>
    intro c Y h hP
    have hc : c = 10 := by omega
    subst hc
    refine r_iload_n C dX6_pop_30 rfl rfl ?_
    refine r_bipush (v := 10) C dX6_pop_31 (by decide) ?_
    refine r_icmp_ge (tgt := 124) C dX6_pop_33 (by decide) (fun c_33 => ?_) (fun c_33 => absurd ((by decide)) c_33)
    refine r_iconst (v := 0) C dX6_pop_124 (by decide) ?_
    refine r_istore_n C dX6_pop_125 rfl (by decide) ?_
    refine r_sub C (lv' := [(1, .int (nI 0)), (0, .ref (G.2.1 37))]) ⟨rfl, rfl, trivial⟩ ?_
    exact lp_X6_pop2 hfl hM hn hx hn8 CE 100 0 _ (by omega) hP
  | succ n ih =>
    intro c Y h hP
    have hlt : c < 10 := by omega
    obtain ⟨R, C9, b1, b2, b3, b4, b5, b6, b7, b8, b9, b10⟩ := hM.l v x hx
    refine r_iload_n C dX6_pop_30 rfl rfl ?_
    refine r_bipush (v := 10) C dX6_pop_31 (by decide) ?_
    refine r_icmp_ge (tgt := 124) C dX6_pop_33 (by decide) (fun c_33 => absurd c_33 ((nI_ge (a := c) (b := 10) (by omega) (by decide)))) (fun c_33 => ?_)
    refine r_aload_n C dX6_pop_36 rfl rfl ?_
    refine gf_RX6_9 C dX6_pop_37 ?_
    refine r_iload_n C dX6_pop_40 rfl rfl ?_
    refine r_iload_n C dX6_pop_41 rfl rfl ?_
    refine r_aload_n C dX6_pop_42 rfl rfl ?_
    refine gf_RX6_23 C dX6_pop_43 ?_
    refine r_aload_n C dX6_pop_46 rfl rfl ?_
    refine gf_RX6_182 C dX6_pop_47 ?_
    refine r_topi (show _ = nI v from hP.2.1.2.2.1) ?_
    refine r_iald C (v) (by decide) rfl rfl hn8 dX6_pop_50 ?_
    refine r_topi (show _ = nI R by rw [(hP.1 42 (by omega)).2.1]; exact b1) ?_
    refine r_icmp_ge (tgt := 75) C dX6_pop_51 (by decide) (fun c_51 => ?_) (fun c_51 => ?_)
    · -- 75
      have hv1 : (0 : Int32) = bI (x.1.testBit c) := by
        have h9 := Int32.le_iff_toInt_le.mp c_51
        rw [nI_toInt (by omega), nI_toInt (by omega)] at h9
        rw [bt_out b5 (by omega)]; rfl
      refine r_iconst (v := 0) C dX6_pop_75 (by decide) ?_
      refine r_zast C (c) (by decide) rfl rfl hlt rfl dX6_pop_76 ?_
      refine r_aload_n C dX6_pop_77 rfl rfl ?_
      refine gf_RX6_13 C dX6_pop_78 ?_
      refine r_iload_n C dX6_pop_81 rfl rfl ?_
      refine r_iload_n C dX6_pop_82 rfl rfl ?_
      refine r_aload_n C dX6_pop_83 rfl rfl ?_
      refine gf_RX6_26 C dX6_pop_84 ?_
      refine r_aload_n C dX6_pop_87 rfl rfl ?_
      refine gf_RX6_182 C dX6_pop_88 ?_
      refine r_topi (show _ = nI v from hP.2.1.2.2.1) ?_
      refine r_iald C (v) (by decide) rfl rfl hn8 dX6_pop_91 ?_
      refine r_topi (show _ = nI C9 by show Zv Y 43 v = _; rw [(hP.1 43 (by omega)).2.1]; exact b2) ?_
      refine r_icmp_ge (tgt := 116) C dX6_pop_92 (by decide) (fun c_92 => ?_) (fun c_92 => ?_)
      · -- 116
        have hw1 : (0 : Int32) = bI (x.2.1.testBit c) := by
          have h9 := Int32.le_iff_toInt_le.mp c_92
          rw [nI_toInt (by omega), nI_toInt (by omega)] at h9
          rw [bt_out b6 (by omega)]; rfl
        refine r_iconst (v := 0) C dX6_pop_116 (by decide) ?_
        refine r_zast C (c) (by decide) rfl rfl hlt rfl dX6_pop_117 ?_
        refine r_iinc (v := _) C dX6_pop_118 rfl (nI_1 c) ?_
        refine r_goto (tgt := 30) C dX6_pop_121 (by decide) ?_
        refine r_sub C (lv' := [(1, .int (nI (c + 1))), (0, .ref (G.2.1 37))]) ⟨rfl, rfl, trivial⟩ ?_
        exact ih (c + 1) _ (by omega) (hP.s1 hv1 hw1)
      · -- 95
        refine r_aload_n C dX6_pop_95 rfl rfl ?_
        refine gf_RX6_32 C dX6_pop_96 ?_
        refine r_bipush (v := 10) C dX6_pop_99 (by decide) ?_
        refine r_aload_n C dX6_pop_101 rfl rfl ?_
        refine gf_RX6_182 C dX6_pop_102 ?_
        refine r_topi (show _ = nI v from hP.2.1.2.2.1) ?_
        refine r_imul C dX6_pop_105 ?_
        refine r_iload_n C dX6_pop_106 rfl rfl ?_
        refine r_iadd C dX6_pop_107 ?_
        refine r_zald C (10 * v + c) (by decide) rfl (zix' _ _) (by omega) dX6_pop_108 ?_
        refine r_topi (show _ = bI (x.2.1.testBit c) by show Zv Y 45 _ = _; rw [(hP.1 45 (by omega)).2.1]; exact b8 c hlt) ?_
        refine r_if_eq (tgt := 116) C dX6_pop_109 (by decide) (fun c_109 => ?_) (fun c_109 => ?_)
        · -- 116
          have hw1 : (0 : Int32) = bI (x.2.1.testBit c) := c_109.symm
          refine r_iconst (v := 0) C dX6_pop_116 (by decide) ?_
          refine r_zast C (c) (by decide) rfl rfl hlt rfl dX6_pop_117 ?_
          refine r_iinc (v := _) C dX6_pop_118 rfl (nI_1 c) ?_
          refine r_goto (tgt := 30) C dX6_pop_121 (by decide) ?_
          refine r_sub C (lv' := [(1, .int (nI (c + 1))), (0, .ref (G.2.1 37))]) ⟨rfl, rfl, trivial⟩ ?_
          exact ih (c + 1) _ (by omega) (hP.s1 hv1 hw1)
        · -- 112
          have hw1 : (1 : Int32) = bI (x.2.1.testBit c) := by rw [bI_1 c_109]; rfl
          refine r_iconst (v := 1) C dX6_pop_112 (by decide) ?_
          refine r_goto (tgt := 117) C dX6_pop_113 (by decide) ?_
          refine r_zast C (c) (by decide) rfl rfl hlt rfl dX6_pop_117 ?_
          refine r_iinc (v := _) C dX6_pop_118 rfl (nI_1 c) ?_
          refine r_goto (tgt := 30) C dX6_pop_121 (by decide) ?_
          refine r_sub C (lv' := [(1, .int (nI (c + 1))), (0, .ref (G.2.1 37))]) ⟨rfl, rfl, trivial⟩ ?_
          exact ih (c + 1) _ (by omega) (hP.s1 hv1 hw1)
    · -- 54
      refine r_aload_n C dX6_pop_54 rfl rfl ?_
      refine gf_RX6_29 C dX6_pop_55 ?_
      refine r_bipush (v := 10) C dX6_pop_58 (by decide) ?_
      refine r_aload_n C dX6_pop_60 rfl rfl ?_
      refine gf_RX6_182 C dX6_pop_61 ?_
      refine r_topi (show _ = nI v from hP.2.1.2.2.1) ?_
      refine r_imul C dX6_pop_64 ?_
      refine r_iload_n C dX6_pop_65 rfl rfl ?_
      refine r_iadd C dX6_pop_66 ?_
      refine r_zald C (10 * v + c) (by decide) rfl (zix' _ _) (by omega) dX6_pop_67 ?_
      refine r_topi (show _ = bI (x.1.testBit c) by rw [(hP.1 44 (by omega)).2.1]; exact b7 c hlt) ?_
      refine r_if_eq (tgt := 75) C dX6_pop_68 (by decide) (fun c_68 => ?_) (fun c_68 => ?_)
      · -- 75
        have hv1 : (0 : Int32) = bI (x.1.testBit c) := c_68.symm
        refine r_iconst (v := 0) C dX6_pop_75 (by decide) ?_
        refine r_zast C (c) (by decide) rfl rfl hlt rfl dX6_pop_76 ?_
        refine r_aload_n C dX6_pop_77 rfl rfl ?_
        refine gf_RX6_13 C dX6_pop_78 ?_
        refine r_iload_n C dX6_pop_81 rfl rfl ?_
        refine r_iload_n C dX6_pop_82 rfl rfl ?_
        refine r_aload_n C dX6_pop_83 rfl rfl ?_
        refine gf_RX6_26 C dX6_pop_84 ?_
        refine r_aload_n C dX6_pop_87 rfl rfl ?_
        refine gf_RX6_182 C dX6_pop_88 ?_
        refine r_topi (show _ = nI v from hP.2.1.2.2.1) ?_
        refine r_iald C (v) (by decide) rfl rfl hn8 dX6_pop_91 ?_
        refine r_topi (show _ = nI C9 by show Zv Y 43 v = _; rw [(hP.1 43 (by omega)).2.1]; exact b2) ?_
        refine r_icmp_ge (tgt := 116) C dX6_pop_92 (by decide) (fun c_92 => ?_) (fun c_92 => ?_)
        · -- 116
          have hw1 : (0 : Int32) = bI (x.2.1.testBit c) := by
            have h9 := Int32.le_iff_toInt_le.mp c_92
            rw [nI_toInt (by omega), nI_toInt (by omega)] at h9
            rw [bt_out b6 (by omega)]; rfl
          refine r_iconst (v := 0) C dX6_pop_116 (by decide) ?_
          refine r_zast C (c) (by decide) rfl rfl hlt rfl dX6_pop_117 ?_
          refine r_iinc (v := _) C dX6_pop_118 rfl (nI_1 c) ?_
          refine r_goto (tgt := 30) C dX6_pop_121 (by decide) ?_
          refine r_sub C (lv' := [(1, .int (nI (c + 1))), (0, .ref (G.2.1 37))]) ⟨rfl, rfl, trivial⟩ ?_
          exact ih (c + 1) _ (by omega) (hP.s1 hv1 hw1)
        · -- 95
          refine r_aload_n C dX6_pop_95 rfl rfl ?_
          refine gf_RX6_32 C dX6_pop_96 ?_
          refine r_bipush (v := 10) C dX6_pop_99 (by decide) ?_
          refine r_aload_n C dX6_pop_101 rfl rfl ?_
          refine gf_RX6_182 C dX6_pop_102 ?_
          refine r_topi (show _ = nI v from hP.2.1.2.2.1) ?_
          refine r_imul C dX6_pop_105 ?_
          refine r_iload_n C dX6_pop_106 rfl rfl ?_
          refine r_iadd C dX6_pop_107 ?_
          refine r_zald C (10 * v + c) (by decide) rfl (zix' _ _) (by omega) dX6_pop_108 ?_
          refine r_topi (show _ = bI (x.2.1.testBit c) by show Zv Y 45 _ = _; rw [(hP.1 45 (by omega)).2.1]; exact b8 c hlt) ?_
          refine r_if_eq (tgt := 116) C dX6_pop_109 (by decide) (fun c_109 => ?_) (fun c_109 => ?_)
          · -- 116
            have hw1 : (0 : Int32) = bI (x.2.1.testBit c) := c_109.symm
            refine r_iconst (v := 0) C dX6_pop_116 (by decide) ?_
            refine r_zast C (c) (by decide) rfl rfl hlt rfl dX6_pop_117 ?_
            refine r_iinc (v := _) C dX6_pop_118 rfl (nI_1 c) ?_
            refine r_goto (tgt := 30) C dX6_pop_121 (by decide) ?_
            refine r_sub C (lv' := [(1, .int (nI (c + 1))), (0, .ref (G.2.1 37))]) ⟨rfl, rfl, trivial⟩ ?_
            exact ih (c + 1) _ (by omega) (hP.s1 hv1 hw1)
          · -- 112
            have hw1 : (1 : Int32) = bI (x.2.1.testBit c) := by rw [bI_1 c_109]; rfl
            refine r_iconst (v := 1) C dX6_pop_112 (by decide) ?_
            refine r_goto (tgt := 117) C dX6_pop_113 (by decide) ?_
            refine r_zast C (c) (by decide) rfl rfl hlt rfl dX6_pop_117 ?_
            refine r_iinc (v := _) C dX6_pop_118 rfl (nI_1 c) ?_
            refine r_goto (tgt := 30) C dX6_pop_121 (by decide) ?_
            refine r_sub C (lv' := [(1, .int (nI (c + 1))), (0, .ref (G.2.1 37))]) ⟨rfl, rfl, trivial⟩ ?_
            exact ih (c + 1) _ (by omega) (hP.s1 hv1 hw1)
      · -- 71
        have hv1 : (1 : Int32) = bI (x.1.testBit c) := by rw [bI_1 c_68]; rfl
        refine r_iconst (v := 1) C dX6_pop_71 (by decide) ?_
        refine r_goto (tgt := 76) C dX6_pop_72 (by decide) ?_
        refine r_zast C (c) (by decide) rfl rfl hlt rfl dX6_pop_76 ?_
        refine r_aload_n C dX6_pop_77 rfl rfl ?_
        refine gf_RX6_13 C dX6_pop_78 ?_
        refine r_iload_n C dX6_pop_81 rfl rfl ?_
        refine r_iload_n C dX6_pop_82 rfl rfl ?_
        refine r_aload_n C dX6_pop_83 rfl rfl ?_
        refine gf_RX6_26 C dX6_pop_84 ?_
        refine r_aload_n C dX6_pop_87 rfl rfl ?_
        refine gf_RX6_182 C dX6_pop_88 ?_
        refine r_topi (show _ = nI v from hP.2.1.2.2.1) ?_
        refine r_iald C (v) (by decide) rfl rfl hn8 dX6_pop_91 ?_
        refine r_topi (show _ = nI C9 by show Zv Y 43 v = _; rw [(hP.1 43 (by omega)).2.1]; exact b2) ?_
        refine r_icmp_ge (tgt := 116) C dX6_pop_92 (by decide) (fun c_92 => ?_) (fun c_92 => ?_)
        · -- 116
          have hw1 : (0 : Int32) = bI (x.2.1.testBit c) := by
            have h9 := Int32.le_iff_toInt_le.mp c_92
            rw [nI_toInt (by omega), nI_toInt (by omega)] at h9
            rw [bt_out b6 (by omega)]; rfl
          refine r_iconst (v := 0) C dX6_pop_116 (by decide) ?_
          refine r_zast C (c) (by decide) rfl rfl hlt rfl dX6_pop_117 ?_
          refine r_iinc (v := _) C dX6_pop_118 rfl (nI_1 c) ?_
          refine r_goto (tgt := 30) C dX6_pop_121 (by decide) ?_
          refine r_sub C (lv' := [(1, .int (nI (c + 1))), (0, .ref (G.2.1 37))]) ⟨rfl, rfl, trivial⟩ ?_
          exact ih (c + 1) _ (by omega) (hP.s1 hv1 hw1)
        · -- 95
          refine r_aload_n C dX6_pop_95 rfl rfl ?_
          refine gf_RX6_32 C dX6_pop_96 ?_
          refine r_bipush (v := 10) C dX6_pop_99 (by decide) ?_
          refine r_aload_n C dX6_pop_101 rfl rfl ?_
          refine gf_RX6_182 C dX6_pop_102 ?_
          refine r_topi (show _ = nI v from hP.2.1.2.2.1) ?_
          refine r_imul C dX6_pop_105 ?_
          refine r_iload_n C dX6_pop_106 rfl rfl ?_
          refine r_iadd C dX6_pop_107 ?_
          refine r_zald C (10 * v + c) (by decide) rfl (zix' _ _) (by omega) dX6_pop_108 ?_
          refine r_topi (show _ = bI (x.2.1.testBit c) by show Zv Y 45 _ = _; rw [(hP.1 45 (by omega)).2.1]; exact b8 c hlt) ?_
          refine r_if_eq (tgt := 116) C dX6_pop_109 (by decide) (fun c_109 => ?_) (fun c_109 => ?_)
          · -- 116
            have hw1 : (0 : Int32) = bI (x.2.1.testBit c) := c_109.symm
            refine r_iconst (v := 0) C dX6_pop_116 (by decide) ?_
            refine r_zast C (c) (by decide) rfl rfl hlt rfl dX6_pop_117 ?_
            refine r_iinc (v := _) C dX6_pop_118 rfl (nI_1 c) ?_
            refine r_goto (tgt := 30) C dX6_pop_121 (by decide) ?_
            refine r_sub C (lv' := [(1, .int (nI (c + 1))), (0, .ref (G.2.1 37))]) ⟨rfl, rfl, trivial⟩ ?_
            exact ih (c + 1) _ (by omega) (hP.s1 hv1 hw1)
          · -- 112
            have hw1 : (1 : Int32) = bI (x.2.1.testBit c) := by rw [bI_1 c_109]; rfl
            refine r_iconst (v := 1) C dX6_pop_112 (by decide) ?_
            refine r_goto (tgt := 117) C dX6_pop_113 (by decide) ?_
            refine r_zast C (c) (by decide) rfl rfl hlt rfl dX6_pop_117 ?_
            refine r_iinc (v := _) C dX6_pop_118 rfl (nI_1 c) ?_
            refine r_goto (tgt := 30) C dX6_pop_121 (by decide) ?_
            refine r_sub C (lv' := [(1, .int (nI (c + 1))), (0, .ref (G.2.1 37))]) ⟨rfl, rfl, trivial⟩ ?_
            exact ih (c + 1) _ (by omega) (hP.s1 hv1 hw1)

set_option maxHeartbeats 4000000 in
set_option maxRecDepth 100000 in
/-- X6_pop  -/
theorem con_X6_pop (l : Launch) (hfl : l.stackTraces = false) {A : DA} (X : St) (hM : MInv X A) : Con l yX6_pop cX6_pop 2 (some (FieldType.int)) 1 30 0 (fun G => [.ref (G.2.1 37)]) X (kI (fun r9 X' => (A.lv.length = 0 → r9 = 0 ∧ Zm X' 37 0 = 1 ∧ MInv X' A) ∧ (∀ (n : Nat) (x : Nat × Nat × (Nat → Int)), A.lv.length = n + 1 → A.lv[n]? = some x → r9 = nI n ∧ Zm X' 37 0 = 0 ∧ MInv X' ((A.lvl (A.lv.take n)).tab A.R A.C x.1 x.2.1 x.2.2)) ∧ Fr Mp X X')) kF := by
  refine con_of (lv := fun G => [(0, .ref (G.2.1 37))]) hfl (by decide +kernel) (fun _ => rfl) (fun _ => Nat.le_of_ble_eq_true rfl) ?_
  intro G J JX CE
  have C := CE.b
  have h8 := hM.ok.n
  refine r_aload_n C dX6_pop_0 rfl rfl ?_
  refine r_iconst (v := 0) C dX6_pop_1 (by decide) ?_
  refine pf_RX6_77 C dX6_pop_2 ?_
  refine r_aload_n C dX6_pop_5 rfl rfl ?_
  refine gf_RX6_182 C dX6_pop_6 ?_
  refine r_topi (show _ = nI A.lv.length from hM.n) ?_
  refine r_if_ne (tgt := 18) C dX6_pop_9 (by decide) (fun c_9 => ?_) (fun c_9 => ?_)
  · -- 18
    have h0 : A.lv.length ≠ 0 := fun q => c_9 (by rw [q]; rfl)
    obtain ⟨n, hn⟩ : ∃ n, A.lv.length = n + 1 := ⟨A.lv.length - 1, by omega⟩
    obtain ⟨x, hx⟩ : ∃ x, A.lv[n]? = some x := ⟨A.lv[n]'(by omega), List.getElem?_eq_getElem (by omega)⟩
    refine r_aload_n C dX6_pop_18 rfl rfl ?_
    refine r_dup C dX6_pop_19 rfl ?_
    refine gf_RX6_182 C dX6_pop_20 ?_
    refine r_topi (show _ = nI (n + 1) by rw [← hn]; exact hM.n) ?_
    refine r_iconst (v := 1) C dX6_pop_23 (by decide) ?_
    refine r_isub C dX6_pop_24 ?_
    refine r_topi (nI_pred n) ?_
    refine pf_RX6_182 C dX6_pop_25 ?_
    refine r_iconst (v := 0) C dX6_pop_28 (by decide) ?_
    refine r_istore_n C dX6_pop_29 rfl (by decide) ?_
    refine r_sub C (lv' := [(1, .int (nI 0)), (0, .ref (G.2.1 37))]) ⟨rfl, rfl, trivial⟩ ?_
    exact lp_X6_pop1 hfl hM hn hx (by omega) CE 10 0 _ (by omega) ⟨(Fr.m _ ⟨by omega, by omega⟩).tr (Fr.m _ ⟨by omega, by omega⟩), ⟨rfl, rfl, rfl, rfl, rfl⟩, fun k hk => absurd hk (Nat.not_lt_zero k), fun k hk => absurd hk (Nat.not_lt_zero k), fun k hk => absurd hk (Nat.not_lt_zero k)⟩
  · -- 12
    have e : A.lv.length = 0 := (nI_z (by omega)).mp c_9
    refine r_aload_n C dX6_pop_12 rfl rfl ?_
    refine r_iconst (v := 1) C dX6_pop_13 (by decide) ?_
    refine cl_RX6_98 C (con_X6_fail l hfl _) dX6_pop_14 rfl ⟨Nat.le_of_ble_eq_true rfl, Nat.le_of_ble_eq_true rfl⟩ (by omega) (Nat.le_of_ble_eq_true rfl) (fun r_14 X_14 h_14 => ?_)
    obtain ⟨rfl, rfl⟩ := h_14
    exact r_iret CE rfl rfl dX6_pop_17 (Nat.le_of_ble_eq_true rfl) ⟨_, rfl, fun _ => ⟨rfl, rfl, hM⟩, fun n x q1 _ => (by omega), Fr.t2 _ _⟩
