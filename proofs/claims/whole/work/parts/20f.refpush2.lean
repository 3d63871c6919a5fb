def PI (X Y : St) (A : DA) (c d : Nat) : Prop := Fr (fun k => k = 37 ∨ (42 ≤ k ∧ k ≤ 47)) X Y ∧ (Zm Y 37 1 = Zm X 37 1 ∧ Zm Y 37 2 = Zm X 37 2 ∧ Zm Y 37 7 = Zm X 37 7 ∧ Zm Y 37 19 = Zm X 37 19 ∧ Zm Y 37 0 = 0) ∧ (Zv Y 42 = upd (Zv X 42) A.lv.length (nI A.R) ∧ Zv Y 43 = upd (Zv X 43) A.lv.length (nI A.C)) ∧ (∀ k, Zv Y 44 k = if 10 * A.lv.length ≤ k ∧ k < 10 * A.lv.length + c then Zv X 38 (k - 10 * A.lv.length) else Zv X 44 k) ∧ (∀ k, Zv Y 45 k = if 10 * A.lv.length ≤ k ∧ k < 10 * A.lv.length + c then Zv X 39 (k - 10 * A.lv.length) else Zv X 45 k) ∧ (∀ k, Zv Y 46 k = if 100 * A.lv.length ≤ k ∧ k < 100 * A.lv.length + d then Zv X 40 (k - 100 * A.lv.length) else Zv X 46 k) ∧ ∀ k, Zv Y 47 k = if 100 * A.lv.length ≤ k ∧ k < 100 * A.lv.length + d then Zv X 41 (k - 100 * A.lv.length) else Zv X 47 k
theorem PI.s1 {X Y : St} {A : DA} {c d : Nat} (h : PI X Y A c d) : PI X (Yv (Yv Y 44 (upd (Zv Y 44) (10 * A.lv.length + c) (Zv X 38 c))) 45 (upd (Zv Y 45) (10 * A.lv.length + c) (Zv X 39 c))) A (c + 1) d :=
  ⟨(h.1.tr (Fr.v _ (Or.inr ⟨by omega, by omega⟩))).tr (Fr.v _ (Or.inr ⟨by omega, by omega⟩)), h.2.1, h.2.2.1, cpy_st h.2.2.2.1, cpy_st h.2.2.2.2.1, h.2.2.2.2.2.1, h.2.2.2.2.2.2⟩
theorem PI.s2 {X Y : St} {A : DA} {c d : Nat} (h : PI X Y A c d) : PI X (Yv (Yv Y 46 (upd (Zv Y 46) (100 * A.lv.length + d) (Zv X 40 d))) 47 (upd (Zv Y 47) (100 * A.lv.length + d) (Zv X 41 d))) A c (d + 1) :=
  ⟨(h.1.tr (Fr.v _ (Or.inr ⟨by omega, by omega⟩))).tr (Fr.v _ (Or.inr ⟨by omega, by omega⟩)), h.2.1, h.2.2.1, h.2.2.2.1, h.2.2.2.2.1, cpy_st h.2.2.2.2.2.1, cpy_st h.2.2.2.2.2.2⟩
theorem z100 (n c : Nat) : (100 : Int32) * nI n + nI c = nI (100 * n + c) := by rw [show (100 : Int32) = nI 100 from rfl, pk_mul, i32_n, i32_n, i32_n, i32_add, Int.natCast_add]
set_option maxHeartbeats 4000000 in
set_option maxRecDepth 100000 in
theorem lp_X6_push2 {l : Launch} {G : Geo} {J : JT} {JX : JXT} {X : St} (hfl : l.stackTraces = false) {A : DA} (hM : MInv X A) (hn8 : A.lv.length < 8) (CE : Cl l RX6 cX6_push 2 (some .int) [] G 1 30 0 (kI (fun r9 X' => (A.lv.length = 8 → r9 = 0 ∧ Zm X' 37 0 = 1 ∧ MInv X' A) ∧ (A.lv.length < 8 → r9 = nI (A.lv.length + 1) ∧ Zm X' 37 0 = 0 ∧ MInv X' (A.lvl (A.lv ++ [(A.ra, A.ca, A.z)]))) ∧ Fr Mp X X')) kF J JX) :
    ∀ n c (Y : St), c + n = 100 → PI X Y A 10 c → J Y 0 102 [(1, .int (nI c)), (0, .ref (G.2.1 37))] [] := by
  have C := CE.b
  intro n
  induction n with
  | zero =>
    intro c Y h hP
    have hc : c = 100 := by omega
    subst hc
    refine r_iload_n C dX6_push_102 rfl rfl ?_
    refine r_bipush (v := 100) C dX6_push_103 (by decide) ?_
    refine r_icmp_ge (tgt := 154) C dX6_push_105 (by decide) (fun c_105 => ?_) (fun c_105 => absurd ((by decide)) c_105)
    refine r_aload_n C dX6_push_154 rfl rfl ?_
    refine r_dup C dX6_push_155 rfl ?_
    refine gf_RX6_182 C dX6_push_156 ?_
    refine r_topi (show _ = nI A.lv.length from hP.2.1.2.2.1.trans hM.n) ?_
    refine r_iconst (v := 1) C dX6_push_159 (by decide) ?_
    refine r_iadd C dX6_push_160 ?_
    refine r_topi (nI_1 _) ?_
    refine pf_RX6_182 C dX6_push_161 ?_
    refine r_aload_n C dX6_push_164 rfl rfl ?_
    refine gf_RX6_182 C dX6_push_165 ?_
    refine r_topi (show _ = nI (A.lv.length + 1) from rfl) ?_
    have hF : Fr Mp X (Ym Y 37 7 (nI (A.lv.length + 1))) := (hP.1.mono (fun k hk => by rcases hk with hk | hk; exact Nat.le_of_eq hk.symm; exact (by omega : 37 ≤ k))).th _ (Nat.le_refl _)
    have hQ : MInv (Ym Y 37 7 (nI (A.lv.length + 1))) (A.lvl (A.lv ++ [(A.ra, A.ca, A.z)])) := hM.push hn8 (hP.1.tr (Fr.m _ (Or.inl rfl))) hP.2.1.1 hP.2.1.2.1 rfl hP.2.1.2.2.2.1 hP.2.2.1.1 hP.2.2.1.2 hP.2.2.2.1 hP.2.2.2.2.1 hP.2.2.2.2.2.1 hP.2.2.2.2.2.2
    exact r_iret CE rfl rfl dX6_push_168 (Nat.le_of_ble_eq_true rfl) ⟨_, rfl, fun q => (by omega), fun _ => ⟨rfl, hP.2.1.2.2.2.2, hQ⟩, hF⟩
  | succ n ih =>
    intro c Y h hP
    have hlt : c < 100 := by omega
    refine r_iload_n C dX6_push_102 rfl rfl ?_
    refine r_bipush (v := 100) C dX6_push_103 (by decide) ?_
    refine r_icmp_ge (tgt := 154) C dX6_push_105 (by decide) (fun c_105 => absurd c_105 ((nI_ge (a := c) (b := 100) (by omega) (by decide)))) (fun c_105 => ?_)
    refine r_aload_n C dX6_push_108 rfl rfl ?_
    refine gf_RX6_35 C dX6_push_109 ?_
    refine r_bipush (v := 100) C dX6_push_112 (by decide) ?_
    refine r_aload_n C dX6_push_114 rfl rfl ?_
    refine gf_RX6_182 C dX6_push_115 ?_
    refine r_topi (show _ = nI A.lv.length from hP.2.1.2.2.1.trans hM.n) ?_
    refine r_imul C dX6_push_118 ?_
    refine r_iload_n C dX6_push_119 rfl rfl ?_
    refine r_iadd C dX6_push_120 ?_
    refine r_aload_n C dX6_push_121 rfl rfl ?_
    refine gf_RX6_16 C dX6_push_122 ?_
    refine r_iload_n C dX6_push_125 rfl rfl ?_
    refine r_zald C (c) (by decide) rfl rfl hlt dX6_push_126 ?_
    refine r_topi (show _ = Zv X 40 c by rw [(hP.1 40 (by omega)).2.1]) ?_
    refine r_zast C (100 * A.lv.length + c) (by decide) rfl (z100 _ _) (by omega) (show vp_nar .boolean (Zv X 40 c) = Zv X 40 c by rw [hM.b.2.2.2.2.1 c hlt]; exact bI_vn _) dX6_push_127 ?_
    refine r_aload_n C dX6_push_128 rfl rfl ?_
    refine gf_RX6_38 C dX6_push_129 ?_
    refine r_bipush (v := 100) C dX6_push_132 (by decide) ?_
    refine r_aload_n C dX6_push_134 rfl rfl ?_
    refine gf_RX6_182 C dX6_push_135 ?_
    refine r_topi (show _ = nI A.lv.length from hP.2.1.2.2.1.trans hM.n) ?_
    refine r_imul C dX6_push_138 ?_
    refine r_iload_n C dX6_push_139 rfl rfl ?_
    refine r_iadd C dX6_push_140 ?_
    refine r_aload_n C dX6_push_141 rfl rfl ?_
    refine gf_RX6_19 C dX6_push_142 ?_
    refine r_iload_n C dX6_push_145 rfl rfl ?_
    refine r_iald C (c) (by decide) rfl rfl hlt dX6_push_146 ?_
    refine r_topi (show _ = Zv X 41 c by show Zv Y 41 c = _; rw [(hP.1 41 (by omega)).2.1]) ?_
    refine r_iast C (100 * A.lv.length + c) (by decide) rfl (z100 _ _) (by omega) dX6_push_147 ?_
    refine r_iinc (v := _) C dX6_push_148 rfl (nI_1 c) ?_
    refine r_goto (tgt := 102) C dX6_push_151 (by decide) ?_
    refine r_sub C (lv' := [(1, .int (nI (c + 1))), (0, .ref (G.2.1 37))]) ⟨rfl, rfl, trivial⟩ ?_
    exact ih (c + 1) _ (by omega) hP.s2

set_option maxHeartbeats 4000000 in
set_option maxRecDepth 100000 in
theorem lp_X6_push1 {l : Launch} {G : Geo} {J : JT} {JX : JXT} {X : St} (hfl : l.stackTraces = false) {A : DA} (hM : MInv X A) (hn8 : A.lv.length < 8) (CE : Cl l RX6 cX6_push 2 (some .int) [] G 1 30 0 (kI (fun r9 X' => (A.lv.length = 8 → r9 = 0 ∧ Zm X' 37 0 = 1 ∧ MInv X' A) ∧ (A.lv.length < 8 → r9 = nI (A.lv.length + 1) ∧ Zm X' 37 0 = 0 ∧ MInv X' (A.lvl (A.lv ++ [(A.ra, A.ca, A.z)]))) ∧ Fr Mp X X')) kF J JX) :
    ∀ n c (Y : St), c + n = 10 → PI X Y A c 0 → J Y 0 48 [(1, .int (nI c)), (0, .ref (G.2.1 37))] [] := by
  have C := CE.b
  intro n
  induction n with
  | zero =>
    intro c Y h hP
    have hc : c = 10 := by omega
    subst hc
    refine r_iload_n C dX6_push_48 rfl rfl ?_
    refine r_bipush (v := 10) C dX6_push_49 (by decide) ?_
    refine r_icmp_ge (tgt := 100) C dX6_push_51 (by decide) (fun c_51 => ?_) (fun c_51 => absurd ((by decide)) c_51)
    refine r_iconst (v := 0) C dX6_push_100 (by decide) ?_
    refine r_istore_n C dX6_push_101 rfl (by decide) ?_
    refine r_sub C (lv' := [(1, .int (nI 0)), (0, .ref (G.2.1 37))]) ⟨rfl, rfl, trivial⟩ ?_
    exact lp_X6_push2 hfl hM hn8 CE 100 0 _ (by omega) hP
  | succ n ih =>
    intro c Y h hP
    have hlt : c < 10 := by omega
    refine r_iload_n C dX6_push_48 rfl rfl ?_
    refine r_bipush (v := 10) C dX6_push_49 (by decide) ?_
    refine r_icmp_ge (tgt := 100) C dX6_push_51 (by decide) (fun c_51 => absurd c_51 ((nI_ge (a := c) (b := 10) (by omega) (by decide)))) (fun c_51 => ?_)
    refine r_aload_n C dX6_push_54 rfl rfl ?_
    refine gf_RX6_29 C dX6_push_55 ?_
    refine r_bipush (v := 10) C dX6_push_58 (by decide) ?_
    refine r_aload_n C dX6_push_60 rfl rfl ?_
    refine gf_RX6_182 C dX6_push_61 ?_
    refine r_topi (show _ = nI A.lv.length from hP.2.1.2.2.1.trans hM.n) ?_
    refine r_imul C dX6_push_64 ?_
    refine r_iload_n C dX6_push_65 rfl rfl ?_
    refine r_iadd C dX6_push_66 ?_
    refine r_aload_n C dX6_push_67 rfl rfl ?_
    refine gf_RX6_9 C dX6_push_68 ?_
    refine r_iload_n C dX6_push_71 rfl rfl ?_
    refine r_zald C (c) (by decide) rfl rfl hlt dX6_push_72 ?_
    refine r_topi (show _ = Zv X 38 c by rw [(hP.1 38 (by omega)).2.1]) ?_
    refine r_zast C (10 * A.lv.length + c) (by decide) rfl (zix' _ _) (by omega) (show vp_nar .boolean (Zv X 38 c) = Zv X 38 c by rw [hM.b.2.2.1 c hlt]; exact bI_vn _) dX6_push_73 ?_
    refine r_aload_n C dX6_push_74 rfl rfl ?_
    refine gf_RX6_32 C dX6_push_75 ?_
    refine r_bipush (v := 10) C dX6_push_78 (by decide) ?_
    refine r_aload_n C dX6_push_80 rfl rfl ?_
    refine gf_RX6_182 C dX6_push_81 ?_
    refine r_topi (show _ = nI A.lv.length from hP.2.1.2.2.1.trans hM.n) ?_
    refine r_imul C dX6_push_84 ?_
    refine r_iload_n C dX6_push_85 rfl rfl ?_
    refine r_iadd C dX6_push_86 ?_
    refine r_aload_n C dX6_push_87 rfl rfl ?_
    refine gf_RX6_13 C dX6_push_88 ?_
    refine r_iload_n C dX6_push_91 rfl rfl ?_
    refine r_zald C (c) (by decide) rfl rfl hlt dX6_push_92 ?_
    refine r_topi (show _ = Zv X 39 c by show Zv Y 39 c = _; rw [(hP.1 39 (by omega)).2.1]) ?_
    refine r_zast C (10 * A.lv.length + c) (by decide) rfl (zix' _ _) (by omega) (show vp_nar .boolean (Zv X 39 c) = Zv X 39 c by rw [hM.b.2.2.2.1 c hlt]; exact bI_vn _) dX6_push_93 ?_
    refine r_iinc (v := _) C dX6_push_94 rfl (nI_1 c) ?_
    refine r_goto (tgt := 48) C dX6_push_97 (by decide) ?_
    refine r_sub C (lv' := [(1, .int (nI (c + 1))), (0, .ref (G.2.1 37))]) ⟨rfl, rfl, trivial⟩ ?_
    exact ih (c + 1) _ (by omega) hP.s1

set_option maxHeartbeats 4000000 in
set_option maxRecDepth 100000 in
/-- X6_push  -/
theorem con_X6_push (l : Launch) (hfl : l.stackTraces = false) {A : DA} (X : St) (hM : MInv X A) : Con l yX6_push cX6_push 2 (some (FieldType.int)) 1 30 0 (fun G => [.ref (G.2.1 37)]) X (kI (fun r9 X' => (A.lv.length = 8 → r9 = 0 ∧ Zm X' 37 0 = 1 ∧ MInv X' A) ∧ (A.lv.length < 8 → r9 = nI (A.lv.length + 1) ∧ Zm X' 37 0 = 0 ∧ MInv X' (A.lvl (A.lv ++ [(A.ra, A.ca, A.z)]))) ∧ Fr Mp X X')) kF := by
  refine con_of (lv := fun G => [(0, .ref (G.2.1 37))]) hfl (by decide +kernel) (fun _ => rfl) (fun _ => Nat.le_of_ble_eq_true rfl) ?_
  intro G J JX CE
  have C := CE.b
  have h8 := hM.ok.n
  refine r_aload_n C dX6_push_0 rfl rfl ?_
  refine r_iconst (v := 0) C dX6_push_1 (by decide) ?_
  refine pf_RX6_77 C dX6_push_2 ?_
  refine r_aload_n C dX6_push_5 rfl rfl ?_
  refine gf_RX6_182 C dX6_push_6 ?_
  refine r_topi (show _ = nI A.lv.length from hM.n) ?_
  refine r_bipush (v := 8) C dX6_push_9 (by decide) ?_
  refine r_icmp_ne (tgt := 20) C dX6_push_11 (by decide) (fun c_11 => ?_) (fun c_11 => ?_)
  · -- 20
    have hn8 : A.lv.length < 8 := by
      have h9 : ¬ A.lv.length = 8 := fun q => c_11 (by rw [q]; rfl)
      omega
    refine r_aload_n C dX6_push_20 rfl rfl ?_
    refine gf_RX6_23 C dX6_push_21 ?_
    refine r_aload_n C dX6_push_24 rfl rfl ?_
    refine gf_RX6_182 C dX6_push_25 ?_
    refine r_topi (show _ = nI A.lv.length from hM.n) ?_
    refine r_aload_n C dX6_push_28 rfl rfl ?_
    refine gf_RX6_81 C dX6_push_29 ?_
    refine r_topi (show _ = nI A.R from hM.b.1) ?_
    refine r_iast C (A.lv.length) (by decide) rfl rfl hn8 dX6_push_32 ?_
    refine r_aload_n C dX6_push_33 rfl rfl ?_
    refine gf_RX6_26 C dX6_push_34 ?_
    refine r_aload_n C dX6_push_37 rfl rfl ?_
    refine gf_RX6_182 C dX6_push_38 ?_
    refine r_topi (show _ = nI A.lv.length from hM.n) ?_
    refine r_aload_n C dX6_push_41 rfl rfl ?_
    refine gf_RX6_84 C dX6_push_42 ?_
    refine r_topi (show _ = nI A.C from hM.b.2.1) ?_
    refine r_iast C (A.lv.length) (by decide) rfl rfl hn8 dX6_push_45 ?_
    refine r_iconst (v := 0) C dX6_push_46 (by decide) ?_
    refine r_istore_n C dX6_push_47 rfl (by decide) ?_
    refine r_sub C (lv' := [(1, .int (nI 0)), (0, .ref (G.2.1 37))]) ⟨rfl, rfl, trivial⟩ ?_
    exact lp_X6_push1 hfl hM hn8 CE 10 0 _ (by omega) ⟨((Fr.m _ (Or.inl rfl)).tr (Fr.v _ (Or.inr ⟨by omega, by omega⟩))).tr (Fr.v _ (Or.inr ⟨by omega, by omega⟩)), ⟨rfl, rfl, rfl, rfl, rfl⟩, ⟨rfl, rfl⟩, cpy_0, cpy_0, cpy_0, cpy_0⟩
  · -- 14
    have e : A.lv.length = 8 := (nI_eq (b := 8) (by omega) (by decide)).mp c_11
    refine r_aload_n C dX6_push_14 rfl rfl ?_
    refine r_iconst (v := 1) C dX6_push_15 (by decide) ?_
    refine cl_RX6_98 C (con_X6_fail l hfl _) dX6_push_16 rfl ⟨Nat.le_of_ble_eq_true rfl, Nat.le_of_ble_eq_true rfl⟩ (by omega) (Nat.le_of_ble_eq_true rfl) (fun r_16 X_16 h_16 => ?_)
    obtain ⟨rfl, rfl⟩ := h_16
    exact r_iret CE rfl rfl dX6_push_19 (Nat.le_of_ble_eq_true rfl) ⟨_, rfl, fun _ => ⟨rfl, rfl, hM⟩, fun q => (by omega), Fr.t2 _ _⟩
