theorem i64_bv (p : Nat) : (i64 (p : Int)).toBitVec = BitVec.ofNat 64 p := rfl
theorem shl4 (p : Nat) : i64 (p : Int) <<< ((4 : Int32).toInt64 &&& 63) = i64 ((16 * p : Nat) : Int) := by
  apply Int64.toBitVec_inj.mp
  rw [Int64.toBitVec_shiftLeft, show (((4 : Int32).toInt64 &&& 63).toBitVec.smod 64) = 4#64 by decide, i64_bv, i64_bv]
  apply BitVec.eq_of_toNat_eq
  rw [BitVec.shiftLeft_eq', BitVec.toNat_shiftLeft, BitVec.toNat_ofNat, BitVec.toNat_ofNat, BitVec.toNat_ofNat, Nat.shiftLeft_eq]
  rw [show (4 % 2 ^ 64 : Nat) = 4 by decide, Nat.mod_mul_mod, Nat.mul_comm]
theorem l10 : ∀ c, c < 10 → (nI c).toInt64 = i64 ((c : Nat) : Int) := by decide +kernel
theorem i64_nadd (p q : Nat) : i64 (p : Int) + i64 (q : Int) = i64 ((p + q : Nat) : Int) := by rw [i64_add, Int.natCast_add]
abbrev fgo (f g : Nat) : Prop := (f = 26 ∧ g = 31) ∨ (f = 31 ∧ g = 26)
theorem fgo.f {f g : Nat} (h : fgo f g) : f = 26 ∨ f = 31 := by rcases h with h | h <;> simp [h]
theorem fgo.g {f g : Nat} (h : fgo f g) : g = 26 ∨ g = 31 := by rcases h with h | h <;> simp [h]
theorem layB1 {f : Nat} (h : f = 26 ∨ f = 31) : lay (f + 1) = (1, 30, []) := by rcases h with rfl | rfl <;> rfl
theorem layB2 {f : Nat} (h : f = 26 ∨ f = 31) : lay (f + 2) = (2, 30, []) := by rcases h with rfl | rfl <;> rfl
theorem layB3 {f : Nat} (h : f = 26 ∨ f = 31) : lay (f + 3) = (1, 30, []) := by rcases h with rfl | rfl <;> rfl
theorem layB4 {f : Nat} (h : f = 26 ∨ f = 31) : lay (f + 4) = (1, 30, []) := by rcases h with rfl | rfl <;> rfl
theorem pw16 {r p : Nat} (hr : r < 10) (h : p < 16 ^ r) : p < 68719476736 := Nat.lt_of_lt_of_le h (Nat.le_trans (Nat.pow_le_pow_right (by decide) (by omega : r ≤ 9)) (by decide))
theorem BH_fr {X Y : St} {P : Nat → Prop} {b : Nat} {L : List BE} (h : BH X b L) (hF : Fr P X Y) (hP : ∀ k, b ≤ k → k ≤ b + 4 → ¬ P k) : BH Y b L := by
  refine ⟨by rw [(hF b (hP b (by omega) (by omega))).1 4]; exact h.1, h.2.1, fun i e he => ⟨?_, (h.2.2 i e he).2⟩⟩
  obtain ⟨h1, h2, h3, h4⟩ := (h.2.2 i e he).1
  exact ⟨by rw [(hF _ (hP _ (by omega) (by omega))).2.1]; exact h1, by rw [(hF _ (hP _ (by omega) (by omega))).2.2.1]; exact h2, by rw [(hF _ (hP _ (by omega) (by omega))).2.1]; exact h3, by rw [(hF _ (hP _ (by omega) (by omega))).2.1]; exact h4⟩
theorem BH_nil {X : St} {b : Nat} : BH (Ym X b 4 0) b [] := ⟨by rw [Zm_Ym, if_pos ⟨rfl, rfl⟩]; rfl, Nat.zero_le _, fun i e h => by cases h⟩
abbrev Qr (k : Nat) : Prop := 25 ≤ k ∧ k ≤ 35
set_option maxHeartbeats 4000000 in
set_option maxRecDepth 100000 in
theorem lp_X2_extend {l : Launch} {G : Geo} {J : JT} {JX : JXT} {X : St} (hfl : l.stackTraces = false) {r i lim ra ca f g : Nat} {z : Nat → Int} {fs : Int} {M : List BE} {e : BE} (hf : Zf X 25 0 = f) (hg : Zf X 25 1 = g) (hfg : fgo f g) (hV : SvR X ra ca z 0) (hfs : Zm X 7 7 = i32 fs) (hfb : bd 100000000 fs) (hB : BH X g M) (hs : Srt M) (hl : M.length ≤ lim) (h0 : 0 < lim) (hl2 : lim ≤ 30) (hr : r < 10) (he : hAt X f i e) (hi : i < 30) (hk : Rk ca r e) (CE : Cl l RX2 cX2_extend 12 none [] G 4 130 0 (kV (fun X' => BH X' g (extC ra ca z lim fs r e M 10) ∧ Fr (fun k => g ≤ k ∧ k ≤ g + 4) X X')) kF J JX) :
    ∀ n c (Y : St), c + n = 10 → BH Y g (extC ra ca z lim fs r e M c) → Fr (fun k => g ≤ k ∧ k ≤ g + 4) X Y → J Y 0 56 [(9, .int (nI c)), (0, .ref (G.2.1 25)), (1, .ref (G.2.1 7)), (2, .int (nI r)), (3, .int (nI i)), (4, .int (nI lim)), (5, .long (i64 ((16 * e.2.1 : Nat) : Int))), (7, .int (i32 e.2.2.1)), (8, .int (nI e.2.2.2))] [] := by
  have C := CE.b
  intro n
  induction n with
  | zero =>
    intro c Y h hB2 hF
    have hc : c = 10 := by omega
    subst hc
    refine r_iload C dX2_extend_56 rfl ?_
    refine r_bipush (v := 10) C dX2_extend_58 (by decide) ?_
    refine r_icmp_ge (tgt := 131) C dX2_extend_60 (by decide) (fun c_60 => ?_) (fun c_60 => absurd ((by decide)) c_60)
    exact r_vret CE rfl dX2_extend_131 (Nat.le_of_ble_eq_true rfl) ⟨rfl, hB2, hF⟩
  | succ n ih =>
    intro c Y h hB2 hF
    have hlt : c < 10 := by omega
    have hb := hfg.g
    have hbf := hfg.f
    have hz := hV.2.2.2.2.2
    obtain ⟨k1, k2, k3, k4⟩ := hk
    have k5 := pw16 hr k1
    have hP : ∀ k, k < 26 → ¬ (g ≤ k ∧ k ≤ g + 4) := fun k hk q => by omega
    have hV2 : SvR Y ra ca z 0 := SvR_fr hV hF (fun k hk => hP k (by omega))
    have hg2 : Zf Y 25 1 = g := by rw [(hF 25 (hP 25 (by decide))).2.2.2 1]; exact hg
    have hfs2 : Zm Y 7 7 = i32 fs := by rw [(hF 7 (hP 7 (by decide))).1 7]; exact hfs
    have hok := extC_ok (ra := ra) (ca := ca) (z := z) (fs := fs) (r := r) (e := e) hs hl c
    have hsc := sc_bd hz hr hlt
    refine r_iload C dX2_extend_56 rfl ?_
    refine r_bipush (v := 10) C dX2_extend_58 (by decide) ?_
    refine r_icmp_ge (tgt := 131) C dX2_extend_60 (by decide) (fun c_60 => absurd c_60 ((nI_ge (a := c) (b := 10) (by omega) (by decide)))) (fun c_60 => ?_)
    refine r_aload_n C dX2_extend_63 rfl rfl ?_
    refine gf_RX2_58 C dX2_extend_64 ?_
    refine r_iload_n C dX2_extend_67 rfl rfl ?_
    refine r_iald C (r) (by decide) rfl rfl (by omega) dX2_extend_68 ?_
    refine r_topi (hV2.2.1 r hr) ?_
    refine r_iload C dX2_extend_69 rfl ?_
    refine r_iand C dX2_extend_71 ?_
    refine r_topi (zand _ _) ?_
    refine r_iload C dX2_extend_72 rfl ?_
    refine cl_RX2_61 C (con_X5_hasBit l hfl _ (S := us ra ca z r &&& e.2.2.2) (Nat.lt_of_le_of_lt Nat.and_le_right (by omega)) (by omega)) dX2_extend_74 rfl ⟨Nat.le_of_ble_eq_true rfl, Nat.le_of_ble_eq_true rfl⟩ (by omega) (Nat.le_of_ble_eq_true rfl) (fun r_74 X_74 h_74 => ?_)
    obtain ⟨rfl, rfl⟩ := h_74
    refine r_if_eq (tgt := 125) C dX2_extend_77 (by decide) (fun c_77 => ?_) (fun c_77 => ?_)
    · -- 125
      have ee : extC ra ca z lim fs r e M (c + 1) = extC ra ca z lim fs r e M c := by rw [extC, if_neg (by rw [bI_0 c_77]; decide)]
      have hB3 : BH Y g (extC ra ca z lim fs r e M (c + 1)) := by rw [ee]; exact hB2
      have hF3 := hF
      refine r_iinc (v := _) C dX2_extend_125 rfl (nI_1 c) ?_
      refine r_goto (tgt := 56) C dX2_extend_128 (by decide) ?_
      refine r_sub C (lv' := [(9, .int (nI (c + 1))), (0, .ref (G.2.1 25)), (1, .ref (G.2.1 7)), (2, .int (nI r)), (3, .int (nI i)), (4, .int (nI lim)), (5, .long (i64 ((16 * e.2.1 : Nat) : Int))), (7, .int (i32 e.2.2.1)), (8, .int (nI e.2.2.2))]) ⟨rfl, rfl, rfl, rfl, rfl, rfl, rfl, rfl, rfl, trivial⟩ ?_
      exact ih (c + 1) _ (by omega) hB3 hF3
    · -- 80
      have ee : extC ra ca z lim fs r e M (c + 1) = offF lim fs (extC ra ca z lim fs r e M c) (cand ra ca z r e c) := by rw [extC, if_pos (bI_1 c_77)]
      have hSb : e.2.2.2.testBit c = true := by
        have h9 := bI_1 c_77
        rw [Nat.testBit_and, Bool.and_eq_true] at h9
        exact h9.2
      refine r_iload C dX2_extend_80 rfl ?_
      refine r_aload_n C dX2_extend_82 rfl rfl ?_
      refine gf_RX2_65 C dX2_extend_83 ?_
      refine r_iload_n C dX2_extend_86 rfl rfl ?_
      refine r_bipush (v := 10) C dX2_extend_87 (by decide) ?_
      refine r_imul C dX2_extend_89 ?_
      refine r_iload C dX2_extend_90 rfl ?_
      refine r_iadd C dX2_extend_92 ?_
      refine r_iald C (10 * r + c) (by decide) rfl (zix r c) (by omega) dX2_extend_93 ?_
      refine r_topi (hV2.2.2.1 r c hr hlt) ?_
      refine r_iadd C dX2_extend_94 ?_
      refine r_topi (i32_add _ _) ?_
      refine r_istore C dX2_extend_95 (by decide) ?_
      refine r_iload C dX2_extend_97 rfl ?_
      refine r_iload C dX2_extend_99 rfl ?_
      refine r_iconst (v := 0) C dX2_extend_101 (by decide) ?_
      refine cl_RX2_68 C (con_withBit0 l hfl _ (by omega)) dX2_extend_102 rfl ⟨Nat.le_of_ble_eq_true rfl, Nat.le_of_ble_eq_true rfl⟩ (by omega) (Nat.le_of_ble_eq_true rfl) (fun r_102 X_102 h_102 => ?_)
      obtain ⟨rfl, rfl⟩ := h_102
      refine r_istore C dX2_extend_105 (by decide) ?_
      refine r_aload_n C dX2_extend_107 rfl rfl ?_
      refine r_aload_n C dX2_extend_108 rfl rfl ?_
      refine r_iload_n C dX2_extend_109 rfl rfl ?_
      refine r_lload C dX2_extend_110 rfl ?_
      refine r_iload C dX2_extend_112 rfl ?_
      refine r_i2l C dX2_extend_114 ?_
      refine r_topl (l10 c hlt) ?_
      refine r_ladd C dX2_extend_115 ?_
      refine r_topl (i64_nadd _ _) ?_
      refine r_iload C dX2_extend_116 rfl ?_
      refine r_iload C dX2_extend_118 rfl ?_
      refine r_iload C dX2_extend_120 rfl ?_
      refine cl_RX2_54 C (con_X2_offerFull l hfl _ (p := 16 * e.2.1 + c) (past := e.2.2.1 + sc z r c) (S := cb e.2.2.2 c) hg2 hb hV2 hfs2 hfb hB2 hok.1 hok.2 h0 hl2 hr (by omega) (by omega) (Nat.lt_of_le_of_lt (cb_le _ _) k3) (cbl_cb hlt k4 hSb)) dX2_extend_122 rfl ⟨Nat.le_of_ble_eq_true rfl, Nat.le_of_ble_eq_true rfl⟩ (by omega) (Nat.le_of_ble_eq_true rfl) (fun X_122 h_122 => ?_)
      obtain ⟨hB9, hF9⟩ := h_122
      have hB3 : BH X_122 g (extC ra ca z lim fs r e M (c + 1)) := by rw [ee]; exact hB9
      have hF3 := hF.tr hF9
      refine r_iinc (v := _) C dX2_extend_125 rfl (nI_1 c) ?_
      refine r_goto (tgt := 56) C dX2_extend_128 (by decide) ?_
      refine r_sub C (lv' := [(9, .int (nI (c + 1))), (0, .ref (G.2.1 25)), (1, .ref (G.2.1 7)), (2, .int (nI r)), (3, .int (nI i)), (4, .int (nI lim)), (5, .long (i64 ((16 * e.2.1 : Nat) : Int))), (7, .int (i32 e.2.2.1)), (8, .int (nI e.2.2.2))]) ⟨rfl, rfl, rfl, rfl, rfl, rfl, rfl, rfl, rfl, trivial⟩ ?_
      exact ih (c + 1) _ (by omega) hB3 hF3

set_option maxHeartbeats 4000000 in
set_option maxRecDepth 100000 in
/-- X2_extend  -/
theorem con_X2_extend (l : Launch) (hfl : l.stackTraces = false) {r i lim ra ca f g : Nat} {z : Nat → Int} {fs : Int} {M : List BE} {e : BE} (X : St) (hf : Zf X 25 0 = f) (hg : Zf X 25 1 = g) (hfg : fgo f g) (hV : SvR X ra ca z 0) (hfs : Zm X 7 7 = i32 fs) (hfb : bd 100000000 fs) (hB : BH X g M) (hs : Srt M) (hl : M.length ≤ lim) (h0 : 0 < lim) (hl2 : lim ≤ 30) (hr : r < 10) (he : hAt X f i e) (hi : i < 30) (hk : Rk ca r e) : Con l yX2_extend cX2_extend 12 none 4 130 0 (fun G => [.ref (G.2.1 25), .ref (G.2.1 7), .int (nI r), .int (nI i), .int (nI lim)]) X (kV (fun X' => BH X' g (extC ra ca z lim fs r e M 10) ∧ Fr (fun k => g ≤ k ∧ k ≤ g + 4) X X')) kF := by
  refine con_of (lv := fun G => [(0, .ref (G.2.1 25)), (1, .ref (G.2.1 7)), (2, .int (nI r)), (3, .int (nI i)), (4, .int (nI lim))]) hfl (by decide +kernel) (fun _ => rfl) (fun _ => Nat.le_of_ble_eq_true rfl) ?_
  intro G J JX CE
  have C := CE.b
  have hk9 := hk
  have hb := hfg.g
  have hbf := hfg.f
  have hz := hV.2.2.2.2.2
  obtain ⟨k1, k2, k3, k4⟩ := hk
  have k5 := pw16 hr k1
  refine r_aload_n C dX2_extend_0 rfl rfl ?_
  refine gf_RX2_12 C dX2_extend_1 ?_
  refine r_topr hf ?_
  refine gf_RX2_41 C hbf dX2_extend_4 ?_
  refine r_iload_n C dX2_extend_7 rfl rfl ?_
  refine r_lald C (i) (by omega) (layB2 hbf) rfl hi dX2_extend_8 ?_
  refine r_topl he.2.1 ?_
  refine r_iconst (v := 4) C dX2_extend_9 (by decide) ?_
  refine r_lshl C dX2_extend_10 ?_
  refine r_topl (shl4 _) ?_
  refine r_lstore C dX2_extend_11 (by decide) ?_
  refine r_aload_n C dX2_extend_13 rfl rfl ?_
  refine gf_RX2_12 C dX2_extend_14 ?_
  refine r_topr hf ?_
  refine gf_RX2_45 C hbf dX2_extend_17 ?_
  refine r_iload_n C dX2_extend_20 rfl rfl ?_
  refine r_iald C (i) (by omega) (layB3 hbf) rfl hi dX2_extend_21 ?_
  refine r_topi he.2.2.1 ?_
  refine r_istore C dX2_extend_22 (by decide) ?_
  refine r_aload_n C dX2_extend_24 rfl rfl ?_
  refine gf_RX2_12 C dX2_extend_25 ?_
  refine r_topr hf ?_
  refine gf_RX2_49 C hbf dX2_extend_28 ?_
  refine r_iload_n C dX2_extend_31 rfl rfl ?_
  refine r_iald C (i) (by omega) (layB4 hbf) rfl hi dX2_extend_32 ?_
  refine r_topi he.2.2.2 ?_
  refine r_istore C dX2_extend_33 (by decide) ?_
  refine r_aload_n C dX2_extend_35 rfl rfl ?_
  refine r_aload_n C dX2_extend_36 rfl rfl ?_
  refine r_iload_n C dX2_extend_37 rfl rfl ?_
  refine r_lload C dX2_extend_38 rfl ?_
  refine r_ldc2 C dX2_extend_40 nk_RX2_52 ?_
  refine r_ladd C dX2_extend_43 ?_
  refine r_topl (i64_nadd (16 * e.2.1) 15) ?_
  refine r_iload C dX2_extend_44 rfl ?_
  refine r_iload C dX2_extend_46 rfl ?_
  refine r_iload C dX2_extend_48 rfl ?_
  refine cl_RX2_54 C (con_X2_offerFull l hfl _ (p := 16 * e.2.1 + 15) (past := e.2.2.1) (S := e.2.2.2) hg hb hV hfs hfb hB hs hl h0 hl2 hr (by omega) (by omega) k3 (cbl_mono k4)) dX2_extend_50 rfl ⟨Nat.le_of_ble_eq_true rfl, Nat.le_of_ble_eq_true rfl⟩ (by omega) (Nat.le_of_ble_eq_true rfl) (fun X_50 h_50 => ?_)
  obtain ⟨hB9, hF9⟩ := h_50
  refine r_iconst (v := 0) C dX2_extend_53 (by decide) ?_
  refine r_istore C dX2_extend_54 (by decide) ?_
  refine r_sub C (lv' := [(9, .int (nI 0)), (0, .ref (G.2.1 25)), (1, .ref (G.2.1 7)), (2, .int (nI r)), (3, .int (nI i)), (4, .int (nI lim)), (5, .long (i64 ((16 * e.2.1 : Nat) : Int))), (7, .int (i32 e.2.2.1)), (8, .int (nI e.2.2.2))]) ⟨rfl, rfl, rfl, rfl, rfl, rfl, rfl, rfl, rfl, trivial⟩ ?_
  exact lp_X2_extend hfl hf hg hfg hV hfs hfb hB hs hl h0 hl2 hr he hi hk9 CE 10 0 _ (by omega) hB9 hF9
set_option maxHeartbeats 4000000 in
set_option maxRecDepth 100000 in
theorem lp_X2_findIn {l : Launch} {G : Geo} {J : JT} {JX : JXT} {X : St} (hfl : l.stackTraces = false) {r : Nat} {L : List BE} {lim ra ca f g : Nat} {z : Nat → Int} {fs : Int} (hfg : fgo f g) (hV : SvR X ra ca z 0) (hfs : Zm X 7 7 = i32 fs) (hfb : bd 100000000 fs) (h0 : 0 < lim) (hl2 : lim ≤ 30) (hr : r < 10) (hL : ∀ x ∈ L, Rk ca r x) (hLl : L.length ≤ 30) (CE : Cl l RX2 cX2_findFirst 5 none [] G 5 180 0 (kV (fun X' => ∃ f g, Zf X' 25 0 = f ∧ Zf X' 25 1 = g ∧ fgo f g ∧ BH X' f (rankB ra ca z lim fs 10) ∧ Fr Qr X X')) kF J JX) :
    (∀ Y : St, Zf Y 25 0 = f → Zf Y 25 1 = g → BH Y f L → BH Y g (stepB ra ca z lim fs r L L.length) → Fr Qr X Y → J Y 0 72 [(4, .int (nI L.length)), (3, .int (nI r)), (0, .ref (G.2.1 25)), (1, .ref (G.2.1 7)), (2, .int (nI lim))] []) → ∀ n i (Y : St), i + n = L.length → Zf Y 25 0 = f → Zf Y 25 1 = g → BH Y f L → BH Y g (stepB ra ca z lim fs r L i) → Fr Qr X Y → J Y 0 45 [(4, .int (nI i)), (3, .int (nI r)), (0, .ref (G.2.1 25)), (1, .ref (G.2.1 7)), (2, .int (nI lim))] [] := by
  have C := CE.b
  intro hkk
  intro n
  induction n with
  | zero =>
    intro i Y h hf hg hBf hBg hF
    have hc : i = L.length := by omega
    subst hc
    have hbf := hfg.f
    refine r_iload C dX2_findFirst_45 rfl ?_
    refine r_aload_n C dX2_findFirst_47 rfl rfl ?_
    refine gf_RX2_12 C dX2_findFirst_48 ?_
    refine r_topr hf ?_
    refine gf_RX2_21 C hbf dX2_findFirst_51 ?_
    refine r_topi hBf.1 ?_
    refine r_icmp_ge (tgt := 72) C dX2_findFirst_54 (by decide) (fun c_54 => ?_) (fun c_54 => absurd ((Int32.le_refl _)) c_54)
    exact hkk Y hf hg hBf hBg hF
  | succ n ih =>
    intro i Y h hf hg hBf hBg hF
    have hlt : i < L.length := by omega
    have hb := hfg.g
    have hbf := hfg.f
    have hz := hV.2.2.2.2.2
    have hV2 : SvR Y ra ca z 0 := SvR_fr hV hF (fun k hk q => by omega)
    have hfs2 : Zm Y 7 7 = i32 fs := by rw [(hF 7 (by omega)).1 7]; exact hfs
    obtain ⟨e, he⟩ : ∃ e : BE, L[i]? = some e := ⟨L[i]'hlt, List.getElem?_eq_getElem hlt⟩
    have hst := stepB_ok (ra := ra) (ca := ca) (z := z) (lim := lim) (fs := fs) hz hr hL i
    have hEq : stepB ra ca z lim fs r L (i + 1) = extC ra ca z lim fs r e (stepB ra ca z lim fs r L i) 10 := by rw [stepB, he]
    refine r_iload C dX2_findFirst_45 rfl ?_
    refine r_aload_n C dX2_findFirst_47 rfl rfl ?_
    refine gf_RX2_12 C dX2_findFirst_48 ?_
    refine r_topr hf ?_
    refine gf_RX2_21 C hbf dX2_findFirst_51 ?_
    refine r_topi hBf.1 ?_
    refine r_icmp_ge (tgt := 72) C dX2_findFirst_54 (by decide) (fun c_54 => absurd c_54 ((nI_ge (a := i) (b := L.length) hlt (by omega)))) (fun c_54 => ?_)
    refine r_aload_n C dX2_findFirst_57 rfl rfl ?_
    refine r_aload_n C dX2_findFirst_58 rfl rfl ?_
    refine r_iload_n C dX2_findFirst_59 rfl rfl ?_
    refine r_iload C dX2_findFirst_60 rfl ?_
    refine r_iload_n C dX2_findFirst_62 rfl rfl ?_
    refine cl_RX2_37 C (con_X2_extend l hfl _ (e := e) hf hg hfg hV2 hfs2 hfb hBg hst.1 hst.2.1 h0 hl2 hr (hBf.2.2 i e he).1 (by omega) (hL e (List.mem_of_getElem? he))) dX2_findFirst_63 rfl ⟨Nat.le_of_ble_eq_true rfl, Nat.le_of_ble_eq_true rfl⟩ (by omega) (Nat.le_of_ble_eq_true rfl) (fun X_63 h_63 => ?_)
    obtain ⟨hB9, hF9⟩ := h_63
    have hF8 : Fr Qr Y X_63 := hF9.mono (fun k hk => ⟨by omega, by omega⟩)
    refine r_iinc (v := _) C dX2_findFirst_66 rfl (nI_1 i) ?_
    refine r_goto (tgt := 45) C dX2_findFirst_69 (by decide) ?_
    refine r_sub C (lv' := [(4, .int (nI (i + 1))), (3, .int (nI r)), (0, .ref (G.2.1 25)), (1, .ref (G.2.1 7)), (2, .int (nI lim))]) ⟨rfl, rfl, rfl, rfl, rfl, trivial⟩ ?_
    exact ih (i + 1) _ (by omega) (by rw [(hF9 25 (by omega)).2.2.2 0]; exact hf) (by rw [(hF9 25 (by omega)).2.2.2 1]; exact hg) (BH_fr hBf hF9 (fun k h1 h2 q => by rcases hfg with h9 | h9 <;> omega)) (by rw [hEq]; exact hB9) (hF.tr hF8)

set_option maxHeartbeats 4000000 in
set_option maxRecDepth 100000 in
theorem lp_X2_findFirst {l : Launch} {G : Geo} {J : JT} {JX : JXT} {X : St} (hfl : l.stackTraces = false) {lim ra ca : Nat} {z : Nat → Int} {fs : Int} (hV : SvR X ra ca z 0) (hfs : Zm X 7 7 = i32 fs) (hfb : bd 100000000 fs) (h0 : 0 < lim) (hl2 : lim ≤ 30) (CE : Cl l RX2 cX2_findFirst 5 none [] G 5 180 0 (kV (fun X' => ∃ f g, Zf X' 25 0 = f ∧ Zf X' 25 1 = g ∧ fgo f g ∧ BH X' f (rankB ra ca z lim fs 10) ∧ Fr Qr X X')) kF J JX) :
    ∀ n r (Y : St) f g, r + n = 10 → fgo f g → Zf Y 25 0 = f → Zf Y 25 1 = g → BH Y f (rankB ra ca z lim fs r) → Fr Qr X Y → J Y 0 28 [(3, .int (nI r)), (0, .ref (G.2.1 25)), (1, .ref (G.2.1 7)), (2, .int (nI lim))] [] := by
  have C := CE.b
  intro n
  induction n with
  | zero =>
    intro r Y f g h hfg hf hg hBf hF
    have hc : r = 10 := by omega
    subst hc
    refine r_iload_n C dX2_findFirst_28 rfl rfl ?_
    refine r_bipush (v := 10) C dX2_findFirst_29 (by decide) ?_
    refine r_icmp_ge (tgt := 98) C dX2_findFirst_31 (by decide) (fun c_31 => ?_) (fun c_31 => absurd ((by decide)) c_31)
    exact r_vret CE rfl dX2_findFirst_98 (Nat.le_of_ble_eq_true rfl) ⟨rfl, f, g, hf, hg, hfg, hBf, hF⟩
  | succ n ih =>
    intro r Y f g h hfg hf hg hBf hF
    have hr : r < 10 := by omega
    have hrk := rankB_ok (ra := ra) (fs := fs) hV.2.2.2.2.2 h0 hV.2.2.2.2.1 r (by omega)
    have hb := hfg.g
    have hbf := hfg.f
    have hz := hV.2.2.2.2.2
    have hV2 : SvR Y ra ca z 0 := SvR_fr hV hF (fun k hk q => by omega)
    have hfs2 : Zm Y 7 7 = i32 fs := by rw [(hF 7 (by omega)).1 7]; exact hfs
    refine r_iload_n C dX2_findFirst_28 rfl rfl ?_
    refine r_bipush (v := 10) C dX2_findFirst_29 (by decide) ?_
    refine r_icmp_ge (tgt := 98) C dX2_findFirst_31 (by decide) (fun c_31 => absurd c_31 ((nI_ge (a := r) (b := 10) (by omega) (by decide)))) (fun c_31 => ?_)
    refine r_aload_n C dX2_findFirst_34 rfl rfl ?_
    refine gf_RX2_18 C dX2_findFirst_35 ?_
    refine r_topr hg ?_
    refine r_iconst (v := 0) C dX2_findFirst_38 (by decide) ?_
    refine pf_RX2_21 C hb dX2_findFirst_39 ?_
    refine r_iconst (v := 0) C dX2_findFirst_42 (by decide) ?_
    refine r_istore C dX2_findFirst_43 (by decide) ?_
    refine r_sub C (lv' := [(4, .int (nI 0)), (3, .int (nI r)), (0, .ref (G.2.1 25)), (1, .ref (G.2.1 7)), (2, .int (nI lim))]) ⟨rfl, rfl, rfl, rfl, rfl, trivial⟩ ?_
    refine lp_X2_findIn hfl hfg hV hfs hfb h0 hl2 hr hrk.2.2 (by omega) CE ?_ (rankB ra ca z lim fs r).length 0 _ (by omega) hf hg (BH_fr hBf (P := fun k => k = g) (fun k hk => ⟨fun j => by rw [Zm_Ym, if_neg (fun q => hk q.1)], rfl, rfl, fun _ => rfl⟩) (fun k h1 h2 q => by rcases hfg with h9 | h9 <;> omega)) BH_nil (hF.tr (Fr.m _ ⟨by omega, by omega⟩))
    intro Y hf hg hBf hBg hF
    refine r_aload_n C dX2_findFirst_72 rfl rfl ?_
    refine gf_RX2_12 C dX2_findFirst_73 ?_
    refine r_topr hf ?_
    refine r_astore C dX2_findFirst_76 (by decide) ?_
    refine r_aload_n C dX2_findFirst_78 rfl rfl ?_
    refine r_aload_n C dX2_findFirst_79 rfl rfl ?_
    refine gf_RX2_18 C dX2_findFirst_80 ?_
    refine r_topr (show Zf Y 25 1 = g from hg) ?_
    refine pf_RX2_12 C dX2_findFirst_83 ?_
    refine r_aload_n C dX2_findFirst_86 rfl rfl ?_
    refine r_aload C dX2_findFirst_87 rfl ?_
    refine pf_RX2_18 C dX2_findFirst_89 ?_
    refine r_iinc (v := _) C dX2_findFirst_92 rfl (nI_1 r) ?_
    refine r_goto (tgt := 28) C dX2_findFirst_95 (by decide) ?_
    refine r_sub C (lv' := [(3, .int (nI (r + 1))), (0, .ref (G.2.1 25)), (1, .ref (G.2.1 7)), (2, .int (nI lim))]) ⟨rfl, rfl, rfl, rfl, trivial⟩ ?_
    refine ih (r + 1) _ g f (by omega) (hfg.elim (fun h9 => Or.inr ⟨h9.2, h9.1⟩) (fun h9 => Or.inl ⟨h9.2, h9.1⟩)) ?_ ?_ ?_ ((hF.tr (Fr.f _ ⟨by decide, by decide⟩)).tr (Fr.f _ ⟨by decide, by decide⟩))
    · rw [Zf_Yf, if_neg (by decide), Zf_Yf, if_pos ⟨rfl, rfl⟩]
    · rw [Zf_Yf, if_pos ⟨rfl, rfl⟩]
    · exact hBg

set_option maxHeartbeats 4000000 in
set_option maxRecDepth 100000 in
/-- X2_findFirst  -/
theorem con_X2_findFirst (l : Launch) (hfl : l.stackTraces = false) {lim ra ca f g : Nat} {z : Nat → Int} {fs : Int} (X : St) (hf : Zf X 25 0 = f) (hg : Zf X 25 1 = g) (hfg0 : fgo f g) (hV : SvR X ra ca z 0) (hfs : Zm X 7 7 = i32 fs) (hfb : bd 100000000 fs) (h0 : 0 < lim) (hl2 : lim ≤ 30) : Con l yX2_findFirst cX2_findFirst 5 none 5 180 0 (fun G => [.ref (G.2.1 25), .ref (G.2.1 7), .int (nI lim)]) X (kV (fun X' => ∃ f g, Zf X' 25 0 = f ∧ Zf X' 25 1 = g ∧ fgo f g ∧ BH X' f (rankB ra ca z lim fs 10) ∧ Fr Qr X X')) kF := by
  refine con_of (lv := fun G => [(0, .ref (G.2.1 25)), (1, .ref (G.2.1 7)), (2, .int (nI lim))]) hfl (by decide +kernel) (fun _ => rfl) (fun _ => Nat.le_of_ble_eq_true rfl) ?_
  intro G J JX CE
  have C := CE.b
  have hbf := hfg0.f
  have hF0 : Fr Qr X (Ym X f 4 0) := Fr.m _ ⟨by omega, by omega⟩
  have hf2 : Zf (Ym X f 4 0) 25 0 = f := hf
  have hl1 : offL lim [] (fs, 0, 0, ca) = [(fs, 0, 0, ca)] := by
    obtain ⟨k, rfl⟩ : ∃ k, lim = k + 1 := ⟨lim - 1, by omega⟩
    simp [offL]
  refine r_aload_n C dX2_findFirst_0 rfl rfl ?_
  refine gf_RX2_12 C dX2_findFirst_1 ?_
  refine r_topr hf ?_
  refine r_iconst (v := 0) C dX2_findFirst_4 (by decide) ?_
  refine pf_RX2_21 C hbf dX2_findFirst_5 ?_
  refine r_aload_n C dX2_findFirst_8 rfl rfl ?_
  refine gf_RX2_12 C dX2_findFirst_9 ?_
  refine r_topr hf2 ?_
  refine r_aload_n C dX2_findFirst_12 rfl rfl ?_
  refine gf_RX2_25 C dX2_findFirst_13 ?_
  refine r_topi (show _ = i32 fs by rw [(hF0 7 (by omega)).1 7]; exact hfs) ?_
  refine r_lconst (v := 0) C dX2_findFirst_16 (by decide) ?_
  refine r_topl (show _ = i64 ((0 : Nat) : Int) from rfl) ?_
  refine r_iconst (v := 0) C dX2_findFirst_17 (by decide) ?_
  refine r_topi (show _ = i32 0 from rfl) ?_
  refine r_aload_n C dX2_findFirst_18 rfl rfl ?_
  refine gf_RX2_30 C dX2_findFirst_19 ?_
  refine r_topi (show _ = nI ca by rw [(hF0 7 (by omega)).1 2]; exact hV.1) ?_
  refine r_iload_n C dX2_findFirst_22 rfl rfl ?_
  refine cl_RX2_33 C hbf (con_X0_offer l hfl _ hbf (e := (fs, 0, 0, ca)) BH_nil List.Pairwise.nil (Nat.zero_le _) h0 hl2 ⟨by show bd _ fs; omega, by show (0 : Nat) < 1125899906842624; decide, by show bd _ (0 : Int); omega, hV.2.2.2.2.1⟩) dX2_findFirst_23 rfl ⟨Nat.le_of_ble_eq_true rfl, Nat.le_of_ble_eq_true rfl⟩ (by omega) (Nat.le_of_ble_eq_true rfl) (fun X_23 h_23 => ?_)
  obtain ⟨hB9, hF9⟩ := h_23
  rw [hl1] at hB9
  have hF8 : Fr Qr (Ym X f 4 0) X_23 := hF9.mono (fun k hk => ⟨by omega, by omega⟩)
  refine r_iconst (v := 0) C dX2_findFirst_26 (by decide) ?_
  refine r_istore_n C dX2_findFirst_27 rfl (by decide) ?_
  refine r_sub C (lv' := [(3, .int (nI 0)), (0, .ref (G.2.1 25)), (1, .ref (G.2.1 7)), (2, .int (nI lim))]) ⟨rfl, rfl, rfl, rfl, trivial⟩ ?_
  exact lp_X2_findFirst hfl hV hfs hfb h0 hl2 CE 10 0 _ f g (by omega) hfg0 (by rw [(hF9 25 (by omega)).2.2.2 0]; exact hf) (by rw [(hF9 25 (by omega)).2.2.2 1]; exact hg) hB9 (hF0.tr hF8)
