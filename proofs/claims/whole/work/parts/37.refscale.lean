theorem stok_ext {z : Nat → Int} {c R : Nat} {sf : Bool} {nf : Nat} (h : ∀ r, R ≤ r → r < 10 → z (10 * r + c) = 20000) : ∀ n, n ≤ 10 → R ≤ n → stok z c sf nf n = stok z c sf nf R
  | 0, _, h2 => by rw [show R = 0 by omega]
  | n + 1, h1, h2 => by
    rcases Nat.lt_or_ge n R with g | g
    · rw [show R = n + 1 by omega]
    · rw [stok, stok_ext h n (by omega) g, decide_eq_true (h n g (by omega)), Bool.true_or, Bool.and_true]
theorem chg_ext {z : Nat → Int} {c R : Nat} {sf : Bool} {nf : Nat} (h : ∀ r, R ≤ r → r < 10 → z (10 * r + c) = 20000) : ∀ n, n ≤ 10 → R ≤ n → chg z c sf nf n = chg z c sf nf R
  | 0, _, h2 => by rw [show R = 0 by omega]
  | n + 1, h1, h2 => by
    rcases Nat.lt_or_ge n R with g | g
    · rw [show R = n + 1 by omega]
    · rw [chg, if_pos (Or.inl (h n g (by omega))), chg_ext h n (by omega) g]
theorem al_stz {z : Nat → Int} {c k : Nat} {sf : Bool} {nf : Nat} (hs : stok z c sf nf 10 = true) (hk : k < 100) : al (stz z c sf nf) k = al z k := by
  unfold al stz
  split
  · rename_i g
    rcases stok_at 10 hs (k / 10) (by omega) with e | e
    · rw [show 10 * (k / 10) + c = k by omega] at e
      exact absurd e g.2
    · rw [show 10 * (k / 10) + c = k by omega] at e
      have := inC_i e
      rw [decide_eq_false (by omega), decide_eq_false g.2]
  · rfl
theorem d2l_stv {sf : Bool} {nf : Nat} {v : Int} {r : UInt64} (hv : zok v) (hn : nf ≤ 800) (h : Pd 0 (decide (v < 0) != sf) (n8 (v.natAbs * nf)) r) : FP.d2l r = i64 (stv sf nf v) := by
  have h1 := cell_le hv hn
  have h2 := n8_le (v.natAbs * nf)
  rw [Pd_d2l h (by omega), Nat.pow_zero, Nat.div_one]
  rfl
theorem d2i_stv {sf : Bool} {nf : Nat} {v : Int} {r : UInt64} (hv : zok v) (hn : nf ≤ 800) (h : Pd 0 (decide (v < 0) != sf) (n8 (v.natAbs * nf)) r) : FP.d2i r = i32 (stv sf nf v) := by
  have h1 := cell_le hv hn
  have h2 := n8_le (v.natAbs * nf)
  rw [Pd_d2i h (by omega), Nat.pow_zero, Nat.div_one]
  rfl
/-- the first r rows' costs are stretched -/
def SQ (X Y : St) (z : Nat → Int) (c : Nat) (sf : Bool) (nf r : Nat) : Prop := Fr (fun k => k = 41) X Y ∧ ∀ k, k < 100 → al z k = true → Zv Y 41 k = if k % 10 = c ∧ k / 10 < r then i32 (stz z c sf nf k) else i32 (z k)
theorem SQ.at {X Y : St} {z : Nat → Int} {c : Nat} {sf : Bool} {nf r : Nat} (h : SQ X Y z c sf nf r) (hr : r < 10) (hc : c < 10) (ha : al z (10 * r + c) = true) : Zv Y 41 (10 * r + c) = i32 (z (10 * r + c)) := by
  rw [h.2 _ (by omega) ha, if_neg (by omega)]
theorem SQ.no {X Y : St} {z : Nat → Int} {c : Nat} {sf : Bool} {nf r : Nat} (h : SQ X Y z c sf nf r) (hr : r < 10) (hc : c < 10) (ha : al z (10 * r + c) = false) : SQ X Y z c sf nf (r + 1) := by
  refine ⟨h.1, fun k hk hal => ?_⟩
  rw [h.2 k hk hal]
  have hne : k ≠ 10 * r + c := fun q => by rw [q, ha] at hal; cases hal
  by_cases g : k % 10 = c ∧ k / 10 < r
  · rw [if_pos g, if_pos (by omega)]
  · rw [if_neg g, if_neg (by omega)]
theorem SQ.put {X Y : St} {z : Nat → Int} {c : Nat} {sf : Bool} {nf r : Nat} {v : Int32} (h : SQ X Y z c sf nf r) (hr : r < 10) (hc : c < 10) (ha : al z (10 * r + c) = true) (hv : v = i32 (stv sf nf (z (10 * r + c)))) : SQ X (Yv Y 41 (upd (Zv Y 41) (10 * r + c) v)) z c sf nf (r + 1) := by
  refine ⟨h.1.tr (Fr.v _ rfl), fun k hk hal => ?_⟩
  show (if k = 10 * r + c then v else Zv Y 41 k) = _
  by_cases e : k = 10 * r + c
  · rw [if_pos e, if_pos (by omega), stz, if_pos ⟨by omega, by rw [e]; exact al_i.mp ha⟩, hv, e]
  · rw [if_neg e, h.2 k hk hal]
    by_cases g : k % 10 = c ∧ k / 10 < r
    · rw [if_pos g, if_pos (by omega)]
    · rw [if_neg g, if_neg (by omega)]
set_option maxHeartbeats 4000000 in
set_option maxRecDepth 100000 in
theorem lp_X6_scaleColumn_b {l : Launch} {G : Geo} {J : JT} {JX : JXT} {X : St} (hfl : l.stackTraces = false) {A : DA} {sf : Bool} {nf : Nat} {f : UInt64} {c : Nat} (hM : MInv X A) (hf : Pd 3 sf nf f) (hn : nf ≤ 800) (hcc : c < A.C) (hs : stok A.z c sf nf 10 = true) (CE : Cl l RX6 cX6_scaleColumn 7 (some .int) [] G 5 1160 0 (kI (fun r9 X' => (inI (nI c) A.C = false → r9 = 0 ∧ Zm X' 37 0 = 1 ∧ MInv X' A) ∧ (inI (nI c) A.C = true → ¬ nf ≤ 800 → r9 = 0 ∧ Zm X' 37 0 = 2 ∧ MInv X' A) ∧ (∀ q, q < A.C → (nI c) = nI q → nf ≤ 800 → (stok A.z q sf nf 10 = false → r9 = 0 ∧ Zm X' 37 0 = 3 ∧ MInv X' A) ∧ (stok A.z q sf nf 10 = true → r9 = nI (chg A.z q sf nf 10) ∧ Zm X' 37 0 = 0 ∧ MInv X' (A.tab A.R A.C A.ra A.ca (stz A.z q sf nf)))) ∧ Fr Mp X X')) kF J JX) :
    ∀ n r (Y : St), r + n = A.R → SQ (Ym X 37 0 0) Y A.z c sf nf r → J Y 0 111 [(4, .int (nI (chg A.z c sf nf r))), (5, .int (nI r)), (0, .ref (G.2.1 37)), (1, .int (nI c)), (2, .double f)] [] := by
  have C := CE.b
  intro n
  induction n with
  | zero =>
    intro r Y h hY
    have hR10 := hM.ok.R
    have hC10 := hM.ok.C
    have er : inI (nI c) A.C = true := by rw [inI_n (by omega), decide_eq_true hcc]
    have hz20 : ∀ r, A.R ≤ r → r < 10 → A.z (10 * r + c) = 20000 := fun r h1 h2 => hM.ok.t.2.2.2 _ (by omega) (Or.inl (by omega))
    have e0 : r = A.R := by omega
    subst e0
    refine r_iload C dX6_scaleColumn_111 rfl ?_
    refine r_aload_n C dX6_scaleColumn_113 rfl rfl ?_
    refine gf_RX6_81 C dX6_scaleColumn_114 ?_
    refine r_topi (show _ = nI A.R by rw [(hY.1 37 (by decide)).1 1]; exact hM.b.1) ?_
    refine r_icmp_ge (tgt := 206) C dX6_scaleColumn_117 (by decide) (fun c_117 => ?_) (fun c_117 => absurd ((Int32.le_refl _)) c_117)
    refine r_iload C dX6_scaleColumn_206 rfl ?_
    exact r_iret CE rfl rfl dX6_scaleColumn_208 (Nat.le_of_ble_eq_true rfl) ⟨_, rfl, fun q => (by rw [er] at q; cases q), fun _ q => absurd hn q, fun q hq e8 _ => (by
      rw [← (nI_eq (by omega) (by omega)).mp e8]
      refine ⟨fun q => (by rw [hs] at q; cases q), fun _ => ⟨by rw [chg_ext hz20 10 (by omega) hR10], (hY.1 37 (by decide)).1 0, ?_⟩⟩
      refine hM.tab (((Fr.m (X := X) (P := fun k => 37 ≤ k ∧ k ≤ 41) 0 ⟨by decide, by decide⟩)).tr (hY.1.mono (fun k q => by have q : k = 41 := q; omega))) ((hY.1 37 (by decide)).1 7) ((hY.1 37 (by decide)).1 19) ⟨((hY.1 37 (by decide)).1 1).trans hM.b.1, ((hY.1 37 (by decide)).1 2).trans hM.b.2.1, ?_, ?_, fun k hk => ?_, fun k hk hal => ?_⟩ (hM.ok.tb (stz_tok hM.ok.t hs))
      · rw [(hY.1 38 (by decide)).2.1]; exact hM.b.2.2.1
      · rw [(hY.1 39 (by decide)).2.1]; exact hM.b.2.2.2.1
      · rw [(hY.1 40 (by decide)).2.1, al_stz hs hk]; exact hM.b.2.2.2.2.1 k hk
      · rw [al_stz hs hk] at hal
        rw [hY.2 k hk hal]
        by_cases g : k % 10 = c ∧ k / 10 < A.R
        · rw [if_pos g]
        · rw [if_neg g, stz, if_neg (fun q => al_i.mp hal (hM.ok.t.2.2.2 k hk (Or.inl (Nat.not_lt.mp (fun q2 => g ⟨q.1, q2⟩)))))]), (Fr.t1 0).tr (hY.1.mono (fun k q => by have q : k = 41 := q; show 37 ≤ k; omega))⟩
  | succ n ih =>
    intro r Y h hY
    have hr : r < A.R := by omega
    have hR10 := hM.ok.R
    have hC10 := hM.ok.C
    have er : inI (nI c) A.C = true := by rw [inI_n (by omega), decide_eq_true hcc]
    have hz20 : ∀ r, A.R ≤ r → r < 10 → A.z (10 * r + c) = 20000 := fun r h1 h2 => hM.ok.t.2.2.2 _ (by omega) (Or.inl (by omega))
    have hzc := hM.ok.t.2.2.1 (10 * r + c) (by omega)
    have hm := Pd_cell hzc hf hn
    have hb := stv_bd (sf := sf) hzc hn
    refine r_iload C dX6_scaleColumn_111 rfl ?_
    refine r_aload_n C dX6_scaleColumn_113 rfl rfl ?_
    refine gf_RX6_81 C dX6_scaleColumn_114 ?_
    refine r_topi (show _ = nI A.R by rw [(hY.1 37 (by decide)).1 1]; exact hM.b.1) ?_
    refine r_icmp_ge (tgt := 206) C dX6_scaleColumn_117 (by decide) (fun c_117 => absurd c_117 ((nI_ge (a := r) (b := A.R) hr (by omega)))) (fun c_117 => ?_)
    refine r_aload_n C dX6_scaleColumn_120 rfl rfl ?_
    refine gf_RX6_16 C dX6_scaleColumn_121 ?_
    refine r_bipush (v := 10) C dX6_scaleColumn_124 (by decide) ?_
    refine r_iload C dX6_scaleColumn_126 rfl ?_
    refine r_imul C dX6_scaleColumn_128 ?_
    refine r_iload_n C dX6_scaleColumn_129 rfl rfl ?_
    refine r_iadd C dX6_scaleColumn_130 ?_
    refine r_zald C (10 * r + c) (by decide) rfl (zix' r c) (by omega) dX6_scaleColumn_131 ?_
    refine r_topi (show _ = bI (al A.z (10 * r + c)) by rw [(hY.1 40 (by decide)).2.1]; exact hM.b.2.2.2.2.1 _ (by omega)) ?_
    refine r_if_ne (tgt := 138) C dX6_scaleColumn_132 (by decide) (fun c_132 => ?_) (fun c_132 => ?_)
    · -- 138
      have ha := bI_1 c_132
      refine r_aload_n C dX6_scaleColumn_138 rfl rfl ?_
      refine gf_RX6_19 C dX6_scaleColumn_139 ?_
      refine r_bipush (v := 10) C dX6_scaleColumn_142 (by decide) ?_
      refine r_iload C dX6_scaleColumn_144 rfl ?_
      refine r_imul C dX6_scaleColumn_146 ?_
      refine r_iload_n C dX6_scaleColumn_147 rfl rfl ?_
      refine r_iadd C dX6_scaleColumn_148 ?_
      refine r_iald C (10 * r + c) (by decide) rfl (zix' r c) (by omega) dX6_scaleColumn_149 ?_
      refine r_topi (hY.at (by omega) (by omega) ha) ?_
      refine r_i2d C dX6_scaleColumn_150 ?_
      refine r_dload_n C dX6_scaleColumn_151 rfl rfl ?_
      refine r_dmul C dX6_scaleColumn_152 (Pd_n64 hm) ?_
      refine r_rint hfl C hm (cell_le hzc hn) (by omega) (by decide) (by decide) (by decide) dX6_scaleColumn_153 (fun r153 p153 => ?_)
      refine r_d2i C dX6_scaleColumn_156 ?_
      refine r_topi (d2i_stv hzc hn p153) ?_
      refine r_istore C dX6_scaleColumn_157 (by decide) ?_
      refine r_iload C dX6_scaleColumn_159 rfl ?_
      refine r_iload C dX6_scaleColumn_161 rfl ?_
      refine r_aload_n C dX6_scaleColumn_163 rfl rfl ?_
      refine gf_RX6_19 C dX6_scaleColumn_164 ?_
      refine r_bipush (v := 10) C dX6_scaleColumn_167 (by decide) ?_
      refine r_iload C dX6_scaleColumn_169 rfl ?_
      refine r_imul C dX6_scaleColumn_171 ?_
      refine r_iload_n C dX6_scaleColumn_172 rfl rfl ?_
      refine r_iadd C dX6_scaleColumn_173 ?_
      refine r_iald C (10 * r + c) (by decide) rfl (zix' r c) (by omega) dX6_scaleColumn_174 ?_
      refine r_topi (hY.at (by omega) (by omega) ha) ?_
      refine r_icmp_ne (tgt := 182) C dX6_scaleColumn_175 (by decide) (fun c_175 => ?_) (fun c_175 => ?_)
      · -- 182
        have e5 : ¬ stv sf nf (A.z (10 * r + c)) = A.z (10 * r + c) := fun q => c_175 (by rw [q])
        have ec : chg A.z c sf nf (r + 1) = chg A.z c sf nf r + 1 := by rw [chg, if_neg (fun q => q.elim (al_i.mp ha) e5)]
        refine r_iconst (v := 1) C dX6_scaleColumn_182 (by decide) ?_
        refine r_iadd C dX6_scaleColumn_183 ?_
        refine r_topi (show _ = nI (chg A.z c sf nf (r + 1)) by first | (rw [ec]; exact nI_1 _) | (rw [ec]; exact Int32.add_zero _)) ?_
        refine r_istore C dX6_scaleColumn_184 (by decide) ?_
        refine r_aload_n C dX6_scaleColumn_186 rfl rfl ?_
        refine gf_RX6_19 C dX6_scaleColumn_187 ?_
        refine r_bipush (v := 10) C dX6_scaleColumn_190 (by decide) ?_
        refine r_iload C dX6_scaleColumn_192 rfl ?_
        refine r_imul C dX6_scaleColumn_194 ?_
        refine r_iload_n C dX6_scaleColumn_195 rfl rfl ?_
        refine r_iadd C dX6_scaleColumn_196 ?_
        refine r_iload C dX6_scaleColumn_197 rfl ?_
        refine r_iast C (10 * r + c) (by decide) rfl (zix' r c) (by omega) dX6_scaleColumn_199 ?_
        have hY9 := hY.put (by omega) (by omega) ha (v := i32 (stv sf nf (A.z (10 * r + c)))) rfl
        refine r_iinc (v := _) C dX6_scaleColumn_200 rfl (nI_1 r) ?_
        refine r_goto (tgt := 111) C dX6_scaleColumn_203 (by decide) ?_
        refine r_sub C (lv' := [(4, .int (nI (chg A.z c sf nf (r + 1)))), (5, .int (nI (r + 1))), (0, .ref (G.2.1 37)), (1, .int (nI c)), (2, .double f)]) ⟨by first | rfl | (rw [ec]; rfl), rfl, rfl, rfl, rfl, trivial⟩ ?_
        exact ih (r + 1) _ (by omega) hY9
      · -- 178
        have e5 := (i32_eq (by omega) (by omega)).mp c_175
        have ec : chg A.z c sf nf (r + 1) = chg A.z c sf nf r := by rw [chg, if_pos (Or.inr e5)]
        refine r_iconst (v := 0) C dX6_scaleColumn_178 (by decide) ?_
        refine r_goto (tgt := 183) C dX6_scaleColumn_179 (by decide) ?_
        refine r_iadd C dX6_scaleColumn_183 ?_
        refine r_topi (show _ = nI (chg A.z c sf nf (r + 1)) by first | (rw [ec]; exact nI_1 _) | (rw [ec]; exact Int32.add_zero _)) ?_
        refine r_istore C dX6_scaleColumn_184 (by decide) ?_
        refine r_aload_n C dX6_scaleColumn_186 rfl rfl ?_
        refine gf_RX6_19 C dX6_scaleColumn_187 ?_
        refine r_bipush (v := 10) C dX6_scaleColumn_190 (by decide) ?_
        refine r_iload C dX6_scaleColumn_192 rfl ?_
        refine r_imul C dX6_scaleColumn_194 ?_
        refine r_iload_n C dX6_scaleColumn_195 rfl rfl ?_
        refine r_iadd C dX6_scaleColumn_196 ?_
        refine r_iload C dX6_scaleColumn_197 rfl ?_
        refine r_iast C (10 * r + c) (by decide) rfl (zix' r c) (by omega) dX6_scaleColumn_199 ?_
        have hY9 := hY.put (by omega) (by omega) ha (v := i32 (stv sf nf (A.z (10 * r + c)))) rfl
        refine r_iinc (v := _) C dX6_scaleColumn_200 rfl (nI_1 r) ?_
        refine r_goto (tgt := 111) C dX6_scaleColumn_203 (by decide) ?_
        refine r_sub C (lv' := [(4, .int (nI (chg A.z c sf nf (r + 1)))), (5, .int (nI (r + 1))), (0, .ref (G.2.1 37)), (1, .int (nI c)), (2, .double f)]) ⟨by first | rfl | (rw [ec]; rfl), rfl, rfl, rfl, rfl, trivial⟩ ?_
        exact ih (r + 1) _ (by omega) hY9
    · -- 135
      have ha := bI_0 c_132
      have ec : chg A.z c sf nf (r + 1) = chg A.z c sf nf r := by rw [chg, if_pos (Or.inl (al_f.mp ha))]
      have hY9 := hY.no (by omega) (by omega) ha
      refine r_goto (tgt := 200) C dX6_scaleColumn_135 (by decide) ?_
      refine r_iinc (v := _) C dX6_scaleColumn_200 rfl (nI_1 r) ?_
      refine r_goto (tgt := 111) C dX6_scaleColumn_203 (by decide) ?_
      refine r_sub C (lv' := [(4, .int (nI (chg A.z c sf nf (r + 1)))), (5, .int (nI (r + 1))), (0, .ref (G.2.1 37)), (1, .int (nI c)), (2, .double f)]) ⟨by first | rfl | (rw [ec]; rfl), rfl, rfl, rfl, rfl, trivial⟩ ?_
      exact ih (r + 1) _ (by omega) hY9

set_option maxHeartbeats 4000000 in
set_option maxRecDepth 100000 in
theorem lp_X6_scaleColumn_a {l : Launch} {G : Geo} {J : JT} {JX : JXT} {X : St} (hfl : l.stackTraces = false) {A : DA} {sf : Bool} {nf : Nat} {f : UInt64} {c : Nat} (hM : MInv X A) (hf : Pd 3 sf nf f) (hn : nf ≤ 800) (hcc : c < A.C) (CE : Cl l RX6 cX6_scaleColumn 7 (some .int) [] G 5 1160 0 (kI (fun r9 X' => (inI (nI c) A.C = false → r9 = 0 ∧ Zm X' 37 0 = 1 ∧ MInv X' A) ∧ (inI (nI c) A.C = true → ¬ nf ≤ 800 → r9 = 0 ∧ Zm X' 37 0 = 2 ∧ MInv X' A) ∧ (∀ q, q < A.C → (nI c) = nI q → nf ≤ 800 → (stok A.z q sf nf 10 = false → r9 = 0 ∧ Zm X' 37 0 = 3 ∧ MInv X' A) ∧ (stok A.z q sf nf 10 = true → r9 = nI (chg A.z q sf nf 10) ∧ Zm X' 37 0 = 0 ∧ MInv X' (A.tab A.R A.C A.ra A.ca (stz A.z q sf nf)))) ∧ Fr Mp X X')) kF J JX) :
    ∀ n r, r + n = A.R → stok A.z c sf nf r = true → J (Ym X 37 0 0) 0 44 [(4, .int (nI r)), (0, .ref (G.2.1 37)), (1, .int (nI c)), (2, .double f)] [] := by
  have C := CE.b
  intro n
  induction n with
  | zero =>
    intro r h hs0
    have hR10 := hM.ok.R
    have hC10 := hM.ok.C
    have er : inI (nI c) A.C = true := by rw [inI_n (by omega), decide_eq_true hcc]
    have hz20 : ∀ r, A.R ≤ r → r < 10 → A.z (10 * r + c) = 20000 := fun r h1 h2 => hM.ok.t.2.2.2 _ (by omega) (Or.inl (by omega))
    have e0 : r = A.R := by omega
    subst e0
    have hs : stok A.z c sf nf 10 = true := by rw [stok_ext hz20 10 (by omega) hR10]; exact hs0
    refine r_iload C dX6_scaleColumn_44 rfl ?_
    refine r_aload_n C dX6_scaleColumn_46 rfl rfl ?_
    refine gf_RX6_81 C dX6_scaleColumn_47 ?_
    refine r_topi (show _ = nI A.R from hM.b.1) ?_
    refine r_icmp_ge (tgt := 105) C dX6_scaleColumn_50 (by decide) (fun c_50 => ?_) (fun c_50 => absurd ((Int32.le_refl _)) c_50)
    refine r_iconst (v := 0) C dX6_scaleColumn_105 (by decide) ?_
    refine r_istore C dX6_scaleColumn_106 (by decide) ?_
    refine r_iconst (v := 0) C dX6_scaleColumn_108 (by decide) ?_
    refine r_istore C dX6_scaleColumn_109 (by decide) ?_
    refine r_sub C (lv' := [(4, .int (nI (chg A.z c sf nf 0))), (5, .int (nI 0)), (0, .ref (G.2.1 37)), (1, .int (nI c)), (2, .double f)]) ⟨rfl, rfl, rfl, rfl, rfl, trivial⟩ ?_
    exact lp_X6_scaleColumn_b hfl hM hf hn hcc hs CE A.R 0 _ (Nat.zero_add _) ⟨Fr.rf, fun k hk hal => by rw [if_neg (by omega)]; exact hM.b.2.2.2.2.2 k hk hal⟩
  | succ n ih =>
    intro r h hs0
    have hr : r < A.R := by omega
    have hR10 := hM.ok.R
    have hC10 := hM.ok.C
    have er : inI (nI c) A.C = true := by rw [inI_n (by omega), decide_eq_true hcc]
    have hz20 : ∀ r, A.R ≤ r → r < 10 → A.z (10 * r + c) = 20000 := fun r h1 h2 => hM.ok.t.2.2.2 _ (by omega) (Or.inl (by omega))
    have hzc := hM.ok.t.2.2.1 (10 * r + c) (by omega)
    have hm := Pd_cell hzc hf hn
    have hb := stv_bd (sf := sf) hzc hn
    refine r_iload C dX6_scaleColumn_44 rfl ?_
    refine r_aload_n C dX6_scaleColumn_46 rfl rfl ?_
    refine gf_RX6_81 C dX6_scaleColumn_47 ?_
    refine r_topi (show _ = nI A.R from hM.b.1) ?_
    refine r_icmp_ge (tgt := 105) C dX6_scaleColumn_50 (by decide) (fun c_50 => absurd c_50 ((nI_ge (a := r) (b := A.R) hr (by omega)))) (fun c_50 => ?_)
    refine r_aload_n C dX6_scaleColumn_53 rfl rfl ?_
    refine gf_RX6_16 C dX6_scaleColumn_54 ?_
    refine r_bipush (v := 10) C dX6_scaleColumn_57 (by decide) ?_
    refine r_iload C dX6_scaleColumn_59 rfl ?_
    refine r_imul C dX6_scaleColumn_61 ?_
    refine r_iload_n C dX6_scaleColumn_62 rfl rfl ?_
    refine r_iadd C dX6_scaleColumn_63 ?_
    refine r_zald C (10 * r + c) (by decide) rfl (zix' r c) (by omega) dX6_scaleColumn_64 ?_
    refine r_topi (show _ = bI (al A.z (10 * r + c)) from hM.b.2.2.2.2.1 _ (by omega)) ?_
    refine r_if_eq (tgt := 99) C dX6_scaleColumn_65 (by decide) (fun c_65 => ?_) (fun c_65 => ?_)
    · -- 99
      have ha := bI_0 c_65
      have hs9 : stok A.z c sf nf (r + 1) = true := by unfold stok; rw [hs0, decide_eq_true (al_f.mp ha)]; rfl
      refine r_iinc (v := _) C dX6_scaleColumn_99 rfl (nI_1 r) ?_
      refine r_goto (tgt := 44) C dX6_scaleColumn_102 (by decide) ?_
      refine r_sub C (lv' := [(4, .int (nI (r + 1))), (0, .ref (G.2.1 37)), (1, .int (nI c)), (2, .double f)]) ⟨rfl, rfl, rfl, rfl, trivial⟩ ?_
      exact ih (r + 1) (by omega) hs9
    · -- 68
      have ha := bI_1 c_65
      refine r_aload_n C dX6_scaleColumn_68 rfl rfl ?_
      refine gf_RX6_19 C dX6_scaleColumn_69 ?_
      refine r_bipush (v := 10) C dX6_scaleColumn_72 (by decide) ?_
      refine r_iload C dX6_scaleColumn_74 rfl ?_
      refine r_imul C dX6_scaleColumn_76 ?_
      refine r_iload_n C dX6_scaleColumn_77 rfl rfl ?_
      refine r_iadd C dX6_scaleColumn_78 ?_
      refine r_iald C (10 * r + c) (by decide) rfl (zix' r c) (by omega) dX6_scaleColumn_79 ?_
      refine r_topi (show _ = i32 (A.z (10 * r + c)) from hM.b.2.2.2.2.2 _ (by omega) ha) ?_
      refine r_i2d C dX6_scaleColumn_80 ?_
      refine r_dload_n C dX6_scaleColumn_81 rfl rfl ?_
      refine r_dmul C dX6_scaleColumn_82 (Pd_n64 hm) ?_
      refine r_rint hfl C hm (cell_le hzc hn) (by omega) (by decide) (by decide) (by decide) dX6_scaleColumn_83 (fun r83 p83 => ?_)
      refine r_d2l C dX6_scaleColumn_86 ?_
      refine r_topl (d2l_stv hzc hn p83) ?_
      refine cl_RX6_109 C (con_X6_isCost l hfl _ (z := stv sf nf (A.z (10 * r + c))) (by omega)) dX6_scaleColumn_87 rfl ⟨Nat.le_of_ble_eq_true rfl, Nat.le_of_ble_eq_true rfl⟩ (by omega) (Nat.le_of_ble_eq_true rfl) (fun r_87 X_87 h_87 => ?_)
      obtain ⟨rfl, rfl⟩ := h_87
      refine r_if_ne (tgt := 99) C dX6_scaleColumn_90 (by decide) (fun c_90 => ?_) (fun c_90 => ?_)
      · -- 99
        have hs9 : stok A.z c sf nf (r + 1) = true := by unfold stok; rw [hs0, bI_1 c_90]; simp
        refine r_iinc (v := _) C dX6_scaleColumn_99 rfl (nI_1 r) ?_
        refine r_goto (tgt := 44) C dX6_scaleColumn_102 (by decide) ?_
        refine r_sub C (lv' := [(4, .int (nI (r + 1))), (0, .ref (G.2.1 37)), (1, .int (nI c)), (2, .double f)]) ⟨rfl, rfl, rfl, rfl, trivial⟩ ?_
        exact ih (r + 1) (by omega) hs9
      · -- 93
        have hs8 := stok_stop (al_i.mp ha) (bI_0 c_90) 10 (by omega)
        refine r_aload_n C dX6_scaleColumn_93 rfl rfl ?_
        refine r_iconst (v := 3) C dX6_scaleColumn_94 (by decide) ?_
        refine cl_RX6_98 C (con_X6_fail l hfl _) dX6_scaleColumn_95 rfl ⟨Nat.le_of_ble_eq_true rfl, Nat.le_of_ble_eq_true rfl⟩ (by omega) (Nat.le_of_ble_eq_true rfl) (fun r_95 X_95 h_95 => ?_)
        obtain ⟨rfl, rfl⟩ := h_95
        exact r_iret CE rfl rfl dX6_scaleColumn_98 (Nat.le_of_ble_eq_true rfl) ⟨_, rfl, fun q => (by rw [er] at q; cases q), fun _ q => absurd hn q, fun q hq e8 _ => (by rw [← (nI_eq (by omega) (by omega)).mp e8]; exact ⟨fun _ => ⟨rfl, rfl, hM⟩, fun q => (by rw [hs8] at q; cases q)⟩), Fr.t2 _ _⟩

set_option maxHeartbeats 4000000 in
set_option maxRecDepth 100000 in
/-- X6_scaleColumn  -/
theorem con_X6_scaleColumn (l : Launch) (hfl : l.stackTraces = false) {A : DA} {x : Int32} {sf : Bool} {nf : Nat} {f : UInt64} (X : St) (hM : MInv X A) (hf : Pd 3 sf nf f) : Con l yX6_scaleColumn cX6_scaleColumn 7 (some (FieldType.int)) 5 1160 0 (fun G => [.ref (G.2.1 37), .int x, .double f]) X (kI (fun r9 X' => (inI x A.C = false → r9 = 0 ∧ Zm X' 37 0 = 1 ∧ MInv X' A) ∧ (inI x A.C = true → ¬ nf ≤ 800 → r9 = 0 ∧ Zm X' 37 0 = 2 ∧ MInv X' A) ∧ (∀ q, q < A.C → x = nI q → nf ≤ 800 → (stok A.z q sf nf 10 = false → r9 = 0 ∧ Zm X' 37 0 = 3 ∧ MInv X' A) ∧ (stok A.z q sf nf 10 = true → r9 = nI (chg A.z q sf nf 10) ∧ Zm X' 37 0 = 0 ∧ MInv X' (A.tab A.R A.C A.ra A.ca (stz A.z q sf nf)))) ∧ Fr Mp X X')) kF := by
  refine con_of (lv := fun G => [(0, .ref (G.2.1 37)), (1, .int x), (2, .double f)]) hfl (by decide +kernel) (fun _ => rfl) (fun _ => Nat.le_of_ble_eq_true rfl) ?_
  intro G J JX CE
  have C := CE.b
  have hR10 := hM.ok.R
  have hC10 := hM.ok.C
  have hc1 : FP.dcmp f 13860109328209412096 = some (compare (FP.Core.signed sf nf) (-800)) := Pd_cmp hf Pd_m100
  have hc2 : FP.dcmp f 4636737291354636288 = some (compare (FP.Core.signed sf nf) 800) := Pd_cmp hf Pd_100
  refine r_aload_n C dX6_scaleColumn_0 rfl rfl ?_
  refine r_iconst (v := 0) C dX6_scaleColumn_1 (by decide) ?_
  refine pf_RX6_77 C dX6_scaleColumn_2 ?_
  refine r_aload_n C dX6_scaleColumn_5 rfl rfl ?_
  refine r_iload_n C dX6_scaleColumn_6 rfl rfl ?_
  refine cl_RX6_91 C (con_X6_isColumn l hfl (Ym X 37 0 0) (R := A.C) hM.b.2.1 hM.ok.C) dX6_scaleColumn_7 rfl ⟨Nat.le_of_ble_eq_true rfl, Nat.le_of_ble_eq_true rfl⟩ (by omega) (Nat.le_of_ble_eq_true rfl) (fun r_7 X_7 h_7 => ?_)
  obtain ⟨rfl, rfl⟩ := h_7
  refine r_if_ne (tgt := 19) C dX6_scaleColumn_10 (by decide) (fun c_10 => ?_) (fun c_10 => ?_)
  · -- 19
    have er := bI_1 c_10
    obtain ⟨c, hcc, rfl⟩ := inI_t er
    refine r_dload_n C dX6_scaleColumn_19 rfl rfl ?_
    refine r_ldc2d C dX6_scaleColumn_20 nk_RX6_113 ?_
    refine r_dcmp C dX6_scaleColumn_23 ?_
    refine r_topi (show _ = Op.cmpValue (some (compare (FP.Core.signed sf nf) (-800))) .l by rw [hc1]) ?_
    refine r_if_lt (tgt := 35) C dX6_scaleColumn_24 (by decide) (fun c_24 => ?_) (fun c_24 => ?_)
    · -- 35
      have e1 := (cv_lt _ _ _).mp c_24
      have hq : ¬ nf ≤ 800 := by
        cases sf
        · rw [sg_f] at e1; omega
        · rw [sg_t] at e1; omega
      refine r_aload_n C dX6_scaleColumn_35 rfl rfl ?_
      refine r_iconst (v := 2) C dX6_scaleColumn_36 (by decide) ?_
      refine cl_RX6_98 C (con_X6_fail l hfl _) dX6_scaleColumn_37 rfl ⟨Nat.le_of_ble_eq_true rfl, Nat.le_of_ble_eq_true rfl⟩ (by omega) (Nat.le_of_ble_eq_true rfl) (fun r_37 X_37 h_37 => ?_)
      obtain ⟨rfl, rfl⟩ := h_37
      exact r_iret CE rfl rfl dX6_scaleColumn_40 (Nat.le_of_ble_eq_true rfl) ⟨_, rfl, fun q => (by rw [er] at q; cases q), fun _ _ => ⟨rfl, rfl, hM⟩, fun q hq2 e8 q9 => absurd q9 hq, Fr.t2 _ _⟩
    · -- 27
      have e1 : ¬ FP.Core.signed sf nf < -800 := fun q => c_24 ((cv_lt _ _ _).mpr q)
      refine r_dload_n C dX6_scaleColumn_27 rfl rfl ?_
      refine r_ldc2d C dX6_scaleColumn_28 nk_RX6_115 ?_
      refine r_dcmp C dX6_scaleColumn_31 ?_
      refine r_topi (show _ = Op.cmpValue (some (compare (FP.Core.signed sf nf) 800)) .g by rw [hc2]) ?_
      refine r_if_le (tgt := 41) C dX6_scaleColumn_32 (by decide) (fun c_32 => ?_) (fun c_32 => ?_)
      · -- 41
        have e2 := (cv_le _ _ _).mp c_32
        have hq : nf ≤ 800 := by
          cases sf
          · rw [sg_f] at e2; omega
          · rw [sg_t] at e1; omega
        refine r_iconst (v := 0) C dX6_scaleColumn_41 (by decide) ?_
        refine r_istore C dX6_scaleColumn_42 (by decide) ?_
        refine r_sub C (lv' := [(4, .int (nI 0)), (0, .ref (G.2.1 37)), (1, .int (nI c)), (2, .double f)]) ⟨rfl, rfl, rfl, rfl, trivial⟩ ?_
        exact lp_X6_scaleColumn_a hfl hM hf hq hcc CE A.R 0 (Nat.zero_add _) rfl
      · -- 35
        have e2 : ¬ FP.Core.signed sf nf ≤ 800 := fun q => c_32 ((cv_le _ _ _).mpr q)
        have hq : ¬ nf ≤ 800 := by
          cases sf
          · rw [sg_f] at e2; omega
          · rw [sg_t] at e2; omega
        refine r_aload_n C dX6_scaleColumn_35 rfl rfl ?_
        refine r_iconst (v := 2) C dX6_scaleColumn_36 (by decide) ?_
        refine cl_RX6_98 C (con_X6_fail l hfl _) dX6_scaleColumn_37 rfl ⟨Nat.le_of_ble_eq_true rfl, Nat.le_of_ble_eq_true rfl⟩ (by omega) (Nat.le_of_ble_eq_true rfl) (fun r_37 X_37 h_37 => ?_)
        obtain ⟨rfl, rfl⟩ := h_37
        exact r_iret CE rfl rfl dX6_scaleColumn_40 (Nat.le_of_ble_eq_true rfl) ⟨_, rfl, fun q => (by rw [er] at q; cases q), fun _ _ => ⟨rfl, rfl, hM⟩, fun q hq2 e8 q9 => absurd q9 hq, Fr.t2 _ _⟩
  · -- 13
    have e := bI_0 c_10
    refine r_aload_n C dX6_scaleColumn_13 rfl rfl ?_
    refine r_iconst (v := 1) C dX6_scaleColumn_14 (by decide) ?_
    refine cl_RX6_98 C (con_X6_fail l hfl _) dX6_scaleColumn_15 rfl ⟨Nat.le_of_ble_eq_true rfl, Nat.le_of_ble_eq_true rfl⟩ (by omega) (Nat.le_of_ble_eq_true rfl) (fun r_15 X_15 h_15 => ?_)
    obtain ⟨rfl, rfl⟩ := h_15
    exact r_iret CE rfl rfl dX6_scaleColumn_18 (Nat.le_of_ble_eq_true rfl) ⟨_, rfl, fun _ => ⟨rfl, rfl, hM⟩, fun q => (by rw [e] at q; cases q), fun q hq e8 => (by rw [e8, inI_n (by omega), decide_eq_true hq] at e; cases e), Fr.t2 _ _⟩
