theorem zk_up2 {A : DA} {R C ra ca r q i : Nat} {v : Int} (hr : r < 4) (hq : q < 4) (hi : i < 16) : zk (A.tab R C ra ca (zup A.z (10 * r + q) v)) i = if i = 4 * r + q then v else zk A i := by
  have h := zk_up (A := A) (R := R) (C := C) (ra := ra) (ca := ca) (v := v) (k := 4 * r + q) (by omega) hi
  rw [show (4 * r + q) / 4 = r by omega, show (4 * r + q) % 4 = q by omega] at h
  exact h
theorem zk_at {A : DA} {r q : Nat} (hq : q < 4) : zk A (4 * r + q) = A.z (10 * r + q) := by
  unfold zk
  rw [show (4 * r + q) / 4 = r by omega, show (4 * r + q) % 4 = q by omega]
/-- a cost is set, a pair forbidden -/
theorem LInv.put {X Y : St} {A : DA} (h : LInv X A) {r q : Nat} {v : Int} (hr : r < 4) (hq : q < 4) (hv : zr v) (hD : DInv Y (A.tab A.R A.C A.ra A.ca (zup A.z (10 * r + q) v))) (hF : Fr Dp X Y) : LInv (Yv Y 36 (upd (Zv Y 36) (4 * r + q) (i32 (cw v)))) (A.tab A.R A.C A.ra A.ca (zup A.z (10 * r + q) v)) := by
  refine ⟨hD.far _ (by decide), h.R, h.C, fun i hi => ?_, fun r hr => ?_, fun c hc => ?_⟩
  · rw [zk_up2 hr hq hi, Zv_Yv, if_pos rfl]
    unfold upd
    by_cases e : i = 4 * r + q
    · rw [if_pos e, if_pos e]
      exact ⟨hv, rfl⟩
    · rw [if_neg e, if_neg e, (hF 36 (by decide)).2.1]
      exact h.z i hi
  · show Zv Y 37 r = _
    rw [(hF 37 (by decide)).2.1]
    exact h.r r hr
  · show Zv Y 38 c = _
    rw [(hF 38 (by decide)).2.1]
    exact h.c c hc
theorem wb_bit (S i j : Nat) (b : Bool) : (wb S i b).testBit j = if j = i then b else S.testBit j := by
  unfold wb
  cases b
  · rw [if_neg (by decide), cb_bit]
    by_cases e : j = i <;> simp [e]
  · rw [if_pos rfl, sb_bit]
    by_cases e : j = i <;> simp [e]
theorem LInv.row {X Y : St} {A : DA} (h : LInv X A) {r : Nat} {b : Bool} (hr : r < 4) (hD : DInv Y (A.tab A.R A.C (wb A.ra r b) A.ca A.z)) (hF : Fr Dp X Y) : LInv (Yv Y 37 (upd (Zv Y 37) r (bI (!b)))) (A.tab A.R A.C (wb A.ra r b) A.ca A.z) := by
  refine ⟨hD.far _ (by decide), h.R, h.C, fun i hi => ?_, fun i hi => ?_, fun c hc => ?_⟩
  · show zr (zk A i) ∧ Zv Y 36 i = _
    rw [(hF 36 (by decide)).2.1]
    exact h.z i hi
  · show _ = bI (!(wb A.ra r b).testBit i)
    rw [wb_bit, Zv_Yv, if_pos rfl, (hF 37 (by decide)).2.1]
    unfold upd
    by_cases e : i = r
    · rw [if_pos e, if_pos e]
    · rw [if_neg e, if_neg e]
      exact h.r i hi
  · show Zv Y 38 c = _
    rw [(hF 38 (by decide)).2.1]
    exact h.c c hc
theorem LInv.col {X Y : St} {A : DA} (h : LInv X A) {q : Nat} {b : Bool} (hq : q < 4) (hD : DInv Y (A.tab A.R A.C A.ra (wb A.ca q b) A.z)) (hF : Fr Dp X Y) : LInv (Yv Y 38 (upd (Zv Y 38) q (bI (!b)))) (A.tab A.R A.C A.ra (wb A.ca q b) A.z) := by
  refine ⟨hD.far _ (by decide), h.R, h.C, fun i hi => ?_, fun r hr => ?_, fun i hi => ?_⟩
  · show zr (zk A i) ∧ Zv Y 36 i = _
    rw [(hF 36 (by decide)).2.1]
    exact h.z i hi
  · show Zv Y 37 r = _
    rw [(hF 37 (by decide)).2.1]
    exact h.r r hr
  · show _ = bI (!(wb A.ca q b).testBit i)
    rw [wb_bit, Zv_Yv, if_pos rfl, (hF 38 (by decide)).2.1]
    unfold upd
    by_cases e : i = q
    · rw [if_pos e, if_pos e]
    · rw [if_neg e, if_neg e]
      exact h.c i hi
/-- whether a pair was allowed, as the law keeps it -/
theorem cw_99 {x : Int} (h : zr x) : cw x = 99 ↔ x = 20000 := by
  unfold cw
  split
  · rename_i e; exact ⟨fun _ => e, fun _ => rfl⟩
  · omega
set_option maxHeartbeats 4000000 in
set_option maxRecDepth 100000 in
theorem law_cost {l : Launch} (hfl : l.stackTraces = false) {G : Geo} {um : Nat} {J : JT} {JX : JXT} (CL : CbL l G um J JX) {A : DA} {X : St} {u k r q w : Nat} {x6 : Int32} (hG : Gn G = 3) (hI : LInv X A) (hr : r < 4) (hq : q < 4) (hu : u + 3 ≤ um) (go : ∀ X' A' u', LInv X' A' → u' ≤ u + 3 → J X' u' 299 [(5, .int (nI k)), (1, .ref (G.2.1 0)), (2, .ref (G.2.1 36)), (3, .ref (G.2.1 37)), (4, .ref (G.2.1 38)), (0, .ref (Gb G))] []) : J X u 89 [(9, .int (nI w)), (8, .int (nI q)), (7, .int (nI r)), (6, .int x6), (5, .int (nI k)), (1, .ref (G.2.1 0)), (2, .ref (G.2.1 36)), (3, .ref (G.2.1 37)), (4, .ref (G.2.1 38)), (0, .ref (Gb G))] [] := by
  have C := CL.c
  refine r_iload C dL_law_89 rfl ?_
  refine r_bipush (v := 10) C dL_law_91 (by decide) ?_
  refine r_ishr C dL_law_93 ?_
  refine r_bipush (v := 11) C dL_law_94 (by decide) ?_
  refine cl_RL_24 C (con_L_below l hfl (N := 11) _ (by decide) (by decide)) dL_law_96 rfl ⟨Nat.le_of_ble_eq_true rfl, Nat.le_of_ble_eq_true rfl⟩ (by omega) (Nat.le_of_ble_eq_true rfl) (fun r_96 X_96 h_96 => ?_)
  obtain ⟨⟨j, hj, rfl⟩, rfl⟩ := h_96
  refine r_iconst (v := 4) C dL_law_99 (by decide) ?_
  refine r_isub C dL_law_100 ?_
  refine r_topi (show _ = i32 ((j : Int) - 4) from i32_sub (j : Int) 4) ?_
  have hw6 : -4 ≤ (j : Int) - 4 ∧ (j : Int) - 4 ≤ 6 := by omega
  have hwi : (i32 ((j : Int) - 4)).toInt = (j : Int) - 4 := i32_int (by omega) (by omega)
  refine r_istore C dL_law_101 (by decide) ?_
  refine r_aload_n C dL_law_103 rfl rfl ?_
  refine r_iload C dL_law_104 rfl ?_
  refine r_iload C dL_law_106 rfl ?_
  refine r_iload C dL_law_108 rfl ?_
  refine cl_RL_28 C (con_X5_setCost l hfl _ hI.D) dL_law_110 rfl ⟨Nat.le_of_ble_eq_true rfl, Nat.le_of_ble_eq_true rfl⟩ (by omega) (Nat.le_of_ble_eq_true rfl) (fun E_110 X_110 x_110 => ?_) (fun r_110 X_110 h_110 => ?_)
  · -- thrown
    rcases x_110 with ⟨-, -, h9⟩ | ⟨-, -, -, -, h9⟩
    · rw [hI.R, hI.C, inI_n (by omega), inI_n (by omega), decide_eq_true (by omega), decide_eq_true (by omega)] at h9
      cases h9
    · rw [hwi, inC_1 (by omega) (by omega)] at h9
      cases h9
  obtain ⟨r9, c9, hr9, hc9, er, ec, -, rfl, hD1, hF1⟩ := h_110
  rw [hI.R] at hr9
  rw [hI.C] at hc9
  have er2 : r = r9 := (nI_eq (by omega) (by omega)).mp er
  have ec2 : q = c9 := (nI_eq (by omega) (by omega)).mp ec
  subst er2
  subst ec2
  have hz0 := (hI.z (4 * r + q) (by omega)).1
  have hz1 : zr (A.z (10 * r + q)) := by rw [← zk_at hq]; exact hz0
  have hz2 := cw_bd hz1
  rw [hwi] at hD1
  refine r_aload_n C dL_law_113 rfl rfl ?_
  refine r_iconst (v := 4) C dL_law_114 (by decide) ?_
  refine r_iload C dL_law_115 rfl ?_
  refine r_imul C dL_law_117 ?_
  refine r_iload C dL_law_118 rfl ?_
  refine r_iadd C dL_law_120 ?_
  refine r_iald C (4 * r + q) (by omega) rfl (zix4 r q) (by omega) dL_law_121 ?_
  refine r_topi (show _ = i32 (cw (A.z (10 * r + q))) by rw [(hF1 36 (by decide)).2.1, (hI.z _ (by omega)).2, zk_at hq]) ?_
  refine r_bipush (v := 99) C dL_law_122 (by decide) ?_
  refine r_icmp_ge (tgt := 131) C dL_law_124 (by decide) (fun c_124 => ?_) (fun c_124 => ?_)
  · -- 131
    have h99 : 99 ≤ cw (A.z (10 * r + q)) := (i32_le (a := 99) (by decide) (by omega)).mp c_124
    have hz9 : A.z (10 * r + q) = 20000 := (cw_99 hz1).mp (by omega)
    have hal : bI (al A.z (10 * r + q)) = 0 := by rw [al_0 hz9]; rfl
    refine r_iconst (v := 0) C dL_law_131 (by decide) ?_
    refine r_icmp_eq (tgt := 137) C dL_law_132 (by decide) (fun c_132 => ?_) (fun c_132 => absurd (hal) c_132)
    refine r_aload_n C dL_law_137 rfl rfl ?_
    refine r_iconst (v := 4) C dL_law_138 (by decide) ?_
    refine r_iload C dL_law_139 rfl ?_
    refine r_imul C dL_law_141 ?_
    refine r_iload C dL_law_142 rfl ?_
    refine r_iadd C dL_law_144 ?_
    refine r_iload C dL_law_145 rfl ?_
    refine r_iast C (4 * r + q) (by omega) rfl (zix4 r q) (by omega) dL_law_147 ?_
    have hI1 := hI.put hr hq (Or.inr hw6) hD1 hF1
    rw [cw_n hw6] at hI1
    refine r_goto (tgt := 299) C dL_law_148 (by decide) ?_
    refine r_sub C (lv' := [(5, .int (nI k)), (1, .ref (G.2.1 0)), (2, .ref (G.2.1 36)), (3, .ref (G.2.1 37)), (4, .ref (G.2.1 38)), (0, .ref (Gb G))]) ⟨rfl, rfl, rfl, rfl, rfl, rfl, trivial⟩ ?_
    exact go _ _ _ hI1 (by omega)
  · -- 127
    have h99 : ¬ 99 ≤ cw (A.z (10 * r + q)) := fun q9 => c_124 ((i32_le (a := 99) (by decide) (by omega)).mpr q9)
    have hz9 : A.z (10 * r + q) ≠ 20000 := fun q9 => h99 (by rw [(cw_99 hz1).mpr q9]; decide)
    have hal : bI (al A.z (10 * r + q)) = 1 := by rw [al_1 hz9]; rfl
    refine r_iconst (v := 1) C dL_law_127 (by decide) ?_
    refine r_goto (tgt := 132) C dL_law_128 (by decide) ?_
    refine r_icmp_eq (tgt := 137) C dL_law_132 (by decide) (fun c_132 => ?_) (fun c_132 => absurd (hal) c_132)
    refine r_aload_n C dL_law_137 rfl rfl ?_
    refine r_iconst (v := 4) C dL_law_138 (by decide) ?_
    refine r_iload C dL_law_139 rfl ?_
    refine r_imul C dL_law_141 ?_
    refine r_iload C dL_law_142 rfl ?_
    refine r_iadd C dL_law_144 ?_
    refine r_iload C dL_law_145 rfl ?_
    refine r_iast C (4 * r + q) (by omega) rfl (zix4 r q) (by omega) dL_law_147 ?_
    have hI1 := hI.put hr hq (Or.inr hw6) hD1 hF1
    rw [cw_n hw6] at hI1
    refine r_goto (tgt := 299) C dL_law_148 (by decide) ?_
    refine r_sub C (lv' := [(5, .int (nI k)), (1, .ref (G.2.1 0)), (2, .ref (G.2.1 36)), (3, .ref (G.2.1 37)), (4, .ref (G.2.1 38)), (0, .ref (Gb G))]) ⟨rfl, rfl, rfl, rfl, rfl, rfl, trivial⟩ ?_
    exact go _ _ _ hI1 (by omega)
set_option maxHeartbeats 4000000 in
set_option maxRecDepth 100000 in
theorem law_forbid {l : Launch} (hfl : l.stackTraces = false) {G : Geo} {um : Nat} {J : JT} {JX : JXT} (CL : CbL l G um J JX) {A : DA} {X : St} {u k r q w : Nat} {x6 : Int32} (hG : Gn G = 3) (hI : LInv X A) (hr : r < 4) (hq : q < 4) (hu : u + 3 ≤ um) (go : ∀ X' A' u', LInv X' A' → u' ≤ u + 3 → J X' u' 299 [(5, .int (nI k)), (1, .ref (G.2.1 0)), (2, .ref (G.2.1 36)), (3, .ref (G.2.1 37)), (4, .ref (G.2.1 38)), (0, .ref (Gb G))] []) : J X u 157 [(9, .int (nI w)), (8, .int (nI q)), (7, .int (nI r)), (6, .int x6), (5, .int (nI k)), (1, .ref (G.2.1 0)), (2, .ref (G.2.1 36)), (3, .ref (G.2.1 37)), (4, .ref (G.2.1 38)), (0, .ref (Gb G))] [] := by
  have C := CL.c
  refine r_aload_n C dL_law_157 rfl rfl ?_
  refine r_iload C dL_law_158 rfl ?_
  refine r_iload C dL_law_160 rfl ?_
  refine cl_RL_56 C (con_X5_forbid l hfl _ hI.D) dL_law_162 rfl ⟨Nat.le_of_ble_eq_true rfl, Nat.le_of_ble_eq_true rfl⟩ (by omega) (Nat.le_of_ble_eq_true rfl) (fun E_162 X_162 x_162 => ?_) (fun r_162 X_162 h_162 => ?_)
  · -- thrown
    have h9 := x_162.2.2
    rw [hI.R, hI.C, inI_n (by omega), inI_n (by omega), decide_eq_true (by omega), decide_eq_true (by omega)] at h9
    cases h9
  obtain ⟨r9, c9, hr9, hc9, er, ec, rfl, hD1, hF1⟩ := h_162
  rw [hI.R] at hr9
  rw [hI.C] at hc9
  have er2 : r = r9 := (nI_eq (by omega) (by omega)).mp er
  have ec2 : q = c9 := (nI_eq (by omega) (by omega)).mp ec
  subst er2
  subst ec2
  have hz0 := (hI.z (4 * r + q) (by omega)).1
  have hz1 : zr (A.z (10 * r + q)) := by rw [← zk_at hq]; exact hz0
  have hz2 := cw_bd hz1
  refine r_aload_n C dL_law_165 rfl rfl ?_
  refine r_iconst (v := 4) C dL_law_166 (by decide) ?_
  refine r_iload C dL_law_167 rfl ?_
  refine r_imul C dL_law_169 ?_
  refine r_iload C dL_law_170 rfl ?_
  refine r_iadd C dL_law_172 ?_
  refine r_iald C (4 * r + q) (by omega) rfl (zix4 r q) (by omega) dL_law_173 ?_
  refine r_topi (show _ = i32 (cw (A.z (10 * r + q))) by rw [(hF1 36 (by decide)).2.1, (hI.z _ (by omega)).2, zk_at hq]) ?_
  refine r_bipush (v := 99) C dL_law_174 (by decide) ?_
  refine r_icmp_ge (tgt := 183) C dL_law_176 (by decide) (fun c_176 => ?_) (fun c_176 => ?_)
  · -- 183
    have h99 : 99 ≤ cw (A.z (10 * r + q)) := (i32_le (a := 99) (by decide) (by omega)).mp c_176
    have hz9 : A.z (10 * r + q) = 20000 := (cw_99 hz1).mp (by omega)
    have hal : bI (al A.z (10 * r + q)) = 0 := by rw [al_0 hz9]; rfl
    refine r_iconst (v := 0) C dL_law_183 (by decide) ?_
    refine r_icmp_eq (tgt := 189) C dL_law_184 (by decide) (fun c_184 => ?_) (fun c_184 => absurd (hal) c_184)
    refine r_aload_n C dL_law_189 rfl rfl ?_
    refine r_iconst (v := 4) C dL_law_190 (by decide) ?_
    refine r_iload C dL_law_191 rfl ?_
    refine r_imul C dL_law_193 ?_
    refine r_iload C dL_law_194 rfl ?_
    refine r_iadd C dL_law_196 ?_
    refine r_bipush (v := 99) C dL_law_197 (by decide) ?_
    refine r_topi (show (99 : Int32) = i32 (cw 20000) by rw [cw_z]; exact k99) ?_
    refine r_iast C (4 * r + q) (by omega) rfl (zix4 r q) (by omega) dL_law_199 ?_
    have hI1 := hI.put hr hq (Or.inl rfl) hD1 hF1
    refine r_goto (tgt := 299) C dL_law_200 (by decide) ?_
    refine r_sub C (lv' := [(5, .int (nI k)), (1, .ref (G.2.1 0)), (2, .ref (G.2.1 36)), (3, .ref (G.2.1 37)), (4, .ref (G.2.1 38)), (0, .ref (Gb G))]) ⟨rfl, rfl, rfl, rfl, rfl, rfl, trivial⟩ ?_
    exact go _ _ _ hI1 (by omega)
  · -- 179
    have h99 : ¬ 99 ≤ cw (A.z (10 * r + q)) := fun q9 => c_176 ((i32_le (a := 99) (by decide) (by omega)).mpr q9)
    have hz9 : A.z (10 * r + q) ≠ 20000 := fun q9 => h99 (by rw [(cw_99 hz1).mpr q9]; decide)
    have hal : bI (al A.z (10 * r + q)) = 1 := by rw [al_1 hz9]; rfl
    refine r_iconst (v := 1) C dL_law_179 (by decide) ?_
    refine r_goto (tgt := 184) C dL_law_180 (by decide) ?_
    refine r_icmp_eq (tgt := 189) C dL_law_184 (by decide) (fun c_184 => ?_) (fun c_184 => absurd (hal) c_184)
    refine r_aload_n C dL_law_189 rfl rfl ?_
    refine r_iconst (v := 4) C dL_law_190 (by decide) ?_
    refine r_iload C dL_law_191 rfl ?_
    refine r_imul C dL_law_193 ?_
    refine r_iload C dL_law_194 rfl ?_
    refine r_iadd C dL_law_196 ?_
    refine r_bipush (v := 99) C dL_law_197 (by decide) ?_
    refine r_topi (show (99 : Int32) = i32 (cw 20000) by rw [cw_z]; exact k99) ?_
    refine r_iast C (4 * r + q) (by omega) rfl (zix4 r q) (by omega) dL_law_199 ?_
    have hI1 := hI.put hr hq (Or.inl rfl) hD1 hF1
    refine r_goto (tgt := 299) C dL_law_200 (by decide) ?_
    refine r_sub C (lv' := [(5, .int (nI k)), (1, .ref (G.2.1 0)), (2, .ref (G.2.1 36)), (3, .ref (G.2.1 37)), (4, .ref (G.2.1 38)), (0, .ref (Gb G))]) ⟨rfl, rfl, rfl, rfl, rfl, rfl, trivial⟩ ?_
    exact go _ _ _ hI1 (by omega)
set_option maxHeartbeats 4000000 in
set_option maxRecDepth 100000 in
theorem law_row {l : Launch} (hfl : l.stackTraces = false) {G : Geo} {um : Nat} {J : JT} {JX : JXT} (CL : CbL l G um J JX) {A : DA} {X : St} {u k r q w : Nat} {x6 : Int32} (hG : Gn G = 3) (hI : LInv X A) (hr : r < 4) (hq : q < 4) (hu : u + 3 ≤ um) (go : ∀ X' A' u', LInv X' A' → u' ≤ u + 3 → J X' u' 299 [(5, .int (nI k)), (1, .ref (G.2.1 0)), (2, .ref (G.2.1 36)), (3, .ref (G.2.1 37)), (4, .ref (G.2.1 38)), (0, .ref (Gb G))] []) (hw : w < 8) (b : Bool) (hb : b = decide (w = 4)) : J X u 224 [(9, .int (nI w)), (8, .int (nI q)), (7, .int (nI r)), (6, .int x6), (5, .int (nI k)), (1, .ref (G.2.1 0)), (2, .ref (G.2.1 36)), (3, .ref (G.2.1 37)), (4, .ref (G.2.1 38)), (0, .ref (Gb G))] [.int (bI b), .int (nI r), .ref (G.2.1 0)] := by
  have C := CL.c
  refine cl_RL_60 C (con_X5_setRow l hfl (b := b) _ hI.D) dL_law_224 rfl ⟨Nat.le_of_ble_eq_true rfl, Nat.le_of_ble_eq_true rfl⟩ (by omega) (Nat.le_of_ble_eq_true rfl) (fun E_224 X_224 x_224 => ?_) (fun r_224 X_224 h_224 => ?_)
  · -- thrown
    exact absurd x_224.2.2 (by rw [hI.R, inI_n (by omega), decide_eq_true (by omega)]; decide)
  obtain ⟨r9, hr9, er, rfl, hD1, hF1⟩ := h_224
  rw [hI.R] at hr9
  have er2 : r = r9 := (nI_eq (by omega) (by omega)).mp er
  subst er2
  refine r_aload_n C dL_law_227 rfl rfl ?_
  refine r_iload C dL_law_228 rfl ?_
  refine r_zald C (r) (by omega) rfl rfl (by omega) dL_law_230 ?_
  refine r_topi (show _ = bI (!A.ra.testBit r) by rw [(hF1 37 (by decide)).2.1]; exact hI.r r (by omega)) ?_
  refine r_icmp_ne (tgt := 236) C dL_law_231 (by decide) (fun c_231 => ?_) (fun c_231 => absurd c_231 ((by cases A.ra.testBit r <;> decide)))
  refine r_aload_n C dL_law_236 rfl rfl ?_
  refine r_iload C dL_law_237 rfl ?_
  refine r_iload C dL_law_239 rfl ?_
  refine r_iconst (v := 4) C dL_law_241 (by decide) ?_
  refine r_icmp_eq (tgt := 249) C dL_law_242 (by decide) (fun c_242 => ?_) (fun c_242 => ?_)
  · -- 249
    have eb : b = true := by rw [hb]; exact decide_eq_true ((nI_eq (b := 4) (by omega) (by omega)).mp c_242)
    subst eb
    refine r_iconst (v := 0) C dL_law_249 (by decide) ?_
    refine r_zast C (r) (by omega) rfl rfl (by omega) rfl dL_law_250 ?_
    have hI1 := hI.row (by omega) hD1 hF1
    refine r_goto (tgt := 299) C dL_law_251 (by decide) ?_
    refine r_sub C (lv' := [(5, .int (nI k)), (1, .ref (G.2.1 0)), (2, .ref (G.2.1 36)), (3, .ref (G.2.1 37)), (4, .ref (G.2.1 38)), (0, .ref (Gb G))]) ⟨rfl, rfl, rfl, rfl, rfl, rfl, trivial⟩ ?_
    exact go _ _ _ hI1 (by omega)
  · -- 245
    have eb : b = false := by rw [hb]; exact decide_eq_false (fun q9 => c_242 (by rw [q9]; rfl))
    subst eb
    refine r_iconst (v := 1) C dL_law_245 (by decide) ?_
    refine r_goto (tgt := 250) C dL_law_246 (by decide) ?_
    refine r_zast C (r) (by omega) rfl rfl (by omega) rfl dL_law_250 ?_
    have hI1 := hI.row (by omega) hD1 hF1
    refine r_goto (tgt := 299) C dL_law_251 (by decide) ?_
    refine r_sub C (lv' := [(5, .int (nI k)), (1, .ref (G.2.1 0)), (2, .ref (G.2.1 36)), (3, .ref (G.2.1 37)), (4, .ref (G.2.1 38)), (0, .ref (Gb G))]) ⟨rfl, rfl, rfl, rfl, rfl, rfl, trivial⟩ ?_
    exact go _ _ _ hI1 (by omega)
set_option maxHeartbeats 4000000 in
set_option maxRecDepth 100000 in
theorem law_col {l : Launch} (hfl : l.stackTraces = false) {G : Geo} {um : Nat} {J : JT} {JX : JXT} (CL : CbL l G um J JX) {A : DA} {X : St} {u k r q w : Nat} {x6 : Int32} (hG : Gn G = 3) (hI : LInv X A) (hr : r < 4) (hq : q < 4) (hu : u + 3 ≤ um) (go : ∀ X' A' u', LInv X' A' → u' ≤ u + 3 → J X' u' 299 [(5, .int (nI k)), (1, .ref (G.2.1 0)), (2, .ref (G.2.1 36)), (3, .ref (G.2.1 37)), (4, .ref (G.2.1 38)), (0, .ref (Gb G))] []) (hw : w < 8) (b : Bool) (hb : b = decide (w = 6)) : J X u 269 [(9, .int (nI w)), (8, .int (nI q)), (7, .int (nI r)), (6, .int x6), (5, .int (nI k)), (1, .ref (G.2.1 0)), (2, .ref (G.2.1 36)), (3, .ref (G.2.1 37)), (4, .ref (G.2.1 38)), (0, .ref (Gb G))] [.int (bI b), .int (nI q), .ref (G.2.1 0)] := by
  have C := CL.c
  refine cl_RL_64 C (con_X5_setColumn l hfl (b := b) _ hI.D) dL_law_269 rfl ⟨Nat.le_of_ble_eq_true rfl, Nat.le_of_ble_eq_true rfl⟩ (by omega) (Nat.le_of_ble_eq_true rfl) (fun E_269 X_269 x_269 => ?_) (fun r_269 X_269 h_269 => ?_)
  · -- thrown
    exact absurd x_269.2.2 (by rw [hI.C, inI_n (by omega), decide_eq_true (by omega)]; decide)
  obtain ⟨r9, hr9, er, rfl, hD1, hF1⟩ := h_269
  rw [hI.C] at hr9
  have er2 : q = r9 := (nI_eq (by omega) (by omega)).mp er
  subst er2
  refine r_aload C dL_law_272 rfl ?_
  refine r_iload C dL_law_274 rfl ?_
  refine r_zald C (q) (by omega) rfl rfl (by omega) dL_law_276 ?_
  refine r_topi (show _ = bI (!A.ca.testBit q) by rw [(hF1 38 (by decide)).2.1]; exact hI.c q (by omega)) ?_
  refine r_icmp_ne (tgt := 282) C dL_law_277 (by decide) (fun c_277 => ?_) (fun c_277 => absurd c_277 ((by cases A.ca.testBit q <;> decide)))
  refine r_aload C dL_law_282 rfl ?_
  refine r_iload C dL_law_284 rfl ?_
  refine r_iload C dL_law_286 rfl ?_
  refine r_bipush (v := 6) C dL_law_288 (by decide) ?_
  refine r_icmp_eq (tgt := 297) C dL_law_290 (by decide) (fun c_290 => ?_) (fun c_290 => ?_)
  · -- 297
    have eb : b = true := by rw [hb]; exact decide_eq_true ((nI_eq (b := 6) (by omega) (by omega)).mp c_290)
    subst eb
    refine r_iconst (v := 0) C dL_law_297 (by decide) ?_
    refine r_zast C (q) (by omega) rfl rfl (by omega) rfl dL_law_298 ?_
    have hI1 := hI.col (by omega) hD1 hF1
    refine r_sub C (lv' := [(5, .int (nI k)), (1, .ref (G.2.1 0)), (2, .ref (G.2.1 36)), (3, .ref (G.2.1 37)), (4, .ref (G.2.1 38)), (0, .ref (Gb G))]) ⟨rfl, rfl, rfl, rfl, rfl, rfl, trivial⟩ ?_
    exact go _ _ _ hI1 (by omega)
  · -- 293
    have eb : b = false := by rw [hb]; exact decide_eq_false (fun q9 => c_290 (by rw [q9]; rfl))
    subst eb
    refine r_iconst (v := 1) C dL_law_293 (by decide) ?_
    refine r_goto (tgt := 298) C dL_law_294 (by decide) ?_
    refine r_zast C (q) (by omega) rfl rfl (by omega) rfl dL_law_298 ?_
    have hI1 := hI.col (by omega) hD1 hF1
    refine r_sub C (lv' := [(5, .int (nI k)), (1, .ref (G.2.1 0)), (2, .ref (G.2.1 36)), (3, .ref (G.2.1 37)), (4, .ref (G.2.1 38)), (0, .ref (Gb G))]) ⟨rfl, rfl, rfl, rfl, rfl, rfl, trivial⟩ ?_
    exact go _ _ _ hI1 (by omega)
set_option maxHeartbeats 4000000 in
set_option maxRecDepth 100000 in
theorem law_ops {l : Launch} (hfl : l.stackTraces = false) {G : Geo} {um : Nat} {J : JT} {JX : JXT} (CL : CbL l G um J JX) (hG : Gn G = 3) (hGl : Gl G ≤ 260) {A : DA} {X : St} {u k : Nat} (hk : k < 8) (hI : LInv X A) (hu : u + 3 ≤ um) (go : ∀ X' A' u', LInv X' A' → u' ≤ u + 3 → J X' u' 299 [(5, .int (nI k)), (1, .ref (G.2.1 0)), (2, .ref (G.2.1 36)), (3, .ref (G.2.1 37)), (4, .ref (G.2.1 38)), (0, .ref (Gb G))] []) : J X u 44 [(5, .int (nI k)), (1, .ref (G.2.1 0)), (2, .ref (G.2.1 36)), (3, .ref (G.2.1 37)), (4, .ref (G.2.1 38)), (0, .ref (Gb G))] [] := by
  have C := CL.c
  refine r_aload_n C dL_law_44 rfl rfl ?_
  refine r_bipush (v := 16) C dL_law_45 (by decide) ?_
  refine r_iload C dL_law_47 rfl ?_
  refine r_iadd C dL_law_49 ?_
  refine r_topi (show _ = nI (16 + k) from nI_p 16 k) ?_
  refine ca_RL_18 C (con_L_cell l hfl G _ (k := 16 + k) hGl (by omega)) dL_law_50 rfl ⟨Nat.le_of_ble_eq_true rfl, Nat.le_of_ble_eq_true rfl⟩ (by omega) (Nat.le_of_ble_eq_true rfl) (fun r_50 X_50 h_50 => ?_)
  subst h_50
  refine r_istore C dL_law_53 (by decide) ?_
  refine r_iload C dL_law_55 rfl ?_
  refine r_iconst (v := 3) C dL_law_57 (by decide) ?_
  refine r_ishr C dL_law_58 ?_
  refine r_iconst (v := 4) C dL_law_59 (by decide) ?_
  refine cl_RL_24 C (con_L_below l hfl (N := 4) _ (by decide) (by decide)) dL_law_60 rfl ⟨Nat.le_of_ble_eq_true rfl, Nat.le_of_ble_eq_true rfl⟩ (by omega) (Nat.le_of_ble_eq_true rfl) (fun r_60 X_60 h_60 => ?_)
  obtain ⟨⟨r, hr, rfl⟩, rfl⟩ := h_60
  refine r_istore C dL_law_63 (by decide) ?_
  refine r_iload C dL_law_65 rfl ?_
  refine r_bipush (v := 6) C dL_law_67 (by decide) ?_
  refine r_ishr C dL_law_69 ?_
  refine r_iconst (v := 4) C dL_law_70 (by decide) ?_
  refine cl_RL_24 C (con_L_below l hfl (N := 4) _ (by decide) (by decide)) dL_law_71 rfl ⟨Nat.le_of_ble_eq_true rfl, Nat.le_of_ble_eq_true rfl⟩ (by omega) (Nat.le_of_ble_eq_true rfl) (fun r_71 X_71 h_71 => ?_)
  obtain ⟨⟨q, hq, rfl⟩, rfl⟩ := h_71
  obtain ⟨w, hw, ew⟩ := and7 r_50
  refine r_istore C dL_law_74 (by decide) ?_
  refine r_iload C dL_law_76 rfl ?_
  refine r_bipush (v := 7) C dL_law_78 (by decide) ?_
  refine r_iand C dL_law_80 ?_
  refine r_topi ew ?_
  refine r_istore C dL_law_81 (by decide) ?_
  refine r_iload C dL_law_83 rfl ?_
  refine r_iconst (v := 3) C dL_law_85 (by decide) ?_
  refine r_icmp_ge (tgt := 151) C dL_law_86 (by decide) (fun c_86 => ?_) (fun c_86 => ?_)
  · -- 151
    refine r_iload C dL_law_151 rfl ?_
    refine r_iconst (v := 3) C dL_law_153 (by decide) ?_
    refine r_icmp_ne (tgt := 203) C dL_law_154 (by decide) (fun c_154 => ?_) (fun c_154 => ?_)
    · -- 203
      refine r_iload C dL_law_203 rfl ?_
      refine r_bipush (v := 6) C dL_law_205 (by decide) ?_
      refine r_icmp_ge (tgt := 254) C dL_law_207 (by decide) (fun c_207 => ?_) (fun c_207 => ?_)
      · -- 254
        refine r_aload_n C dL_law_254 rfl rfl ?_
        refine r_iload C dL_law_255 rfl ?_
        refine r_iload C dL_law_257 rfl ?_
        refine r_bipush (v := 6) C dL_law_259 (by decide) ?_
        refine r_icmp_ne (tgt := 268) C dL_law_261 (by decide) (fun c_261 => ?_) (fun c_261 => ?_)
        · -- 268
          have e4 : false = decide (w = 6) := (decide_eq_false (fun q9 => c_261 (by rw [q9]; rfl))).symm
          refine r_iconst (v := 0) C dL_law_268 (by decide) ?_
          exact law_col hfl CL hG hI hr hq hu go hw _ e4
        · -- 264
          have e4 : true = decide (w = 6) := (decide_eq_true ((nI_eq (b := 6) (by omega) (by omega)).mp c_261)).symm
          refine r_iconst (v := 1) C dL_law_264 (by decide) ?_
          refine r_goto (tgt := 269) C dL_law_265 (by decide) ?_
          exact law_col hfl CL hG hI hr hq hu go hw _ e4
      · -- 210
        refine r_aload_n C dL_law_210 rfl rfl ?_
        refine r_iload C dL_law_211 rfl ?_
        refine r_iload C dL_law_213 rfl ?_
        refine r_iconst (v := 4) C dL_law_215 (by decide) ?_
        refine r_icmp_ne (tgt := 223) C dL_law_216 (by decide) (fun c_216 => ?_) (fun c_216 => ?_)
        · -- 223
          have e4 : false = decide (w = 4) := (decide_eq_false (fun q9 => c_216 (by rw [q9]; rfl))).symm
          refine r_iconst (v := 0) C dL_law_223 (by decide) ?_
          exact law_row hfl CL hG hI hr hq hu go hw _ e4
        · -- 219
          have e4 : true = decide (w = 4) := (decide_eq_true ((nI_eq (b := 4) (by omega) (by omega)).mp c_216)).symm
          refine r_iconst (v := 1) C dL_law_219 (by decide) ?_
          refine r_goto (tgt := 224) C dL_law_220 (by decide) ?_
          exact law_row hfl CL hG hI hr hq hu go hw _ e4
    · -- 157
      exact law_forbid hfl CL hG hI hr hq hu go
  · -- 89
    exact law_cost hfl CL hG hI hr hq hu go
