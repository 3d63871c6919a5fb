/-! ===== the law's build ===== -/
/-- the pair's cell, the law's number i; the values that the law gives -/
def zk (A : DA) (i : Nat) : Int := A.z (10 * (i / 4) + i % 4)
abbrev zr (x : Int) : Prop := x = 20000 ∨ (-4 ≤ x ∧ x ≤ 6)
theorem cw_z : cw 20000 = 99 := by decide
theorem cw_n {x : Int} (h : -4 ≤ x ∧ x ≤ 6) : cw x = x := by unfold cw; rw [if_neg (by omega)]
theorem cw_bd {x : Int} (h : zr x) : -4 ≤ cw x ∧ cw x ≤ 99 := by unfold cw; split <;> omega
theorem zk_up {A : DA} {R C ra ca k i : Nat} {v : Int} (hk : k < 16) (hi : i < 16) : zk (A.tab R C ra ca (zup A.z (10 * (k / 4) + k % 4) v)) i = if i = k then v else zk A i := by
  show (if 10 * (i / 4) + i % 4 = 10 * (k / 4) + k % 4 then v else A.z (10 * (i / 4) + i % 4)) = _
  by_cases e : i = k
  · rw [if_pos e, if_pos (by rw [e])]
  · rw [if_neg e, if_neg (by omega)]
    rfl
/-- what holds while the first k pairs are set -/
def BI (X : St) (A : DA) (k : Nat) : Prop := DInv X A ∧ A.R = 4 ∧ A.C = 4 ∧ A.ra = 15 ∧ A.ca = 15 ∧ ∀ i, i < 16 → (i < k → zr (zk A i) ∧ Zv X 36 i = i32 (cw (zk A i))) ∧ (k ≤ i → zk A i = 20000)
theorem sb_15 : ∀ k, k < 4 → sb (2 ^ k - 1) k = 2 ^ (k + 1) - 1 := by decide
set_option maxHeartbeats 4000000 in
set_option maxRecDepth 100000 in
theorem lp_L_build1 {l : Launch} {G : Geo} {J : JT} {JX : JXT} (hfl : l.stackTraces = false) (hk9 : ∀ X A u, u ≤ 8 → BI X A 0 → J X u 35 [(4, .int (nI 4)), (0, .ref (G.2.1 0)), (1, .ref (Gb G)), (2, .int 0), (3, .ref (G.2.1 36))] []) (CE : Cl l RL cL_build 6 (some .boolean) [] G 9 200 56 (kI (fun r9 X' => r9 = 1 ∧ ∃ A', BI X' A' 16)) kF J JX) :
    ∀ n k u X A, k + n = 4 → u ≤ 2 * k → DInv X A → A.R = k → A.C = k → A.ra = 2 ^ k - 1 → A.ca = 2 ^ k - 1 → (∀ i, i < 100 → A.z i = 20000) → J X u 3 [(4, .int (nI k)), (0, .ref (G.2.1 0)), (1, .ref (Gb G)), (2, .int 0), (3, .ref (G.2.1 36))] [] := by
  have C := CE.b
  intro n
  induction n with
  | zero =>
    intro k u X A h hu hD hR hC hra hca hz
    have hk : k = 4 := by omega
    subst hk
    refine r_iload C dL_build_3 rfl ?_
    refine r_iconst (v := 4) C dL_build_5 (by decide) ?_
    refine r_icmp_ge (tgt := 35) C dL_build_6 (by decide) (fun c_6 => ?_) (fun c_6 => absurd ((by decide)) c_6)
    refine r_sub C (lv' := [(4, .int (nI 4)), (0, .ref (G.2.1 0)), (1, .ref (Gb G)), (2, .int 0), (3, .ref (G.2.1 36))]) ⟨rfl, rfl, rfl, rfl, rfl, trivial⟩ ?_
    exact hk9 X A u (by omega) ⟨hD, hR, hC, hra, hca, fun i hi => ⟨fun q => absurd q (Nat.not_lt_zero i), fun _ => hz _ (by omega)⟩⟩
  | succ n ih =>
    intro k u X A h hu hD hR hC hra hca hz
    have hk : k < 4 := by omega
    refine r_iload C dL_build_3 rfl ?_
    refine r_iconst (v := 4) C dL_build_5 (by decide) ?_
    refine r_icmp_ge (tgt := 35) C dL_build_6 (by decide) (fun c_6 => absurd c_6 ((nI_ge (a := k) (b := 4) (by omega) (by decide)))) (fun c_6 => ?_)
    refine r_aload_n C dL_build_9 rfl rfl ?_
    refine cl_RL_9 C (con_X5_addRow l hfl _ hD) dL_build_10 rfl ⟨Nat.le_of_ble_eq_true rfl, Nat.le_of_ble_eq_true rfl⟩ (by omega) (Nat.le_of_ble_eq_true rfl) (fun E_10 X_10 x_10 => ?_) (fun r_10 X_10 h_10 => ?_)
    · -- thrown
      exact absurd x_10.2.2 (by omega)
    obtain ⟨rfl, -, hD1, hF1⟩ := h_10
    refine r_topi (show _ = nI k by rw [hR]) ?_
    refine r_iload C dL_build_13 rfl ?_
    refine r_icmp_ne (tgt := 27) C dL_build_15 (by decide) (fun c_15 => absurd (rfl) c_15) (fun c_15 => ?_)
    refine r_aload_n C dL_build_18 rfl rfl ?_
    refine cl_RL_15 C (con_X5_addColumn l hfl _ hD1) dL_build_19 rfl ⟨Nat.le_of_ble_eq_true rfl, Nat.le_of_ble_eq_true rfl⟩ (by omega) (Nat.le_of_ble_eq_true rfl) (fun E_19 X_19 x_19 => ?_) (fun r_19 X_19 h_19 => ?_)
    · -- thrown
      exact absurd x_19.2.2 (show ¬ A.C = 10 by omega)
    obtain ⟨rfl, -, hD2, hF2⟩ := h_19
    refine r_topi (show _ = nI k by show nI A.C = nI k; rw [hC]) ?_
    refine r_iload C dL_build_22 rfl ?_
    refine r_icmp_eq (tgt := 29) C dL_build_24 (by decide) (fun c_24 => ?_) (fun c_24 => absurd (rfl) c_24)
    refine r_iinc (v := _) C dL_build_29 rfl (nI_1 k) ?_
    refine r_goto (tgt := 3) C dL_build_32 (by decide) ?_
    refine r_sub C (lv' := [(4, .int (nI (k + 1))), (0, .ref (G.2.1 0)), (1, .ref (Gb G)), (2, .int 0), (3, .ref (G.2.1 36))]) ⟨rfl, rfl, rfl, rfl, rfl, trivial⟩ ?_
    exact ih (k + 1) _ _ _ (by omega) (by omega) hD2 (show A.R + 1 = k + 1 by omega) (show A.C + 1 = k + 1 by omega) (show sb A.ra A.R = 2 ^ (k + 1) - 1 by rw [hra, hR, sb_15 k hk]) (show sb A.ca A.C = 2 ^ (k + 1) - 1 by rw [hca, hC, sb_15 k hk]) hz

set_option maxHeartbeats 4000000 in
set_option maxRecDepth 100000 in
theorem lp_L_build2 {l : Launch} {G : Geo} {J : JT} {JX : JXT} (hfl : l.stackTraces = false) (hG : Gn G = 1) (hGl : Gl G ≤ 260) (CE : Cl l RL cL_build 6 (some .boolean) [] G 9 200 56 (kI (fun r9 X' => r9 = 1 ∧ ∃ A', BI X' A' 16)) kF J JX) :
    ∀ n k u X A, k + n = 16 → u ≤ 8 + 3 * k → BI X A k → J X u 38 [(4, .int (nI k)), (0, .ref (G.2.1 0)), (1, .ref (Gb G)), (2, .int 0), (3, .ref (G.2.1 36))] [] := by
  have C := CE.b
  intro n
  induction n with
  | zero =>
    intro k u X A h hu hB
    have hk : k = 16 := by omega
    subst hk
    refine r_iload C dL_build_38 rfl ?_
    refine r_bipush (v := 16) C dL_build_40 (by decide) ?_
    refine r_icmp_ge (tgt := 118) C dL_build_42 (by decide) (fun c_42 => ?_) (fun c_42 => absurd ((by decide)) c_42)
    refine r_iconst (v := 1) C dL_build_118 (by decide) ?_
    exact r_iret CE rfl rfl dL_build_119 (by omega) ⟨_, rfl, rfl, A, hB⟩
  | succ n ih =>
    intro k u X A h hu hB
    have hk : k < 16 := by omega
    obtain ⟨hD, hR, hC, hra, hca, hz⟩ := hB
    have tl : ∀ (w : Int) (x5 : Int32), (w = 99 ∨ (-4 ≤ w ∧ w ≤ 6)) → J X u 81 [(5, .int x5), (4, .int (nI k)), (0, .ref (G.2.1 0)), (1, .ref (Gb G)), (2, .int 0), (3, .ref (G.2.1 36))] [.int (i32 w), .int (nI k), .ref (G.2.1 36)] := by
      intro w x5 hw
      refine r_iast C (k) (by omega) rfl rfl (by omega) dL_build_81 ?_
      have hD1 : DInv (Yv X 36 (upd (Zv X 36) k (i32 w))) A := hD.fr (P := fun i => i = 36) (Fr.v _ rfl) (fun i hi _ _ q => by omega)
      refine r_aload_n C dL_build_82 rfl rfl ?_
      refine r_iload C dL_build_83 rfl ?_
      refine r_iald C (k) (by omega) rfl rfl (by omega) dL_build_85 ?_
      refine r_topi (show _ = i32 w by rw [Zv_Yv, if_pos rfl]; unfold upd; rw [if_pos rfl]) ?_
      refine r_bipush (v := 99) C dL_build_86 (by decide) ?_
      refine r_icmp_ge (tgt := 112) C dL_build_88 (by decide) (fun c_88 => ?_) (fun c_88 => ?_)
      · -- 112
        have h99 : 99 ≤ w := (i32_le (a := 99) (b := w) (by decide) (by omega)).mp c_88
        have hB9 : BI (Yv X 36 (upd (Zv X 36) k (i32 w))) A (k + 1) := ⟨hD1, hR, hC, hra, hca, fun i hi => ⟨fun q => by
          by_cases e : i = k
          · subst e
            rw [(hz i hi).2 (Nat.le_refl i), Zv_Yv, if_pos rfl]
            refine ⟨Or.inl rfl, ?_⟩
            unfold upd
            rw [if_pos rfl, cw_z, show w = 99 by omega]
          · rw [Zv_Yv, if_pos rfl]
            unfold upd
            rw [if_neg e]
            exact (hz i hi).1 (by omega), fun q => (hz i hi).2 (by omega)⟩⟩
        refine r_iinc (v := _) C dL_build_112 rfl (nI_1 k) ?_
        refine r_goto (tgt := 38) C dL_build_115 (by decide) ?_
        refine r_sub C (lv' := [(4, .int (nI (k + 1))), (0, .ref (G.2.1 0)), (1, .ref (Gb G)), (2, .int 0), (3, .ref (G.2.1 36))]) ⟨rfl, rfl, rfl, rfl, rfl, trivial⟩ ?_
        exact ih (k + 1) _ _ _ (by omega) (by omega) hB9
      · -- 91
        have h99 : ¬ 99 ≤ w := fun q => c_88 ((i32_le (a := 99) (b := w) (by decide) (by omega)).mpr q)
        have hw6 : -4 ≤ w ∧ w ≤ 6 := by omega
        have hwi : (i32 w).toInt = w := i32_int (by omega) (by omega)
        refine r_aload_n C dL_build_91 rfl rfl ?_
        refine r_iload C dL_build_92 rfl ?_
        refine r_iconst (v := 4) C dL_build_94 (by decide) ?_
        refine r_idiv C dL_build_95 (by decide) ?_
        refine r_topi (i32_tdiv (N := 4) (by omega) (by decide)) ?_
        refine r_iload C dL_build_96 rfl ?_
        refine r_iconst (v := 4) C dL_build_98 (by decide) ?_
        refine r_irem C dL_build_99 (by decide) ?_
        refine r_topi (irem_n (N := 4) (by omega) (by decide)) ?_
        refine r_aload_n C dL_build_100 rfl rfl ?_
        refine r_iload C dL_build_101 rfl ?_
        refine r_iald C (k) (by omega) rfl rfl (by omega) dL_build_103 ?_
        refine r_topi (show _ = i32 w by rw [Zv_Yv, if_pos rfl]; unfold upd; rw [if_pos rfl]) ?_
        refine cl_RL_28 C (con_X5_setCost l hfl _ hD1) dL_build_104 rfl ⟨Nat.le_of_ble_eq_true rfl, Nat.le_of_ble_eq_true rfl⟩ (by omega) (Nat.le_of_ble_eq_true rfl) (fun E_104 X_104 x_104 => ?_) (fun r_104 X_104 h_104 => ?_)
        · -- thrown
          rcases x_104 with ⟨-, -, h9⟩ | ⟨-, -, -, -, h9⟩
          · rw [hR, hC, inI_n (by omega), inI_n (by omega), decide_eq_true (by omega), decide_eq_true (by omega)] at h9
            cases h9
          · rw [hwi, inC_1 (by omega) (by omega)] at h9
            cases h9
        obtain ⟨r9, c9, hr9, hc9, er, ec, -, rfl, hD2, hF2⟩ := h_104
        rw [hR] at hr9
        rw [hC] at hc9
        have er2 : k / 4 = r9 := (nI_eq (by omega) (by omega)).mp er
        have ec2 : k % 4 = c9 := (nI_eq (by omega) (by omega)).mp ec
        subst er2
        subst ec2
        rw [hwi] at hD2
        have hz0 : A.z (10 * (k / 4) + k % 4) = 20000 := (hz k hk).2 (Nat.le_refl k)
        have hB9 : BI X_104 (A.tab A.R A.C A.ra A.ca (zup A.z (10 * (k / 4) + k % 4) w)) (k + 1) := ⟨hD2, hR, hC, hra, hca, fun i hi => ⟨fun q => by
          rw [zk_up hk hi, (hF2 36 (by decide)).2.1, Zv_Yv, if_pos rfl]
          unfold upd
          by_cases e : i = k
          · rw [if_pos e, if_pos e, cw_n hw6]
            exact ⟨Or.inr hw6, rfl⟩
          · rw [if_neg e, if_neg e]
            exact (hz i hi).1 (by omega), fun q => by
          rw [zk_up hk hi, if_neg (by omega)]
          exact (hz i hi).2 (by omega)⟩⟩
        refine r_topi (show _ = 0 by rw [al_0 hz0]; rfl) ?_
        refine r_if_eq (tgt := 112) C dL_build_107 (by decide) (fun c_107 => ?_) (fun c_107 => absurd (rfl) c_107)
        refine r_iinc (v := _) C dL_build_112 rfl (nI_1 k) ?_
        refine r_goto (tgt := 38) C dL_build_115 (by decide) ?_
        refine r_sub C (lv' := [(4, .int (nI (k + 1))), (0, .ref (G.2.1 0)), (1, .ref (Gb G)), (2, .int 0), (3, .ref (G.2.1 36))]) ⟨rfl, rfl, rfl, rfl, rfl, trivial⟩ ?_
        exact ih (k + 1) _ _ _ (by omega) (by omega) hB9
    refine r_iload C dL_build_38 rfl ?_
    refine r_bipush (v := 16) C dL_build_40 (by decide) ?_
    refine r_icmp_ge (tgt := 118) C dL_build_42 (by decide) (fun c_42 => absurd c_42 ((nI_ge (a := k) (b := 16) (by omega) (by decide)))) (fun c_42 => ?_)
    refine r_aload_n C dL_build_45 rfl rfl ?_
    refine r_iload_n C dL_build_46 rfl rfl ?_
    refine r_iload C dL_build_47 rfl ?_
    refine r_iadd C dL_build_49 ?_
    refine r_topi (show _ = nI k from Int32.zero_add _) ?_
    refine ca_RL_18 C (con_L_cell l hfl G _ (k := k) hGl (by omega)) dL_build_50 rfl ⟨Nat.le_of_ble_eq_true rfl, Nat.le_of_ble_eq_true rfl⟩ (by omega) (Nat.le_of_ble_eq_true rfl) (fun r_50 X_50 h_50 => ?_)
    subst h_50
    refine r_istore C dL_build_53 (by decide) ?_
    refine r_aload_n C dL_build_55 rfl rfl ?_
    refine r_iload C dL_build_56 rfl ?_
    refine r_iload C dL_build_58 rfl ?_
    refine r_iconst (v := 3) C dL_build_60 (by decide) ?_
    refine r_iand C dL_build_61 ?_
    refine r_if_ne (tgt := 70) C dL_build_62 (by decide) (fun c_62 => ?_) (fun c_62 => ?_)
    · -- 70
      refine r_iload C dL_build_70 rfl ?_
      refine r_iconst (v := 2) C dL_build_72 (by decide) ?_
      refine r_ishr C dL_build_73 ?_
      refine r_bipush (v := 9) C dL_build_74 (by decide) ?_
      refine cl_RL_24 C (con_L_below l hfl (N := 9) _ (by decide) (by decide)) dL_build_76 rfl ⟨Nat.le_of_ble_eq_true rfl, Nat.le_of_ble_eq_true rfl⟩ (by omega) (Nat.le_of_ble_eq_true rfl) (fun r_76 X_76 h_76 => ?_)
      obtain ⟨⟨j, hj, rfl⟩, rfl⟩ := h_76
      refine r_iconst (v := 3) C dL_build_79 (by decide) ?_
      refine r_isub C dL_build_80 ?_
      refine r_topi (show _ = i32 ((j : Int) - 3) from i32_sub (j : Int) 3) ?_
      exact tl _ _ (by first | exact Or.inl rfl | exact Or.inr ⟨by omega, by omega⟩)
    · -- 65
      refine r_bipush (v := 99) C dL_build_65 (by decide) ?_
      refine r_topi k99 ?_
      refine r_goto (tgt := 81) C dL_build_67 (by decide) ?_
      exact tl _ _ (by first | exact Or.inl rfl | exact Or.inr ⟨by omega, by omega⟩)

set_option maxHeartbeats 4000000 in
set_option maxRecDepth 100000 in
/-- L_build  -/
theorem con_L_build (l : Launch) (hfl : l.stackTraces = false) (G : Geo) {A : DA} (X : St) (hG : Gn G = 1) (hGl : Gl G ≤ 260) (hD : DInv X A) (hR : A.R = 0) (hC : A.C = 0) (hra : A.ra = 0) (hca : A.ca = 0) (hz : ∀ i, i < 100 → A.z i = 20000) : ConAt l G yL_build cL_build 6 (some (FieldType.boolean)) 9 200 56 [.ref (G.2.1 0), .ref (Gb G), .int 0, .ref (G.2.1 36)] X (kI (fun r9 X' => r9 = 1 ∧ ∃ A', BI X' A' 16)) kF := by
  refine conAt_of (lv := [(0, .ref (G.2.1 0)), (1, .ref (Gb G)), (2, .int 0), (3, .ref (G.2.1 36))]) hfl (by decide +kernel) rfl (Nat.le_of_ble_eq_true rfl) ?_
  intro J JX CE
  have C := CE.b
  refine r_iconst (v := 0) C dL_build_0 (by decide) ?_
  refine r_istore C dL_build_1 (by decide) ?_
  refine r_sub C (lv' := [(4, .int (nI 0)), (0, .ref (G.2.1 0)), (1, .ref (Gb G)), (2, .int 0), (3, .ref (G.2.1 36))]) ⟨rfl, rfl, rfl, rfl, rfl, trivial⟩ ?_
  exact lp_L_build1 hfl (fun X9 A9 u9 hu9 hB9 => by
      refine r_iconst (v := 0) C dL_build_35 (by decide) ?_
      refine r_istore C dL_build_36 (by decide) ?_
      refine r_sub C (lv' := [(4, .int (nI 0)), (0, .ref (G.2.1 0)), (1, .ref (Gb G)), (2, .int 0), (3, .ref (G.2.1 36))]) ⟨rfl, rfl, rfl, rfl, rfl, trivial⟩ ?_
      exact lp_L_build2 hfl hG hGl CE 16 0 u9 X9 A9 (by omega) (by omega) hB9) CE 4 0 0 X A (by omega) (by omega) hD hR hC hra hca hz
