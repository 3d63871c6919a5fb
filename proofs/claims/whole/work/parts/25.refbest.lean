theorem szcs {k : Nat} {v w : Int} (hv : kv k v) (hw : kv k w) (hk : k ≤ 10) : szf v = szf w ∧ csf v = csf w ↔ v = w := by
  obtain ⟨s, c, h1, h2, h3, _⟩ := kv_s hv hk
  obtain ⟨s', c', g1, g2, g3, _⟩ := kv_s hw hk
  rw [h2, h3, g2, g3]
  constructor
  · rintro ⟨rfl, rfl⟩; rw [h1, g1]
  · intro e
    subst e
    exact ⟨h2.symm.trans g2, h3.symm.trans g3⟩
theorem tof_lt {T c C : Nat} (hT : T < 2 ^ C) (hc : c < 10 → c < C) (hc2 : c < 11) : tof T c < 2 ^ C := by
  unfold tof
  split
  · exact hT
  · exact sb_lt hT (hc (by omega))
theorem z1024' (r T : Nat) : (1024 : Int32) * (nI r + 1) + nI T = nI (1024 * (r + 1) + T) := by rw [nI_1 r, z1024]
theorem bitT {T c : Nat} (hT : T < 4096) : nI (T &&& 2 ^ c) = 0 ↔ T.testBit c = false := bitp hT
/-- what isBest compares -/
theorem best_i {ch : Nat → Nat} {s : Nat → Nat → Int} {R r T c k : Nat} {p : Int × Int32} (hr : r < R) (hR : R ≤ 10) (ha : alb (ch r) T c) (h0 : gT ch s R (R - r) T = some p) (hk : k = R - (r + 1)) (hok : ∀ U, okO k (gT ch s R k U)) (hs : c < 10 → ∃ x, s r c = x - 1000000 ∧ (-10000 ≤ x ∧ x ≤ 20000)) (hpk : kv (k + 1) p.1) (hc : c < 11) :
    gopt ch s R r T c = true ↔ (oSi (gT ch s R k (tof T c)) + (if c = 10 then 0 else 1) = szf p.1 ∧ oCi (gT ch s R k (tof T c)) + (if c = 10 then 0 else s r c + 1000000) = csf p.1) := by
  subst hk
  rw [gopt_i]
  have hk10 : R - (r + 1) < 10 := by omega
  cases hq : gT ch s R (R - (r + 1)) (tof T c) with
  | none =>
    constructor
    · rintro ⟨_, a, b, h1, _⟩; cases h1
    · rintro ⟨h1, _⟩
      obtain ⟨s', c', _, e2, _, e4, _⟩ := kv_s hpk (by omega)
      rw [e2] at h1
      have h1 : (-100 : Int) + (if c = 10 then 0 else 1) = s' := h1
      split at h1 <;> omega
  | some q =>
    have hqk : kv (R - (r + 1)) q.1 := hok _ q hq
    have hv : kv (R - (r + 1) + 1) (vof (s r) c + q.1) ∧ szf (vof (s r) c + q.1) = szf q.1 + (if c = 10 then 0 else 1) ∧ csf (vof (s r) c + q.1) = csf q.1 + (if c = 10 then 0 else s r c + 1000000) := by
      by_cases e : c = 10
      · subst e
        rw [vof, if_pos rfl, if_pos rfl, if_pos rfl, Int.zero_add, Int.add_zero, Int.add_zero]
        exact ⟨kv_up hqk, rfl, rfl⟩
      · rw [vof, if_neg e, if_neg e, if_neg e]
        obtain ⟨x, hx, hx2⟩ := hs (by omega)
        rw [hx, show x - 1000000 + 1000000 = x by omega]
        exact ⟨kv_add hqk hx2, (kv_szf hqk hk10 hx2).1, (kv_szf hqk hk10 hx2).2⟩
    show _ ↔ (szf q.1 + _ = _ ∧ csf q.1 + _ = _)
    rw [← hv.2.1, ← hv.2.2, szcs hv.1 hpk (by omega)]
    exact ⟨fun ⟨_, a, b, h1, h2, h3⟩ => by cases h1; rw [h0] at h2; cases h2; exact h3, fun h => ⟨ha, q, p, rfl, h0, h⟩⟩
set_option maxHeartbeats 4000000 in
set_option maxRecDepth 100000 in
/-- X6_isBest  -/
theorem con_isBestc (l : Launch) (hfl : l.stackTraces = false) {R C0 r T c : Nat} {ch : Nat → Nat} {s : Nat → Nat → Int} {p : Int × Int32} (X : St) (hR2 : R ≤ 10) (hC2 : C0 ≤ 10) (hch : chk X ch s R C0) (hTH : TH X ch s R C0 0) (hr : r < R) (hT : T < 2 ^ C0) (h0 : gT ch s R (R - r) T = some p) (hc : c < 10) : Con l yX6_isBest cX6_isBest 6 (some (FieldType.boolean)) 2 60 0 (fun G => [.ref (G.2.1 37), .int (nI r), .int (nI T), .int (nI (1024 * r + T)), .int (nI (2 ^ c))]) X (kI (fun r9 X' => r9 = bI (gopt ch s R r T c) ∧ X = X')) kF := by
  refine con_of (lv := fun G => [(0, .ref (G.2.1 37)), (1, .int (nI r)), (2, .int (nI T)), (3, .int (nI (1024 * r + T))), (4, .int (nI (2 ^ c)))]) hfl (by decide +kernel) (fun _ => rfl) (fun _ => Nat.le_of_ble_eq_true rfl) ?_
  intro G J JX CE
  have C := CE.b
  have hp2 := pw1024 hC2 hT
  obtain ⟨a1, a2, a3⟩ := hch r hr
  have hok := okO_gT hch (R - (r + 1)) (by omega)
  have hpk : kv (R - (r + 1) + 1) p.1 := by
    have h9 := okO_gT hch (R - r) (by omega) T p h0
    rw [show R - r = R - (r + 1) + 1 by omega] at h9
    exact h9
  have hb9 := oSi_bd (hok (tof T c)) (by omega)
  obtain ⟨s9, c9, q1, q2, q3, q4, q5, q6, q7⟩ := kv_s hpk (by omega)
  have hA9 : OHold X (1024 * r + T) (gT ch s R (R - r) T) := hTH r T (Nat.zero_le _) (by omega) hT
  rw [h0] at hA9
  refine r_aload_n C dX6_isBest_0 rfl rfl ?_
  refine gf_RX6_50 C dX6_isBest_1 ?_
  refine r_iload_n C dX6_isBest_4 rfl rfl ?_
  refine r_iald C (r) (by decide) rfl rfl (by omega) dX6_isBest_5 ?_
  refine r_topi a1 ?_
  refine r_iload C dX6_isBest_6 rfl ?_
  refine r_iand C dX6_isBest_8 ?_
  refine r_topi (zand (ch r) (2 ^ c)) ?_
  refine r_if_eq (tgt := 19) C dX6_isBest_9 (by decide) (fun c_9 => ?_) (fun c_9 => ?_)
  · -- 19
    have hb1 := (bitp (by omega)).mp c_9
    have e : gopt ch s R r T c = false := by rw [gopt, hb1]; rfl
    refine r_iconst (v := 0) C dX6_isBest_19 (by decide) ?_
    exact r_iret CE rfl rfl dX6_isBest_20 (Nat.le_of_ble_eq_true rfl) ⟨_, rfl, by rw [e]; rfl, rfl⟩
  · -- 12
    have hb1 : (ch r).testBit c = true := nfb (fun q => c_9 ((bitp (by omega)).mpr q))
    refine r_iload_n C dX6_isBest_12 rfl rfl ?_
    refine r_iload C dX6_isBest_13 rfl ?_
    refine r_iand C dX6_isBest_15 ?_
    refine r_topi (zand T (2 ^ c)) ?_
    refine r_if_eq (tgt := 21) C dX6_isBest_16 (by decide) (fun c_16 => ?_) (fun c_16 => ?_)
    · -- 21
      have hb2 := (bitp (m := T) (by omega)).mp c_16
      have hab : alb (ch r) T c := ⟨hb1, Or.inr hb2⟩
      obtain ⟨x1, x, x2, x3, x4⟩ := a3 c hc hb1
      have hlt9 : tof T c < 2 ^ C0 := tof_lt hT (fun _ => x1) (by omega)
      have hlt8 := pw1024 hC2 hlt9
      have hN9 : OHold X (1024 * (r + 1) + tof T c) (gT ch s R (R - (r + 1)) (tof T c)) := hTH (r + 1) (tof T c) (Nat.zero_le _) hr hlt9
      rw [OHold, oS_i, oC_i] at hN9
      have hbest := best_i (c := c) hr hR2 hab h0 rfl hok (fun hc9 => ⟨x, x2, x3⟩) hpk (by omega)
      rw [if_neg (by omega), if_neg (by omega)] at hbest
      refine r_sipush (v := 1024) C dX6_isBest_21 (by decide) ?_
      refine r_iload_n C dX6_isBest_24 rfl rfl ?_
      refine r_iconst (v := 1) C dX6_isBest_25 (by decide) ?_
      refine r_iadd C dX6_isBest_26 ?_
      refine r_imul C dX6_isBest_27 ?_
      refine r_iload C dX6_isBest_28 rfl ?_
      refine r_sipush (v := 1024) C dX6_isBest_30 (by decide) ?_
      refine r_icmp_ne (tgt := 40) C dX6_isBest_33 (by decide) (fun c_33 => ?_) (fun c_33 => absurd c_33 ((fun q => absurd ((two10 c (by omega)).mp q) (by omega))))
      refine r_iload_n C dX6_isBest_40 rfl rfl ?_
      refine r_iload C dX6_isBest_41 rfl ?_
      refine r_ior C dX6_isBest_43 ?_
      refine r_topi (zor T (2 ^ c)) ?_
      refine r_iadd C dX6_isBest_44 ?_
      refine r_topi (show _ = nI (1024 * (r + 1) + tof T c) from (by rw [tof, if_neg (by omega)]; exact z1024' r (T ||| 2 ^ c))) ?_
      refine r_istore C dX6_isBest_45 (by decide) ?_
      refine r_aload_n C dX6_isBest_47 rfl rfl ?_
      refine gf_RX6_41 C dX6_isBest_48 ?_
      refine r_iload C dX6_isBest_51 rfl ?_
      refine r_iald C (1024 * (r + 1) + tof T c) (by decide) rfl rfl (by omega) dX6_isBest_53 ?_
      refine r_topi hN9.1 ?_
      refine r_iload C dX6_isBest_54 rfl ?_
      refine r_sipush (v := 1024) C dX6_isBest_56 (by decide) ?_
      refine r_icmp_ne (tgt := 66) C dX6_isBest_59 (by decide) (fun c_59 => ?_) (fun c_59 => absurd c_59 ((fun q => absurd ((two10 c (by omega)).mp q) (by omega))))
      refine r_iconst (v := 1) C dX6_isBest_66 (by decide) ?_
      refine r_iadd C dX6_isBest_67 ?_
      refine r_topi (show _ = i32 (oSi (gT ch s R (R - (r + 1)) (tof T c)) + 1) by rw [← i32_add]; rfl) ?_
      refine r_aload_n C dX6_isBest_68 rfl rfl ?_
      refine gf_RX6_41 C dX6_isBest_69 ?_
      refine r_iload_n C dX6_isBest_72 rfl rfl ?_
      refine r_iald C (1024 * r + T) (by decide) rfl rfl (by omega) dX6_isBest_73 ?_
      refine r_topi (show _ = i32 (szf p.1) from hA9.1) ?_
      refine r_icmp_ne (tgt := 105) C dX6_isBest_74 (by decide) (fun c_74 => ?_) (fun c_74 => ?_)
      · -- 105
        have e : gopt ch s R r T c = false := by
          cases h9 : gopt ch s R r T c with
          | false => rfl
          | true => exact absurd (congrArg i32 (hbest.mp h9).1) c_74
        refine r_iconst (v := 0) C dX6_isBest_105 (by decide) ?_
        exact r_iret CE rfl rfl dX6_isBest_106 (Nat.le_of_ble_eq_true rfl) ⟨_, rfl, by rw [e]; rfl, rfl⟩
      · -- 77
        have e74 := (i32_eq (by omega) (by omega)).mp c_74
        refine r_aload_n C dX6_isBest_77 rfl rfl ?_
        refine gf_RX6_44 C dX6_isBest_78 ?_
        refine r_iload C dX6_isBest_81 rfl ?_
        refine r_iald C (1024 * (r + 1) + tof T c) (by decide) rfl rfl (by omega) dX6_isBest_83 ?_
        refine r_topi hN9.2.1 ?_
        refine r_aload_n C dX6_isBest_84 rfl rfl ?_
        refine r_iload_n C dX6_isBest_85 rfl rfl ?_
        refine r_iload C dX6_isBest_86 rfl ?_
        refine cl_RX6_130 C (con_X6_costOf l hfl _ (r := r) (c := c) (by omega) (by omega)) dX6_isBest_88 rfl ⟨Nat.le_of_ble_eq_true rfl, Nat.le_of_ble_eq_true rfl⟩ (by omega) (Nat.le_of_ble_eq_true rfl) (fun r_88 X_88 h_88 => ?_)
        obtain ⟨rfl, rfl⟩ := h_88
        refine r_topi (show _ = i32 (s r c + 1000000) by rw [if_neg (by omega), x4, x2, show x - 1000000 + 1000000 = x by omega]) ?_
        refine r_iadd C dX6_isBest_91 ?_
        refine r_topi (i32_add _ _) ?_
        refine r_aload_n C dX6_isBest_92 rfl rfl ?_
        refine gf_RX6_44 C dX6_isBest_93 ?_
        refine r_iload_n C dX6_isBest_96 rfl rfl ?_
        refine r_iald C (1024 * r + T) (by decide) rfl rfl (by omega) dX6_isBest_97 ?_
        refine r_topi (show _ = i32 (csf p.1) from hA9.2.1) ?_
        refine r_icmp_ne (tgt := 105) C dX6_isBest_98 (by decide) (fun c_98 => ?_) (fun c_98 => ?_)
        · -- 105
          have e : gopt ch s R r T c = false := by
            cases h9 : gopt ch s R r T c with
            | false => rfl
            | true => exact absurd (congrArg i32 (hbest.mp h9).2) c_98
          refine r_iconst (v := 0) C dX6_isBest_105 (by decide) ?_
          exact r_iret CE rfl rfl dX6_isBest_106 (Nat.le_of_ble_eq_true rfl) ⟨_, rfl, by rw [e]; rfl, rfl⟩
        · -- 101
          have e : gopt ch s R r T c = true := hbest.mpr ⟨e74, (i32_eq (by omega) (by omega)).mp c_98⟩
          refine r_iconst (v := 1) C dX6_isBest_101 (by decide) ?_
          refine r_goto (tgt := 106) C dX6_isBest_102 (by decide) ?_
          exact r_iret CE rfl rfl dX6_isBest_106 (Nat.le_of_ble_eq_true rfl) ⟨_, rfl, by rw [e]; rfl, rfl⟩
    · -- 19
      have hb2 : T.testBit c = true := nfb (fun q => c_16 ((bitp (by omega)).mpr q))
      have e : gopt ch s R r T c = false := by rw [gopt, hb2, decide_eq_false (by omega)]; simp
      refine r_iconst (v := 0) C dX6_isBest_19 (by decide) ?_
      exact r_iret CE rfl rfl dX6_isBest_20 (Nat.le_of_ble_eq_true rfl) ⟨_, rfl, by rw [e]; rfl, rfl⟩
set_option maxHeartbeats 4000000 in
set_option maxRecDepth 100000 in
/-- X6_isBest  -/
theorem con_isBest10 (l : Launch) (hfl : l.stackTraces = false) {R C0 r T : Nat} {ch : Nat → Nat} {s : Nat → Nat → Int} {p : Int × Int32} (X : St) (hR2 : R ≤ 10) (hC2 : C0 ≤ 10) (hch : chk X ch s R C0) (hTH : TH X ch s R C0 0) (hr : r < R) (hT : T < 2 ^ C0) (h0 : gT ch s R (R - r) T = some p) : Con l yX6_isBest cX6_isBest 6 (some (FieldType.boolean)) 2 60 0 (fun G => [.ref (G.2.1 37), .int (nI r), .int (nI T), .int (nI (1024 * r + T)), .int (nI (2 ^ 10))]) X (kI (fun r9 X' => r9 = bI (gopt ch s R r T 10) ∧ X = X')) kF := by
  refine con_of (lv := fun G => [(0, .ref (G.2.1 37)), (1, .int (nI r)), (2, .int (nI T)), (3, .int (nI (1024 * r + T))), (4, .int (nI (2 ^ 10)))]) hfl (by decide +kernel) (fun _ => rfl) (fun _ => Nat.le_of_ble_eq_true rfl) ?_
  intro G J JX CE
  have C := CE.b
  have hp2 := pw1024 hC2 hT
  obtain ⟨a1, a2, a3⟩ := hch r hr
  have hok := okO_gT hch (R - (r + 1)) (by omega)
  have hpk : kv (R - (r + 1) + 1) p.1 := by
    have h9 := okO_gT hch (R - r) (by omega) T p h0
    rw [show R - r = R - (r + 1) + 1 by omega] at h9
    exact h9
  have hb9 := oSi_bd (hok (tof T 10)) (by omega)
  obtain ⟨s9, c9, q1, q2, q3, q4, q5, q6, q7⟩ := kv_s hpk (by omega)
  have hA9 : OHold X (1024 * r + T) (gT ch s R (R - r) T) := hTH r T (Nat.zero_le _) (by omega) hT
  rw [h0] at hA9
  have ht : tof T 10 = T := rfl
  refine r_aload_n C dX6_isBest_0 rfl rfl ?_
  refine gf_RX6_50 C dX6_isBest_1 ?_
  refine r_iload_n C dX6_isBest_4 rfl rfl ?_
  refine r_iald C (r) (by decide) rfl rfl (by omega) dX6_isBest_5 ?_
  refine r_topi a1 ?_
  refine r_iload C dX6_isBest_6 rfl ?_
  refine r_iand C dX6_isBest_8 ?_
  refine r_topi (zand (ch r) (2 ^ 10)) ?_
  refine r_if_eq (tgt := 19) C dX6_isBest_9 (by decide) (fun c_9 => ?_) (fun c_9 => ?_)
  · -- 19
    have hb1 := (bitp (by omega)).mp c_9
    have e : gopt ch s R r T 10 = false := by rw [gopt, hb1]; rfl
    refine r_iconst (v := 0) C dX6_isBest_19 (by decide) ?_
    exact r_iret CE rfl rfl dX6_isBest_20 (Nat.le_of_ble_eq_true rfl) ⟨_, rfl, by rw [e]; rfl, rfl⟩
  · -- 12
    have hb1 : (ch r).testBit 10 = true := nfb (fun q => c_9 ((bitp (by omega)).mpr q))
    refine r_iload_n C dX6_isBest_12 rfl rfl ?_
    refine r_iload C dX6_isBest_13 rfl ?_
    refine r_iand C dX6_isBest_15 ?_
    refine r_topi (zand T (2 ^ 10)) ?_
    refine r_if_eq (tgt := 21) C dX6_isBest_16 (by decide) (fun c_16 => ?_) (fun c_16 => ?_)
    · -- 21
      have hb2 := (bitp (m := T) (by omega)).mp c_16
      have hab : alb (ch r) T 10 := ⟨hb1, Or.inl rfl⟩
      have hlt9 : tof T 10 < 2 ^ C0 := hT
      have hlt8 := pw1024 hC2 hlt9
      have hN9 : OHold X (1024 * (r + 1) + tof T 10) (gT ch s R (R - (r + 1)) (tof T 10)) := hTH (r + 1) (tof T 10) (Nat.zero_le _) hr hlt9
      rw [OHold, oS_i, oC_i] at hN9
      have hbest := best_i (c := 10) hr hR2 hab h0 rfl hok (fun hc9 => absurd hc9 (by decide)) hpk (by omega)
      rw [if_pos rfl, if_pos rfl] at hbest
      refine r_sipush (v := 1024) C dX6_isBest_21 (by decide) ?_
      refine r_iload_n C dX6_isBest_24 rfl rfl ?_
      refine r_iconst (v := 1) C dX6_isBest_25 (by decide) ?_
      refine r_iadd C dX6_isBest_26 ?_
      refine r_imul C dX6_isBest_27 ?_
      refine r_iload C dX6_isBest_28 rfl ?_
      refine r_sipush (v := 1024) C dX6_isBest_30 (by decide) ?_
      refine r_icmp_ne (tgt := 40) C dX6_isBest_33 (by decide) (fun c_33 => absurd (((two10 10 (by decide)).mpr rfl)) c_33) (fun c_33 => ?_)
      refine r_iload_n C dX6_isBest_36 rfl rfl ?_
      refine r_goto (tgt := 44) C dX6_isBest_37 (by decide) ?_
      refine r_iadd C dX6_isBest_44 ?_
      refine r_topi (show _ = nI (1024 * (r + 1) + tof T 10) from z1024' r T) ?_
      refine r_istore C dX6_isBest_45 (by decide) ?_
      refine r_aload_n C dX6_isBest_47 rfl rfl ?_
      refine gf_RX6_41 C dX6_isBest_48 ?_
      refine r_iload C dX6_isBest_51 rfl ?_
      refine r_iald C (1024 * (r + 1) + tof T 10) (by decide) rfl rfl (by omega) dX6_isBest_53 ?_
      refine r_topi hN9.1 ?_
      refine r_iload C dX6_isBest_54 rfl ?_
      refine r_sipush (v := 1024) C dX6_isBest_56 (by decide) ?_
      refine r_icmp_ne (tgt := 66) C dX6_isBest_59 (by decide) (fun c_59 => absurd (((two10 10 (by decide)).mpr rfl)) c_59) (fun c_59 => ?_)
      refine r_iconst (v := 0) C dX6_isBest_62 (by decide) ?_
      refine r_goto (tgt := 67) C dX6_isBest_63 (by decide) ?_
      refine r_iadd C dX6_isBest_67 ?_
      refine r_topi (show _ = i32 (oSi (gT ch s R (R - (r + 1)) (tof T 10)) + 0) by rw [← i32_add]; rfl) ?_
      refine r_aload_n C dX6_isBest_68 rfl rfl ?_
      refine gf_RX6_41 C dX6_isBest_69 ?_
      refine r_iload_n C dX6_isBest_72 rfl rfl ?_
      refine r_iald C (1024 * r + T) (by decide) rfl rfl (by omega) dX6_isBest_73 ?_
      refine r_topi (show _ = i32 (szf p.1) from hA9.1) ?_
      refine r_icmp_ne (tgt := 105) C dX6_isBest_74 (by decide) (fun c_74 => ?_) (fun c_74 => ?_)
      · -- 105
        have e : gopt ch s R r T 10 = false := by
          cases h9 : gopt ch s R r T 10 with
          | false => rfl
          | true => exact absurd (congrArg i32 (hbest.mp h9).1) c_74
        refine r_iconst (v := 0) C dX6_isBest_105 (by decide) ?_
        exact r_iret CE rfl rfl dX6_isBest_106 (Nat.le_of_ble_eq_true rfl) ⟨_, rfl, by rw [e]; rfl, rfl⟩
      · -- 77
        have e74 := (i32_eq (by omega) (by omega)).mp c_74
        refine r_aload_n C dX6_isBest_77 rfl rfl ?_
        refine gf_RX6_44 C dX6_isBest_78 ?_
        refine r_iload C dX6_isBest_81 rfl ?_
        refine r_iald C (1024 * (r + 1) + tof T 10) (by decide) rfl rfl (by omega) dX6_isBest_83 ?_
        refine r_topi hN9.2.1 ?_
        refine r_aload_n C dX6_isBest_84 rfl rfl ?_
        refine r_iload_n C dX6_isBest_85 rfl rfl ?_
        refine r_iload C dX6_isBest_86 rfl ?_
        refine cl_RX6_130 C (con_X6_costOf l hfl _ (r := r) (c := 10) (by omega) (by omega)) dX6_isBest_88 rfl ⟨Nat.le_of_ble_eq_true rfl, Nat.le_of_ble_eq_true rfl⟩ (by omega) (Nat.le_of_ble_eq_true rfl) (fun r_88 X_88 h_88 => ?_)
        obtain ⟨rfl, rfl⟩ := h_88
        refine r_topi (show _ = i32 0 by rw [if_pos rfl]; rfl) ?_
        refine r_iadd C dX6_isBest_91 ?_
        refine r_topi (i32_add _ _) ?_
        refine r_aload_n C dX6_isBest_92 rfl rfl ?_
        refine gf_RX6_44 C dX6_isBest_93 ?_
        refine r_iload_n C dX6_isBest_96 rfl rfl ?_
        refine r_iald C (1024 * r + T) (by decide) rfl rfl (by omega) dX6_isBest_97 ?_
        refine r_topi (show _ = i32 (csf p.1) from hA9.2.1) ?_
        refine r_icmp_ne (tgt := 105) C dX6_isBest_98 (by decide) (fun c_98 => ?_) (fun c_98 => ?_)
        · -- 105
          have e : gopt ch s R r T 10 = false := by
            cases h9 : gopt ch s R r T 10 with
            | false => rfl
            | true => exact absurd (congrArg i32 (hbest.mp h9).2) c_98
          refine r_iconst (v := 0) C dX6_isBest_105 (by decide) ?_
          exact r_iret CE rfl rfl dX6_isBest_106 (Nat.le_of_ble_eq_true rfl) ⟨_, rfl, by rw [e]; rfl, rfl⟩
        · -- 101
          have e : gopt ch s R r T 10 = true := hbest.mpr ⟨e74, (i32_eq (by omega) (by omega)).mp c_98⟩
          refine r_iconst (v := 1) C dX6_isBest_101 (by decide) ?_
          refine r_goto (tgt := 106) C dX6_isBest_102 (by decide) ?_
          exact r_iret CE rfl rfl dX6_isBest_106 (Nat.le_of_ble_eq_true rfl) ⟨_, rfl, by rw [e]; rfl, rfl⟩
    · -- 19
      exact absurd ((bitp (m := T) (by omega)).mpr (Nat.testBit_lt_two_pow (Nat.lt_of_lt_of_le hp2 (by decide)))) c_16
theorem con_X6_isBest (l : Launch) (hfl : l.stackTraces = false) {R C0 r T c : Nat} {ch : Nat → Nat} {s : Nat → Nat → Int} {p : Int × Int32} (X : St) (hR2 : R ≤ 10) (hC2 : C0 ≤ 10) (hch : chk X ch s R C0) (hTH : TH X ch s R C0 0) (hr : r < R) (hT : T < 2 ^ C0) (h0 : gT ch s R (R - r) T = some p) (hc : c < 11) : Con l yX6_isBest cX6_isBest 6 (some .boolean) 2 60 0 (fun G => [.ref (G.2.1 37), .int (nI r), .int (nI T), .int (nI (1024 * r + T)), .int (nI (2 ^ c))]) X (kI (fun r9 X' => r9 = bI (gopt ch s R r T c) ∧ X = X')) kF := by
  by_cases e : c = 10
  · subst e
    exact con_isBest10 l hfl X hR2 hC2 hch hTH hr hT h0
  · exact con_isBestc l hfl X hR2 hC2 hch hTH hr hT h0 (by omega)
theorem TH.fr {X Y : St} {P : Nat → Prop} {ch : Nat → Nat} {s : Nat → Nat → Int} {R C r0 : Nat} (h : TH X ch s R C r0) (hF : Fr P X Y) (h1 : ¬ P 48) (h2 : ¬ P 49) (h3 : ¬ P 50) : TH Y ch s R C r0 := fun r T a b c => by
  obtain ⟨q1, q2, q3⟩ := h r T a b c
  exact ⟨by rw [(hF 48 h1).2.1]; exact q1, by rw [(hF 49 h2).2.1]; exact q2, by rw [(hF 50 h3).2.1]; exact q3⟩
set_option maxHeartbeats 4000000 in
set_option maxRecDepth 100000 in
theorem lp_X6_choose2 {l : Launch} {G : Geo} {J : JT} {JX : JXT} {X : St} (hfl : l.stackTraces = false) {R C0 : Nat} {ch : Nat → Nat} {s : Nat → Nat → Int} {p : Int × Int32} (hR : Zm X 37 1 = nI R) (hR2 : R ≤ 10) (hC2 : C0 ≤ 10) (hch : chk X ch s R C0) (hTH : TH X ch s R C0 0) (h0 : gT ch s R R 0 = some p) {n : Nat} (hn : n < R) {Y : St} (hF : Fr (fun k => k = 52) X Y) (CE : Cl l RX6 cX6_choose 5 none [] G 3 90 0 (kV (fun X' => (∀ r, r < R → Zv X' 52 r = nI (2 ^ gcol ch s R r (gtk ch s R r))) ∧ Fr (fun k => k = 52) X X')) kF J JX) :
    (J Y 0 44 [(4, .int (nI (2 ^ (gcol ch s R n (gtk ch s R n))))), (3, .int (nI (1024 * n + gtk ch s R n))), (2, .int (nI n)), (1, .int (nI (gtk ch s R n))), (0, .ref (G.2.1 37))] []) → ∀ q c, c + q = gcol ch s R n (gtk ch s R n) → J Y 0 23 [(4, .int (nI (2 ^ c))), (3, .int (nI (1024 * n + gtk ch s R n))), (2, .int (nI n)), (1, .int (nI (gtk ch s R n))), (0, .ref (G.2.1 37))] [] := by
  have C := CE.b
  intro hkk
  intro q
  induction q with
  | zero =>
    intro c h
    obtain ⟨p2, hp2⟩ := gtk_ok h0 n (by omega)
    have hlt2 : gtk ch s R n < 2 ^ C0 := gtk_lt h0 (fun r c hr hc hb => ((hch r hr).2.2 c hc hb).1) n (by omega)
    obtain ⟨g1, g2⟩ := gcol_ok (by omega) hp2
    have hch2 := hch.fr hF (by decide) (by decide)
    have hTH2 : TH Y ch s R C0 0 := hTH.fr hF (by decide) (by decide) (by decide)
    have hc : c = (gcol ch s R n (gtk ch s R n)) := by omega
    subst hc
    refine r_aload_n C dX6_choose_23 rfl rfl ?_
    refine r_iload_n C dX6_choose_24 rfl rfl ?_
    refine r_iload_n C dX6_choose_25 rfl rfl ?_
    refine r_iload_n C dX6_choose_26 rfl rfl ?_
    refine r_iload C dX6_choose_27 rfl ?_
    refine cl_RX6_137 C (con_X6_isBest l hfl _ (c := (gcol ch s R n (gtk ch s R n))) hR2 hC2 hch2 hTH2 hn hlt2 hp2 (by omega)) dX6_choose_29 rfl ⟨Nat.le_of_ble_eq_true rfl, Nat.le_of_ble_eq_true rfl⟩ (by omega) (Nat.le_of_ble_eq_true rfl) (fun r_29 X_29 h_29 => ?_)
    obtain ⟨rfl, rfl⟩ := h_29
    refine r_if_ne (tgt := 44) C dX6_choose_32 (by decide) (fun c_32 => ?_) (fun c_32 => absurd c_32 ((by rw [g2]; decide)))
    exact hkk
  | succ q ih =>
    intro c h
    obtain ⟨p2, hp2⟩ := gtk_ok h0 n (by omega)
    have hlt2 : gtk ch s R n < 2 ^ C0 := gtk_lt h0 (fun r c hr hc hb => ((hch r hr).2.2 c hc hb).1) n (by omega)
    obtain ⟨g1, g2⟩ := gcol_ok (by omega) hp2
    have hch2 := hch.fr hF (by decide) (by decide)
    have hTH2 : TH Y ch s R C0 0 := hTH.fr hF (by decide) (by decide) (by decide)
    have hno : gopt ch s R n (gtk ch s R n) c = false := ff_no (fun c => gopt ch s R n (gtk ch s R n) c) 11 c (show c < (gcol ch s R n (gtk ch s R n)) by omega)
    refine r_aload_n C dX6_choose_23 rfl rfl ?_
    refine r_iload_n C dX6_choose_24 rfl rfl ?_
    refine r_iload_n C dX6_choose_25 rfl rfl ?_
    refine r_iload_n C dX6_choose_26 rfl rfl ?_
    refine r_iload C dX6_choose_27 rfl ?_
    refine cl_RX6_137 C (con_X6_isBest l hfl _ (c := c) hR2 hC2 hch2 hTH2 hn hlt2 hp2 (by omega)) dX6_choose_29 rfl ⟨Nat.le_of_ble_eq_true rfl, Nat.le_of_ble_eq_true rfl⟩ (by omega) (Nat.le_of_ble_eq_true rfl) (fun r_29 X_29 h_29 => ?_)
    obtain ⟨rfl, rfl⟩ := h_29
    refine r_if_ne (tgt := 44) C dX6_choose_32 (by decide) (fun c_32 => absurd ((by rw [hno]; rfl)) c_32) (fun c_32 => ?_)
    refine r_iload C dX6_choose_35 rfl ?_
    refine r_iconst (v := 1) C dX6_choose_37 (by decide) ?_
    refine r_ishl C dX6_choose_38 ?_
    refine r_topi (shl2 c (by omega)) ?_
    refine r_istore C dX6_choose_39 (by decide) ?_
    refine r_goto (tgt := 23) C dX6_choose_41 (by decide) ?_
    refine r_sub C (lv' := [(4, .int (nI (2 ^ (c + 1)))), (3, .int (nI (1024 * n + gtk ch s R n))), (2, .int (nI n)), (1, .int (nI (gtk ch s R n))), (0, .ref (G.2.1 37))]) ⟨rfl, rfl, rfl, rfl, rfl, trivial⟩ ?_
    exact ih (c + 1) (by omega)

set_option maxHeartbeats 4000000 in
set_option maxRecDepth 100000 in
theorem lp_X6_choose1 {l : Launch} {G : Geo} {J : JT} {JX : JXT} {X : St} (hfl : l.stackTraces = false) {R C0 : Nat} {ch : Nat → Nat} {s : Nat → Nat → Int} {p : Int × Int32} (hR : Zm X 37 1 = nI R) (hR2 : R ≤ 10) (hC2 : C0 ≤ 10) (hch : chk X ch s R C0) (hTH : TH X ch s R C0 0) (h0 : gT ch s R R 0 = some p) (CE : Cl l RX6 cX6_choose 5 none [] G 3 90 0 (kV (fun X' => (∀ r, r < R → Zv X' 52 r = nI (2 ^ gcol ch s R r (gtk ch s R r))) ∧ Fr (fun k => k = 52) X X')) kF J JX) :
    ∀ q n (Y : St), n + q = R → (∀ r, r < n → Zv Y 52 r = nI (2 ^ gcol ch s R r (gtk ch s R r))) → Fr (fun k => k = 52) X Y → J Y 0 4 [(2, .int (nI n)), (1, .int (nI (gtk ch s R n))), (0, .ref (G.2.1 37))] [] := by
  have C := CE.b
  intro q
  induction q with
  | zero =>
    intro n Y h h1 hF
    have hn : R = n := by omega
    subst hn
    refine r_iload_n C dX6_choose_4 rfl rfl ?_
    refine r_aload_n C dX6_choose_5 rfl rfl ?_
    refine gf_RX6_81 C dX6_choose_6 ?_
    refine r_topi (show _ = nI R by rw [(hF 37 (by decide)).1 1]; exact hR) ?_
    refine r_icmp_ge (tgt := 75) C dX6_choose_9 (by decide) (fun c_9 => ?_) (fun c_9 => absurd ((Int32.le_refl _)) c_9)
    exact r_vret CE rfl dX6_choose_75 (Nat.le_of_ble_eq_true rfl) ⟨rfl, h1, hF⟩
  | succ q ih =>
    intro n Y h h1 hF
    have hn : n < R := by omega
    obtain ⟨p2, hp2⟩ := gtk_ok h0 n (by omega)
    have hlt2 : gtk ch s R n < 2 ^ C0 := gtk_lt h0 (fun r c hr hc hb => ((hch r hr).2.2 c hc hb).1) n (by omega)
    obtain ⟨g1, g2⟩ := gcol_ok (by omega) hp2
    refine r_iload_n C dX6_choose_4 rfl rfl ?_
    refine r_aload_n C dX6_choose_5 rfl rfl ?_
    refine gf_RX6_81 C dX6_choose_6 ?_
    refine r_topi (show _ = nI R by rw [(hF 37 (by decide)).1 1]; exact hR) ?_
    refine r_icmp_ge (tgt := 75) C dX6_choose_9 (by decide) (fun c_9 => absurd c_9 ((nI_ge (a := n) (b := R) hn (by omega)))) (fun c_9 => ?_)
    refine r_sipush (v := 1024) C dX6_choose_12 (by decide) ?_
    refine r_iload_n C dX6_choose_15 rfl rfl ?_
    refine r_imul C dX6_choose_16 ?_
    refine r_iload_n C dX6_choose_17 rfl rfl ?_
    refine r_iadd C dX6_choose_18 ?_
    refine r_topi (z1024 n (gtk ch s R n)) ?_
    refine r_istore_n C dX6_choose_19 rfl (by decide) ?_
    refine r_iconst (v := 1) C dX6_choose_20 (by decide) ?_
    refine r_istore C dX6_choose_21 (by decide) ?_
    refine r_sub C (lv' := [(4, .int (nI (2 ^ 0))), (3, .int (nI (1024 * n + gtk ch s R n))), (2, .int (nI n)), (1, .int (nI (gtk ch s R n))), (0, .ref (G.2.1 37))]) ⟨rfl, rfl, rfl, rfl, rfl, trivial⟩ ?_
    refine lp_X6_choose2 hfl hR hR2 hC2 hch hTH h0 hn hF CE ?_ (gcol ch s R n (gtk ch s R n)) 0 (Nat.zero_add _)
    refine r_aload_n C dX6_choose_44 rfl rfl ?_
    refine gf_RX6_53 C dX6_choose_45 ?_
    refine r_iload_n C dX6_choose_48 rfl rfl ?_
    refine r_iload C dX6_choose_49 rfl ?_
    refine r_iast C (n) (by decide) rfl rfl (by omega) dX6_choose_51 ?_
    refine r_iload_n C dX6_choose_52 rfl rfl ?_
    refine r_iload C dX6_choose_53 rfl ?_
    refine r_sipush (v := 1024) C dX6_choose_55 (by decide) ?_
    refine r_icmp_ne (tgt := 65) C dX6_choose_58 (by decide) (fun c_58 => ?_) (fun c_58 => ?_)
    · -- 65
      have ec : ¬ (gcol ch s R n (gtk ch s R n)) = 10 := fun q => c_58 ((two10 _ g1).mpr q)
      refine r_iload C dX6_choose_65 rfl ?_
      refine r_ior C dX6_choose_67 ?_
      refine r_topi (show _ = nI (gtk ch s R (n + 1)) by first | (rw [gtk, tof, if_neg ec]; exact zor _ _) | (rw [gtk, tof, if_pos ec]; exact Int32.or_zero)) ?_
      refine r_istore_n C dX6_choose_68 rfl (by decide) ?_
      refine r_iinc (v := _) C dX6_choose_69 rfl (nI_1 n) ?_
      refine r_goto (tgt := 4) C dX6_choose_72 (by decide) ?_
      refine r_sub C (lv' := [(2, .int (nI (n + 1))), (1, .int (nI (gtk ch s R (n + 1)))), (0, .ref (G.2.1 37))]) ⟨rfl, rfl, rfl, trivial⟩ ?_
      refine ih (n + 1) _ (by omega) (fun r hr => ?_) (hF.tr (Fr.v _ rfl))
      by_cases e : r = n
      · rw [e]; exact if_pos rfl
      · exact (if_neg (by omega)).trans (h1 r (by omega))
    · -- 61
      have ec : (gcol ch s R n (gtk ch s R n)) = 10 := (two10 _ g1).mp c_58
      refine r_iconst (v := 0) C dX6_choose_61 (by decide) ?_
      refine r_goto (tgt := 67) C dX6_choose_62 (by decide) ?_
      refine r_ior C dX6_choose_67 ?_
      refine r_topi (show _ = nI (gtk ch s R (n + 1)) by first | (rw [gtk, tof, if_neg ec]; exact zor _ _) | (rw [gtk, tof, if_pos ec]; exact Int32.or_zero)) ?_
      refine r_istore_n C dX6_choose_68 rfl (by decide) ?_
      refine r_iinc (v := _) C dX6_choose_69 rfl (nI_1 n) ?_
      refine r_goto (tgt := 4) C dX6_choose_72 (by decide) ?_
      refine r_sub C (lv' := [(2, .int (nI (n + 1))), (1, .int (nI (gtk ch s R (n + 1)))), (0, .ref (G.2.1 37))]) ⟨rfl, rfl, rfl, trivial⟩ ?_
      refine ih (n + 1) _ (by omega) (fun r hr => ?_) (hF.tr (Fr.v _ rfl))
      by_cases e : r = n
      · rw [e]; exact if_pos rfl
      · exact (if_neg (by omega)).trans (h1 r (by omega))

set_option maxHeartbeats 4000000 in
set_option maxRecDepth 100000 in
/-- X6_choose  -/
theorem con_X6_choose (l : Launch) (hfl : l.stackTraces = false) {R C0 : Nat} {ch : Nat → Nat} {s : Nat → Nat → Int} {p : Int × Int32} (X : St) (hR : Zm X 37 1 = nI R) (hR2 : R ≤ 10) (hC2 : C0 ≤ 10) (hch : chk X ch s R C0) (hTH : TH X ch s R C0 0) (h0 : gT ch s R R 0 = some p) : Con l yX6_choose cX6_choose 5 none 3 90 0 (fun G => [.ref (G.2.1 37)]) X (kV (fun X' => (∀ r, r < R → Zv X' 52 r = nI (2 ^ gcol ch s R r (gtk ch s R r))) ∧ Fr (fun k => k = 52) X X')) kF := by
  refine con_of (lv := fun G => [(0, .ref (G.2.1 37))]) hfl (by decide +kernel) (fun _ => rfl) (fun _ => Nat.le_of_ble_eq_true rfl) ?_
  intro G J JX CE
  have C := CE.b
  refine r_iconst (v := 0) C dX6_choose_0 (by decide) ?_
  refine r_istore_n C dX6_choose_1 rfl (by decide) ?_
  refine r_iconst (v := 0) C dX6_choose_2 (by decide) ?_
  refine r_istore_n C dX6_choose_3 rfl (by decide) ?_
  refine r_sub C (lv' := [(2, .int (nI 0)), (1, .int (nI (gtk ch s R 0))), (0, .ref (G.2.1 37))]) ⟨rfl, rfl, rfl, trivial⟩ ?_
  exact lp_X6_choose1 hfl hR hR2 hC2 hch hTH h0 CE R 0 X (by omega) (fun r hr => absurd hr (Nat.not_lt_zero r)) Fr.rf
abbrev gU (A : DA) (k T : Nat) : OP := gT (chU A.ra A.ca A.z) (sc A.z) A.R k T
abbrev TU (X : St) (A : DA) : Prop := TH X (chU A.ra A.ca A.z) (sc A.z) A.R A.C 0
theorem chk_U {X Y : St} {A : DA} (h : MInv X A) (hF : Fr (fun k => k = 37 ∨ 42 ≤ k) X Y) (hc : ∀ r, r < A.R → Zv Y 51 r = nI (chU A.ra A.ca A.z r)) : chk Y (chU A.ra A.ca A.z) (sc A.z) A.R A.C := chk_us h hF hc (fun r _ => ⟨chU_lt _ _ _ _, fun c hc hb => by rw [chU_bit hc] at hb; exact hb⟩)
set_option maxHeartbeats 4000000 in
set_option maxRecDepth 100000 in
/-- X6_solve  -/
theorem con_X6_solve (l : Launch) (hfl : l.stackTraces = false) {A : DA} (X : St) (hM : MInv X A) : Con l yX6_solve cX6_solve 1 none 5 160 0 (fun G => [.ref (G.2.1 37)]) X (kV (fun X' => chk X' (chU A.ra A.ca A.z) (sc A.z) A.R A.C ∧ TU X' A ∧ MInv X' A ∧ Fr (fun k => 48 ≤ k ∧ k ≤ 51) X X')) kF := by
  refine con_of (lv := fun G => [(0, .ref (G.2.1 37))]) hfl (by decide +kernel) (fun _ => rfl) (fun _ => Nat.le_of_ble_eq_true rfl) ?_
  intro G J JX CE
  have C := CE.b
  refine r_aload_n C dX6_solve_0 rfl rfl ?_
  refine cl_RX6_141 C (con_X6_setChoices l hfl _ hM) dX6_solve_1 rfl ⟨Nat.le_of_ble_eq_true rfl, Nat.le_of_ble_eq_true rfl⟩ (by omega) (Nat.le_of_ble_eq_true rfl) (fun X_1 h_1 => ?_)
  obtain ⟨hC1, hF1⟩ := h_1
  have hM1 : MInv X_1 A := hM.fr hF1 (fun k _ _ q => by omega)
  have hk1 := chk_U hM (hF1.mono (fun k q => Or.inr (by omega))) hC1
  refine r_aload_n C dX6_solve_4 rfl rfl ?_
  refine cl_RX6_144 C (con_X6_fill l hfl _ (ch := chU A.ra A.ca A.z) (s := sc A.z) hM1.b.1 hM1.b.2.1 hM.ok.R hM.ok.C hk1) dX6_solve_5 rfl ⟨Nat.le_of_ble_eq_true rfl, Nat.le_of_ble_eq_true rfl⟩ (by omega) (Nat.le_of_ble_eq_true rfl) (fun X_5 h_5 => ?_)
  obtain ⟨hT5, hF5⟩ := h_5
  exact r_vret CE rfl dX6_solve_8 (Nat.le_of_ble_eq_true rfl) ⟨rfl, hk1.fr hF5 (by omega) (by omega), hT5, hM1.fr hF5 (fun k _ _ q => by omega), (hF1.mono (fun k q => by omega)).tr (hF5.mono (fun k q => by omega))⟩
