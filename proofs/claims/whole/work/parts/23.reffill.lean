/-- the reference's tables: k rows left, the columns T taken -/
def gT (ch : Nat → Nat) (s : Nat → Nat → Int) (R : Nat) : Nat → Nat → OP
  | 0, _ => some (0, 1)
  | k + 1, T => rowF (ch (R - (k + 1))) (s (R - (k + 1))) (gT ch s R k) T 11
def chk (X : St) (ch : Nat → Nat) (s : Nat → Nat → Int) (R C : Nat) : Prop := ∀ r, r < R → Zv X 51 r = nI (ch r) ∧ ch r < 2048 ∧ ∀ c, c < 10 → (ch r).testBit c = true → c < C ∧ ∃ x, s r c = x - 1000000 ∧ (-10000 ≤ x ∧ x ≤ 20000) ∧ Zv X 41 (10 * r + c) = i32 x
theorem okO_gT {X : St} {ch : Nat → Nat} {s : Nat → Nat → Int} {R C : Nat} (h : chk X ch s R C) : ∀ k, k ≤ R → ∀ U, okO k (gT ch s R k U)
  | 0, _, U => fun p hp => by cases hp; exact kv_0 0
  | k + 1, hk, U => by
    unfold gT
    exact okO_row (fun c hc hb => by obtain ⟨_, x, h1, h2, _⟩ := (h (R - (k + 1)) (by omega)).2.2 c hc hb; exact ⟨x, h1, h2⟩) (okO_gT h k (by omega)) 11 (Nat.le_refl _)
/-- the rows from r0 on are filled -/
def TH (Y : St) (ch : Nat → Nat) (s : Nat → Nat → Int) (R C r0 : Nat) : Prop := ∀ r T, r0 ≤ r → r ≤ R → T < 2 ^ C → OHold Y (1024 * r + T) (gT ch s R (R - r) T)
theorem nn_0 {n : Nat} (h : n < 2 ^ 31) : ¬ (nI n < 0) := fun q => by
  rw [Int32.lt_iff_toInt_lt, nI_toInt h, show (0 : Int32).toInt = 0 by decide] at q
  omega
theorem dn_1 (n : Nat) : nI n - 1 = dn n := by rw [← dn_step n, Int32.sub_eq_add_neg]; rfl
abbrev Fq (k : Nat) : Prop := 48 ≤ k ∧ k ≤ 50
theorem chk.fr {X Y : St} {P : Nat → Prop} {ch : Nat → Nat} {s : Nat → Nat → Int} {R C : Nat} (h : chk X ch s R C) (hF : Fr P X Y) (h1 : ¬ P 51) (h2 : ¬ P 41) : chk Y ch s R C := fun r hr => by
  obtain ⟨a1, a2, a3⟩ := h r hr
  refine ⟨by rw [(hF 51 h1).2.1]; exact a1, a2, fun c hc hb => ?_⟩
  obtain ⟨b1, x, b2, b3, b4⟩ := a3 c hc hb
  exact ⟨b1, x, b2, b3, by rw [(hF 41 h2).2.1]; exact b4⟩
theorem pw1024 {C T : Nat} (hC : C ≤ 10) (h : T < 2 ^ C) : T < 1024 := Nat.lt_of_lt_of_le h (Nat.pow_le_pow_right (by decide) hC)
set_option maxHeartbeats 4000000 in
set_option maxRecDepth 100000 in
theorem lp_X6_fill2 {l : Launch} {G : Geo} {J : JT} {JX : JXT} {X : St} (hfl : l.stackTraces = false) {R C0 : Nat} {ch : Nat → Nat} {s : Nat → Nat → Int} (hR : Zm X 37 1 = nI R) (hC : Zm X 37 2 = nI C0) (hR2 : R ≤ 10) (hC2 : C0 ≤ 10) (hch : chk X ch s R C0) {n : Nat} (hn : n < R) (CE : Cl l RX6 cX6_fill 3 none [] G 4 130 0 (kV (fun X' => TH X' ch s R C0 0 ∧ Fr Fq X X')) kF J JX) :
    (∀ Y, TH Y ch s R C0 n → Fr Fq X Y → J Y 0 101 [(2, .int (nI (2 ^ C0))), (1, .int (nI n)), (0, .ref (G.2.1 37))] []) → ∀ q t (Y : St), t + q = 2 ^ C0 → TH Y ch s R C0 (n + 1) → (∀ U, U < t → OHold Y (1024 * n + U) (gT ch s R (R - n) U)) → Fr Fq X Y → J Y 0 79 [(2, .int (nI t)), (1, .int (nI n)), (0, .ref (G.2.1 37))] [] := by
  have C := CE.b
  intro hkk
  intro q
  induction q with
  | zero =>
    intro t Y h hT hU hF
    have ht : t = 2 ^ C0 := by omega
    subst ht
    have hp2 : 2 ^ C0 ≤ 2 ^ 10 := Nat.pow_le_pow_right (by decide) hC2
    refine r_iload_n C dX6_fill_79 rfl rfl ?_
    refine r_iconst (v := 1) C dX6_fill_80 (by decide) ?_
    refine r_aload_n C dX6_fill_81 rfl rfl ?_
    refine gf_RX6_84 C dX6_fill_82 ?_
    refine r_topi (show _ = nI C0 by rw [(hF 37 (by omega)).1 2]; exact hC) ?_
    refine r_ishl C dX6_fill_85 ?_
    refine r_topi (one_shl C0 (by omega)) ?_
    refine r_icmp_ge (tgt := 101) C dX6_fill_86 (by decide) (fun c_86 => ?_) (fun c_86 => absurd ((Int32.le_refl _)) c_86)
    exact hkk Y (fun r T h1 h2 h3 => by rcases Nat.lt_or_ge n r with g | g; exact hT r T g h2 h3; rw [show r = n by omega]; exact hU T h3) hF
  | succ q ih =>
    intro t Y h hT hU hF
    have hlt : t < 2 ^ C0 := by omega
    have hp2 : 2 ^ C0 ≤ 2 ^ 10 := Nat.pow_le_pow_right (by decide) hC2
    have hch2 := hch.fr hF (by omega) (by omega)
    obtain ⟨c1, c2, c3⟩ := hch2 n hn
    have hnx : ∀ U, U < 2 ^ C0 → OHold Y (1024 * (n + 1) + U) (gT ch s R (R - (n + 1)) U) := fun U hU2 => hT (n + 1) U (Nat.le_refl _) hn hU2
    have eg : ∀ U, gT ch s R (R - n) U = rowF (ch n) (s n) (gT ch s R (R - (n + 1))) U 11 := fun U => by
      rw [show R - n = (R - (n + 1)) + 1 by omega, gT, show R - (R - (n + 1) + 1) = n by omega]
    refine r_iload_n C dX6_fill_79 rfl rfl ?_
    refine r_iconst (v := 1) C dX6_fill_80 (by decide) ?_
    refine r_aload_n C dX6_fill_81 rfl rfl ?_
    refine gf_RX6_84 C dX6_fill_82 ?_
    refine r_topi (show _ = nI C0 by rw [(hF 37 (by omega)).1 2]; exact hC) ?_
    refine r_ishl C dX6_fill_85 ?_
    refine r_topi (one_shl C0 (by omega)) ?_
    refine r_icmp_ge (tgt := 101) C dX6_fill_86 (by decide) (fun c_86 => absurd c_86 ((nI_ge (a := t) (b := 2 ^ C0) hlt (by omega)))) (fun c_86 => ?_)
    refine r_aload_n C dX6_fill_89 rfl rfl ?_
    refine r_iload_n C dX6_fill_90 rfl rfl ?_
    refine r_iload_n C dX6_fill_91 rfl rfl ?_
    refine cl_RX6_126 C (con_X6_fill_ l hfl _ (r := n) (T := t) (m := ch n) (k := R - (n + 1)) (s := s n) (nx := gT ch s R (R - (n + 1))) (by omega) (by omega) c2 (by omega) c1 (fun c hc hb => (c3 c hc hb).2) (okO_gT hch (R - (n + 1)) (by omega)) (hnx t hlt) (fun c hc hb _ => hnx _ (sb_lt hlt (c3 c hc hb).1))) dX6_fill_92 rfl ⟨Nat.le_of_ble_eq_true rfl, Nat.le_of_ble_eq_true rfl⟩ (by omega) (Nat.le_of_ble_eq_true rfl) (fun X_92 h_92 => ?_)
    obtain ⟨hF9, hO9, hH9⟩ := h_92
    have hT9 : TH X_92 ch s R C0 (n + 1) := fun r T h1 h2 h3 => by
      have := pw1024 hC2 h3
      obtain ⟨q1, q2, q3⟩ := hO9 (1024 * r + T) (by omega)
      obtain ⟨w1, w2, w3⟩ := hT r T h1 h2 h3
      exact ⟨q1.trans w1, q2.trans w2, q3.trans w3⟩
    have hU9 : ∀ U, U < t + 1 → OHold X_92 (1024 * n + U) (gT ch s R (R - n) U) := fun U hU2 => by
      by_cases e : U = t
      · rw [e, eg]; exact hH9
      · obtain ⟨q1, q2, q3⟩ := hO9 (1024 * n + U) (by omega)
        obtain ⟨w1, w2, w3⟩ := hU U (by omega)
        exact ⟨q1.trans w1, q2.trans w2, q3.trans w3⟩
    refine r_iinc (v := _) C dX6_fill_95 rfl (nI_1 t) ?_
    refine r_goto (tgt := 79) C dX6_fill_98 (by decide) ?_
    refine r_sub C (lv' := [(2, .int (nI (t + 1))), (1, .int (nI n)), (0, .ref (G.2.1 37))]) ⟨rfl, rfl, rfl, trivial⟩ ?_
    exact ih (t + 1) _ (by omega) hT9 hU9 (hF.tr hF9)

set_option maxHeartbeats 4000000 in
set_option maxRecDepth 100000 in
theorem lp_X6_fill1 {l : Launch} {G : Geo} {J : JT} {JX : JXT} {X : St} (hfl : l.stackTraces = false) {R C0 : Nat} {ch : Nat → Nat} {s : Nat → Nat → Int} (hR : Zm X 37 1 = nI R) (hC : Zm X 37 2 = nI C0) (hR2 : R ≤ 10) (hC2 : C0 ≤ 10) (hch : chk X ch s R C0) (CE : Cl l RX6 cX6_fill 3 none [] G 4 130 0 (kV (fun X' => TH X' ch s R C0 0 ∧ Fr Fq X X')) kF J JX) :
    ∀ n (Y : St), n ≤ R → TH Y ch s R C0 n → Fr Fq X Y → J Y 0 73 [(1, .int (dn n)), (0, .ref (G.2.1 37))] [] := by
  have C := CE.b
  intro n
  induction n with
  | zero =>
    intro Y h hT hF
    refine r_iload_n C dX6_fill_73 rfl rfl ?_
    refine r_if_lt (tgt := 107) C dX6_fill_74 (by decide) (fun c_74 => ?_) (fun c_74 => absurd ((by decide)) c_74)
    exact r_vret CE rfl dX6_fill_107 (Nat.le_of_ble_eq_true rfl) ⟨rfl, hT, hF⟩
  | succ n ih =>
    intro Y h hT hF
    refine r_iload_n C dX6_fill_73 rfl rfl ?_
    refine r_if_lt (tgt := 107) C dX6_fill_74 (by decide) (fun c_74 => absurd c_74 ((nn_0 (by omega)))) (fun c_74 => ?_)
    refine r_iconst (v := 0) C dX6_fill_77 (by decide) ?_
    refine r_istore_n C dX6_fill_78 rfl (by decide) ?_
    refine r_sub C (lv' := [(2, .int (nI 0)), (1, .int (nI n)), (0, .ref (G.2.1 37))]) ⟨rfl, rfl, rfl, trivial⟩ ?_
    refine lp_X6_fill2 hfl hR hC hR2 hC2 hch (n := n) h CE ?_ (2 ^ C0) 0 Y (by omega) hT (fun U hU => absurd hU (Nat.not_lt_zero U)) hF
    intro Y hT hF
    refine r_iinc (v := _) C dX6_fill_101 rfl (dn_step n) ?_
    refine r_goto (tgt := 73) C dX6_fill_104 (by decide) ?_
    refine r_sub C (lv' := [(1, .int (dn n)), (0, .ref (G.2.1 37))]) ⟨rfl, rfl, trivial⟩ ?_
    exact ih Y (by omega) hT hF

set_option maxHeartbeats 4000000 in
set_option maxRecDepth 100000 in
theorem lp_X6_fill0 {l : Launch} {G : Geo} {J : JT} {JX : JXT} {X : St} (hfl : l.stackTraces = false) {R C0 : Nat} {ch : Nat → Nat} {s : Nat → Nat → Int} (hR : Zm X 37 1 = nI R) (hC : Zm X 37 2 = nI C0) (hR2 : R ≤ 10) (hC2 : C0 ≤ 10) (hch : chk X ch s R C0) (CE : Cl l RX6 cX6_fill 3 none [] G 4 130 0 (kV (fun X' => TH X' ch s R C0 0 ∧ Fr Fq X X')) kF J JX) :
    ∀ n t (Y : St), t + n = 2 ^ C0 → (∀ U, U < t → OHold Y (1024 * R + U) (some (0, 1))) → Fr Fq X Y → J Y 0 2 [(1, .int (nI t)), (0, .ref (G.2.1 37))] [] := by
  have C := CE.b
  intro n
  induction n with
  | zero =>
    intro t Y h hU hF
    have ht : t = 2 ^ C0 := by omega
    subst ht
    have hp2 : 2 ^ C0 ≤ 2 ^ 10 := Nat.pow_le_pow_right (by decide) hC2
    refine r_iload_n C dX6_fill_2 rfl rfl ?_
    refine r_iconst (v := 1) C dX6_fill_3 (by decide) ?_
    refine r_aload_n C dX6_fill_4 rfl rfl ?_
    refine gf_RX6_84 C dX6_fill_5 ?_
    refine r_topi (show _ = nI C0 by rw [(hF 37 (by omega)).1 2]; exact hC) ?_
    refine r_ishl C dX6_fill_8 ?_
    refine r_topi (one_shl C0 (by omega)) ?_
    refine r_icmp_ge (tgt := 66) C dX6_fill_9 (by decide) (fun c_9 => ?_) (fun c_9 => absurd ((Int32.le_refl _)) c_9)
    refine r_aload_n C dX6_fill_66 rfl rfl ?_
    refine gf_RX6_81 C dX6_fill_67 ?_
    refine r_topi (show _ = nI R by rw [(hF 37 (by omega)).1 1]; exact hR) ?_
    refine r_iconst (v := 1) C dX6_fill_70 (by decide) ?_
    refine r_isub C dX6_fill_71 ?_
    refine r_topi (show _ = dn R from dn_1 R) ?_
    refine r_istore_n C dX6_fill_72 rfl (by decide) ?_
    refine r_sub C (lv' := [(1, .int (dn R)), (0, .ref (G.2.1 37))]) ⟨rfl, rfl, trivial⟩ ?_
    exact lp_X6_fill1 hfl hR hC hR2 hC2 hch CE R Y (Nat.le_refl _) (fun r T h1 h2 h3 => by rw [show r = R by omega, Nat.sub_self]; exact hU T h3) hF
  | succ n ih =>
    intro t Y h hU hF
    have hlt : t < 2 ^ C0 := by omega
    have hp2 : 2 ^ C0 ≤ 2 ^ 10 := Nat.pow_le_pow_right (by decide) hC2
    refine r_iload_n C dX6_fill_2 rfl rfl ?_
    refine r_iconst (v := 1) C dX6_fill_3 (by decide) ?_
    refine r_aload_n C dX6_fill_4 rfl rfl ?_
    refine gf_RX6_84 C dX6_fill_5 ?_
    refine r_topi (show _ = nI C0 by rw [(hF 37 (by omega)).1 2]; exact hC) ?_
    refine r_ishl C dX6_fill_8 ?_
    refine r_topi (one_shl C0 (by omega)) ?_
    refine r_icmp_ge (tgt := 66) C dX6_fill_9 (by decide) (fun c_9 => absurd c_9 ((nI_ge (a := t) (b := 2 ^ C0) hlt (by omega)))) (fun c_9 => ?_)
    refine r_aload_n C dX6_fill_12 rfl rfl ?_
    refine gf_RX6_41 C dX6_fill_13 ?_
    refine r_sipush (v := 1024) C dX6_fill_16 (by decide) ?_
    refine r_aload_n C dX6_fill_19 rfl rfl ?_
    refine gf_RX6_81 C dX6_fill_20 ?_
    refine r_topi (show Zm Y 37 1 = nI R by rw [(hF 37 (by omega)).1 1]; exact hR) ?_
    refine r_imul C dX6_fill_23 ?_
    refine r_iload_n C dX6_fill_24 rfl rfl ?_
    refine r_iadd C dX6_fill_25 ?_
    refine r_iconst (v := 0) C dX6_fill_26 (by decide) ?_
    refine r_iast C (1024 * R + t) (by decide) rfl (z1024 _ _) (by omega) dX6_fill_27 ?_
    refine r_aload_n C dX6_fill_28 rfl rfl ?_
    refine gf_RX6_44 C dX6_fill_29 ?_
    refine r_sipush (v := 1024) C dX6_fill_32 (by decide) ?_
    refine r_aload_n C dX6_fill_35 rfl rfl ?_
    refine gf_RX6_81 C dX6_fill_36 ?_
    refine r_topi (show Zm Y 37 1 = nI R by rw [(hF 37 (by omega)).1 1]; exact hR) ?_
    refine r_imul C dX6_fill_39 ?_
    refine r_iload_n C dX6_fill_40 rfl rfl ?_
    refine r_iadd C dX6_fill_41 ?_
    refine r_iconst (v := 0) C dX6_fill_42 (by decide) ?_
    refine r_iast C (1024 * R + t) (by decide) rfl (z1024 _ _) (by omega) dX6_fill_43 ?_
    refine r_aload_n C dX6_fill_44 rfl rfl ?_
    refine gf_RX6_47 C dX6_fill_45 ?_
    refine r_sipush (v := 1024) C dX6_fill_48 (by decide) ?_
    refine r_aload_n C dX6_fill_51 rfl rfl ?_
    refine gf_RX6_81 C dX6_fill_52 ?_
    refine r_topi (show Zm Y 37 1 = nI R by rw [(hF 37 (by omega)).1 1]; exact hR) ?_
    refine r_imul C dX6_fill_55 ?_
    refine r_iload_n C dX6_fill_56 rfl rfl ?_
    refine r_iadd C dX6_fill_57 ?_
    refine r_iconst (v := 1) C dX6_fill_58 (by decide) ?_
    refine r_iast C (1024 * R + t) (by decide) rfl (z1024 _ _) (by omega) dX6_fill_59 ?_
    refine r_iinc (v := _) C dX6_fill_60 rfl (nI_1 t) ?_
    refine r_goto (tgt := 2) C dX6_fill_63 (by decide) ?_
    refine r_sub C (lv' := [(1, .int (nI (t + 1))), (0, .ref (G.2.1 37))]) ⟨rfl, rfl, trivial⟩ ?_
    refine ih (t + 1) _ (by omega) (fun U hU2 => ?_) (((hF.tr (Fr.v _ ⟨by omega, by omega⟩)).tr (Fr.v _ ⟨by omega, by omega⟩)).tr (Fr.v _ ⟨by omega, by omega⟩))
    by_cases e : U = t
    · rw [e]
      exact ⟨if_pos rfl, if_pos rfl, if_pos rfl⟩
    · obtain ⟨w1, w2, w3⟩ := hU U (by omega)
      exact ⟨(if_neg (by omega)).trans w1, (if_neg (by omega)).trans w2, (if_neg (by omega)).trans w3⟩

set_option maxHeartbeats 4000000 in
set_option maxRecDepth 100000 in
/-- X6_fill  -/
theorem con_X6_fill (l : Launch) (hfl : l.stackTraces = false) {R C0 : Nat} {ch : Nat → Nat} {s : Nat → Nat → Int} (X : St) (hR : Zm X 37 1 = nI R) (hC : Zm X 37 2 = nI C0) (hR2 : R ≤ 10) (hC2 : C0 ≤ 10) (hch : chk X ch s R C0) : Con l yX6_fill cX6_fill 3 none 4 130 0 (fun G => [.ref (G.2.1 37)]) X (kV (fun X' => TH X' ch s R C0 0 ∧ Fr Fq X X')) kF := by
  refine con_of (lv := fun G => [(0, .ref (G.2.1 37))]) hfl (by decide +kernel) (fun _ => rfl) (fun _ => Nat.le_of_ble_eq_true rfl) ?_
  intro G J JX CE
  have C := CE.b
  refine r_iconst (v := 0) C dX6_fill_0 (by decide) ?_
  refine r_istore_n C dX6_fill_1 rfl (by decide) ?_
  refine r_sub C (lv' := [(1, .int (nI 0)), (0, .ref (G.2.1 37))]) ⟨rfl, rfl, trivial⟩ ?_
  exact lp_X6_fill0 hfl hR hC hR2 hC2 hch CE (2 ^ C0) 0 X (by omega) (fun U hU => absurd hU (Nat.not_lt_zero U)) Fr.rf
