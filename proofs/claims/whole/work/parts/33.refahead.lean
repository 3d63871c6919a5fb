/-- the first row that differs, of n rows from r on -/
def lexl (a b : Nat → Nat) : Nat → Nat → Bool
  | 0, _ => false
  | n + 1, r => if a r = b r then lexl a b n (r + 1) else decide (a r < b r)
def ahd (x y : Int) (a b : Nat → Nat) (R : Nat) : Bool := if x = y then lexl a b R 0 else decide (x < y)
theorem lexl_p {A : DA} (hok : AOk A) {a b : Nat → Nat} (ha : Fl A a) (hb : Fl A b) : ∀ n r, r + n = A.R → agr a b r → (lexl a b n r = true ↔ pth a 10 < pth b 10)
  | 0, r, h, hag => by
    have hR := hok.R
    have h10 : agr a b 10 := fun q hq => by
      rcases Nat.lt_or_ge q r with g | g
      · exact hag q g
      · have e : chU A.ra A.ca A.z q = 1024 := chU_out hok.t.1 (by omega)
        have k1 := (ha.1 q hq).2.1
        have k2 := (hb.1 q hq).2.1
        rw [e, show (1024 : Nat) = 2 ^ 10 by decide] at k1 k2
        rw [pow_bit.mp k1, pow_bit.mp k2]
    rw [agr_pth 10 h10]
    exact ⟨fun q => (by cases q), fun q => absurd q (Nat.lt_irrefl _)⟩
  | n + 1, r, h, hag => by
    have hR := hok.R
    rw [lexl]
    by_cases e : a r = b r
    · rw [if_pos e]
      refine lexl_p hok ha hb n (r + 1) (by omega) (fun q hq => ?_)
      by_cases e2 : q = r
      · rw [e2]; exact e
      · exact hag q (by omega)
    · rw [if_neg e, decide_eq_true_eq]
      have er : r + 1 + (9 - r) = 10 := by omega
      constructor
      · intro g
        have := pth_lt hag g (hb.1 r (by omega)).1 (9 - r)
        rw [er] at this
        exact this
      · intro g
        rcases Nat.lt_or_ge (a r) (b r) with k | k
        · exact k
        · have := pth_lt (a := b) (b := a) (fun q hq => (hag q hq).symm) (show b r < a r by omega) (ha.1 r (by omega)).1 (9 - r)
          rw [er] at this
          omega
theorem ahd_bef {A : DA} (hok : AOk A) {a b : Nat → Nat} (ha : Fl A a) (hb : Fl A b) : ahd (csf (pre (sc A.z) a 10)) (csf (pre (sc A.z) b 10)) a b A.R = befE (bEn A.ra A.ca A.z a 10) (bEn A.ra A.ca A.z b 10) := by
  have hs : szf (pre (sc A.z) a 10) = szf (pre (sc A.z) b 10) := ha.2.trans hb.2.symm
  have hl := lexl_p hok ha hb A.R 0 (Nat.zero_add _) (fun q hq => absurd hq (Nat.not_lt_zero q))
  rw [Bool.eq_iff_iff, befE_10, ahd]
  unfold csf
  rw [hs]
  by_cases e : pre (sc A.z) a 10 = pre (sc A.z) b 10
  · rw [if_pos (by omega), hl]
    omega
  · rw [if_neg (by omega), decide_eq_true_eq]
    omega
theorem two_i11 : ∀ c, c < 11 → ∀ d, d < 11 → (nI (2 ^ c) = nI (2 ^ d) ↔ c = d) := by decide +kernel
theorem two_le11 : ∀ c, c < 11 → ∀ d, d < 11 → (nI (2 ^ c) ≤ nI (2 ^ d) ↔ c ≤ d) := by decide +kernel
set_option maxHeartbeats 4000000 in
set_option maxRecDepth 100000 in
theorem lp_X6_isAhead {l : Launch} {G : Geo} {J : JT} {JX : JXT} {X : St} (hfl : l.stackTraces = false) {p q R : Nat} {x y : Int} {a b : Nat → Nat} (hR : Zm X 37 1 = nI R) (hR2 : R ≤ 10) (hp : p < 320) (hq : q < 320) (hx : Zv X 55 p = i32 x) (hy : Zv X 55 q = i32 y) (ox : ok32 x) (oy : ok32 y) (ha : ∀ r, r < R → a r < 11 ∧ Zv X 56 (10 * p + r) = nI (2 ^ a r)) (hb : ∀ r, r < R → b r < 11 ∧ Zv X 56 (10 * q + r) = nI (2 ^ b r)) (hxy : x = y) (CE : Cl l RX6 cX6_isAhead 4 (some .boolean) [] G 0 0 0 (kI (fun r9 X' => r9 = bI (ahd x y a b R) ∧ X = X')) kF J JX) :
    ∀ n r, r + n = R → lexl a b R 0 = lexl a b n r → J X 0 38 [(3, .int (nI r)), (0, .ref (G.2.1 37)), (1, .int (nI p)), (2, .int (nI q))] [] := by
  have C := CE.b
  intro n
  induction n with
  | zero =>
    intro r h hl
    have e0 : r = R := by omega
    subst e0
    have e : ahd x y a b r = false := by rw [ahd, if_pos hxy, hl]; rfl
    refine r_iload_n C dX6_isAhead_38 rfl rfl ?_
    refine r_aload_n C dX6_isAhead_39 rfl rfl ?_
    refine gf_RX6_81 C dX6_isAhead_40 ?_
    refine r_topi hR ?_
    refine r_icmp_ge (tgt := 108) C dX6_isAhead_43 (by decide) (fun c_43 => ?_) (fun c_43 => absurd ((Int32.le_refl _)) c_43)
    refine r_iconst (v := 0) C dX6_isAhead_108 (by decide) ?_
    exact r_iret CE rfl rfl dX6_isAhead_109 (Nat.le_of_ble_eq_true rfl) ⟨_, rfl, by rw [e]; rfl, rfl⟩
  | succ n ih =>
    intro r h hl
    have hr : r < R := by omega
    rw [lexl] at hl
    refine r_iload_n C dX6_isAhead_38 rfl rfl ?_
    refine r_aload_n C dX6_isAhead_39 rfl rfl ?_
    refine gf_RX6_81 C dX6_isAhead_40 ?_
    refine r_topi hR ?_
    refine r_icmp_ge (tgt := 108) C dX6_isAhead_43 (by decide) (fun c_43 => absurd c_43 ((nI_ge (a := r) (b := R) hr (by omega)))) (fun c_43 => ?_)
    refine r_aload_n C dX6_isAhead_46 rfl rfl ?_
    refine gf_RX6_65 C dX6_isAhead_47 ?_
    refine r_bipush (v := 10) C dX6_isAhead_50 (by decide) ?_
    refine r_iload_n C dX6_isAhead_52 rfl rfl ?_
    refine r_imul C dX6_isAhead_53 ?_
    refine r_iload_n C dX6_isAhead_54 rfl rfl ?_
    refine r_iadd C dX6_isAhead_55 ?_
    refine r_iald C (10 * p + r) (by decide) rfl (zix' p r) (by omega) dX6_isAhead_56 ?_
    refine r_topi (ha r hr).2 ?_
    refine r_aload_n C dX6_isAhead_57 rfl rfl ?_
    refine gf_RX6_65 C dX6_isAhead_58 ?_
    refine r_bipush (v := 10) C dX6_isAhead_61 (by decide) ?_
    refine r_iload_n C dX6_isAhead_63 rfl rfl ?_
    refine r_imul C dX6_isAhead_64 ?_
    refine r_iload_n C dX6_isAhead_65 rfl rfl ?_
    refine r_iadd C dX6_isAhead_66 ?_
    refine r_iald C (10 * q + r) (by decide) rfl (zix' q r) (by omega) dX6_isAhead_67 ?_
    refine r_topi (hb r hr).2 ?_
    refine r_icmp_eq (tgt := 102) C dX6_isAhead_68 (by decide) (fun c_68 => ?_) (fun c_68 => ?_)
    · -- 102
      have e1 := (two_i11 _ (ha r hr).1 _ (hb r hr).1).mp c_68
      rw [if_pos e1] at hl
      refine r_iinc (v := _) C dX6_isAhead_102 rfl (nI_1 r) ?_
      refine r_goto (tgt := 38) C dX6_isAhead_105 (by decide) ?_
      refine r_sub C (lv' := [(3, .int (nI (r + 1))), (0, .ref (G.2.1 37)), (1, .int (nI p)), (2, .int (nI q))]) ⟨rfl, rfl, rfl, rfl, trivial⟩ ?_
      exact ih (r + 1) (by omega) hl
    · -- 71
      have e1 : ¬ a r = b r := fun q => c_68 ((two_i11 _ (ha r hr).1 _ (hb r hr).1).mpr q)
      rw [if_neg e1] at hl
      refine r_aload_n C dX6_isAhead_71 rfl rfl ?_
      refine gf_RX6_65 C dX6_isAhead_72 ?_
      refine r_bipush (v := 10) C dX6_isAhead_75 (by decide) ?_
      refine r_iload_n C dX6_isAhead_77 rfl rfl ?_
      refine r_imul C dX6_isAhead_78 ?_
      refine r_iload_n C dX6_isAhead_79 rfl rfl ?_
      refine r_iadd C dX6_isAhead_80 ?_
      refine r_iald C (10 * p + r) (by decide) rfl (zix' p r) (by omega) dX6_isAhead_81 ?_
      refine r_topi (ha r hr).2 ?_
      refine r_aload_n C dX6_isAhead_82 rfl rfl ?_
      refine gf_RX6_65 C dX6_isAhead_83 ?_
      refine r_bipush (v := 10) C dX6_isAhead_86 (by decide) ?_
      refine r_iload_n C dX6_isAhead_88 rfl rfl ?_
      refine r_imul C dX6_isAhead_89 ?_
      refine r_iload_n C dX6_isAhead_90 rfl rfl ?_
      refine r_iadd C dX6_isAhead_91 ?_
      refine r_iald C (10 * q + r) (by decide) rfl (zix' q r) (by omega) dX6_isAhead_92 ?_
      refine r_topi (hb r hr).2 ?_
      refine r_icmp_ge (tgt := 100) C dX6_isAhead_93 (by decide) (fun c_93 => ?_) (fun c_93 => ?_)
      · -- 100
        have e2 := (two_le11 _ (hb r hr).1 _ (ha r hr).1).mp c_93
        have e : ahd x y a b R = false := by rw [ahd, if_pos hxy, hl, decide_eq_false (by omega)]
        refine r_iconst (v := 0) C dX6_isAhead_100 (by decide) ?_
        exact r_iret CE rfl rfl dX6_isAhead_101 (Nat.le_of_ble_eq_true rfl) ⟨_, rfl, by rw [e]; rfl, rfl⟩
      · -- 96
        have e2 : ¬ b r ≤ a r := fun q => c_93 ((two_le11 _ (hb r hr).1 _ (ha r hr).1).mpr q)
        have e : ahd x y a b R = true := by rw [ahd, if_pos hxy, hl, decide_eq_true (by omega)]
        refine r_iconst (v := 1) C dX6_isAhead_96 (by decide) ?_
        refine r_goto (tgt := 101) C dX6_isAhead_97 (by decide) ?_
        exact r_iret CE rfl rfl dX6_isAhead_101 (Nat.le_of_ble_eq_true rfl) ⟨_, rfl, by rw [e]; rfl, rfl⟩

set_option maxHeartbeats 4000000 in
set_option maxRecDepth 100000 in
/-- X6_isAhead  -/
theorem con_X6_isAhead (l : Launch) (hfl : l.stackTraces = false) {p q R : Nat} {x y : Int} {a b : Nat → Nat} (X : St) (hR : Zm X 37 1 = nI R) (hR2 : R ≤ 10) (hp : p < 320) (hq : q < 320) (hx : Zv X 55 p = i32 x) (hy : Zv X 55 q = i32 y) (ox : ok32 x) (oy : ok32 y) (ha : ∀ r, r < R → a r < 11 ∧ Zv X 56 (10 * p + r) = nI (2 ^ a r)) (hb : ∀ r, r < R → b r < 11 ∧ Zv X 56 (10 * q + r) = nI (2 ^ b r)) : Con l yX6_isAhead cX6_isAhead 4 (some (FieldType.boolean)) 0 0 0 (fun G => [.ref (G.2.1 37), .int (nI p), .int (nI q)]) X (kI (fun r9 X' => r9 = bI (ahd x y a b R) ∧ X = X')) kF := by
  refine con_of (lv := fun G => [(0, .ref (G.2.1 37)), (1, .int (nI p)), (2, .int (nI q))]) hfl (by decide +kernel) (fun _ => rfl) (fun _ => Nat.le_of_ble_eq_true rfl) ?_
  intro G J JX CE
  have C := CE.b
  refine r_aload_n C dX6_isAhead_0 rfl rfl ?_
  refine gf_RX6_62 C dX6_isAhead_1 ?_
  refine r_iload_n C dX6_isAhead_4 rfl rfl ?_
  refine r_iald C (p) (by decide) rfl rfl (by omega) dX6_isAhead_5 ?_
  refine r_topi hx ?_
  refine r_aload_n C dX6_isAhead_6 rfl rfl ?_
  refine gf_RX6_62 C dX6_isAhead_7 ?_
  refine r_iload_n C dX6_isAhead_10 rfl rfl ?_
  refine r_iald C (q) (by decide) rfl rfl (by omega) dX6_isAhead_11 ?_
  refine r_topi hy ?_
  refine r_icmp_eq (tgt := 36) C dX6_isAhead_12 (by decide) (fun c_12 => ?_) (fun c_12 => ?_)
  · -- 36
    have hxy := (i32_eq ox oy).mp c_12
    refine r_iconst (v := 0) C dX6_isAhead_36 (by decide) ?_
    refine r_istore_n C dX6_isAhead_37 rfl (by decide) ?_
    refine r_sub C (lv' := [(3, .int (nI 0)), (0, .ref (G.2.1 37)), (1, .int (nI p)), (2, .int (nI q))]) ⟨rfl, rfl, rfl, rfl, trivial⟩ ?_
    exact lp_X6_isAhead hfl hR hR2 hp hq hx hy ox oy ha hb hxy CE R 0 (Nat.zero_add _) rfl
  · -- 15
    have hxy : ¬ x = y := fun q => c_12 (by rw [q])
    refine r_aload_n C dX6_isAhead_15 rfl rfl ?_
    refine gf_RX6_62 C dX6_isAhead_16 ?_
    refine r_iload_n C dX6_isAhead_19 rfl rfl ?_
    refine r_iald C (p) (by decide) rfl rfl (by omega) dX6_isAhead_20 ?_
    refine r_topi hx ?_
    refine r_aload_n C dX6_isAhead_21 rfl rfl ?_
    refine gf_RX6_62 C dX6_isAhead_22 ?_
    refine r_iload_n C dX6_isAhead_25 rfl rfl ?_
    refine r_iald C (q) (by decide) rfl rfl (by omega) dX6_isAhead_26 ?_
    refine r_topi hy ?_
    refine r_icmp_ge (tgt := 34) C dX6_isAhead_27 (by decide) (fun c_27 => ?_) (fun c_27 => ?_)
    · -- 34
      have e2 := (i32_le oy ox).mp c_27
      have e : ahd x y a b R = false := by rw [ahd, if_neg hxy, decide_eq_false (by omega)]
      refine r_iconst (v := 0) C dX6_isAhead_34 (by decide) ?_
      exact r_iret CE rfl rfl dX6_isAhead_35 (Nat.le_of_ble_eq_true rfl) ⟨_, rfl, by rw [e]; rfl, rfl⟩
    · -- 30
      have e2 : ¬ y ≤ x := fun q => c_27 ((i32_le oy ox).mpr q)
      have e : ahd x y a b R = true := by rw [ahd, if_neg hxy, decide_eq_true (by omega)]
      refine r_iconst (v := 1) C dX6_isAhead_30 (by decide) ?_
      refine r_goto (tgt := 35) C dX6_isAhead_31 (by decide) ?_
      exact r_iret CE rfl rfl dX6_isAhead_35 (Nat.le_of_ble_eq_true rfl) ⟨_, rfl, by rw [e]; rfl, rfl⟩
abbrev Fp (k : Nat) : Prop := k = 37 ∨ (55 ≤ k ∧ k ≤ 58)
def RM (X Y : St) (i n c : Nat) : Prop := Fr Fp X Y ∧ (∀ j, j ≠ 24 → Zm Y 37 j = Zm X 37 j) ∧ Zm Y 37 24 = nI n ∧ Zv Y 55 = upd (Zv X 55) i (Zv X 55 n) ∧ Zv Y 57 = upd (Zv X 57) i (Zv X 57 n) ∧ Zv Y 58 = upd (Zv X 58) i (Zv X 58 n) ∧ ∀ k, Zv Y 56 k = if k / 10 = i ∧ k % 10 < c then Zv X 56 (10 * n + k % 10) else Zv X 56 k
theorem RM.s {X Y : St} {i n c : Nat} {v : Int32} (h : RM X Y i n c) (hc : c < 10) (hv : v = Zv Y 56 (10 * n + c)) : RM X (Yv Y 56 (upd (Zv Y 56) (10 * i + c) v)) i n (c + 1) := by
  obtain ⟨h1, h2, h3, h4, h5, h6, h7⟩ := h
  refine ⟨h1.tr (Fr.v _ (Or.inr ⟨by decide, by decide⟩)), h2, h3, h4, h5, h6, fun k => ?_⟩
  show (if k = 10 * i + c then v else Zv Y 56 k) = _
  have e9 : v = Zv X 56 (10 * n + c) := by
    rw [hv, h7, show (10 * n + c) / 10 = n by omega, show (10 * n + c) % 10 = c by omega, if_neg (by omega)]
  by_cases e : k = 10 * i + c
  · rw [if_pos e, if_pos (by omega), show k % 10 = c by omega, e9]
  · rw [if_neg e, h7]
    by_cases g : k / 10 = i ∧ k % 10 < c
    · rw [if_pos g, if_pos (by omega)]
    · rw [if_neg g, if_neg (by omega)]
set_option maxHeartbeats 4000000 in
set_option maxRecDepth 100000 in
theorem lp_X6_remove {l : Launch} {G : Geo} {J : JT} {JX : JXT} {X : St} (hfl : l.stackTraces = false) {i n : Nat} (hn : Zm X 37 24 = nI (n + 1)) (hi : i < 320) (hn2 : n < 320) (CE : Cl l RX6 cX6_remove 3 none [] G 0 0 0 (kV (fun X' => RM X X' i n 10)) kF J JX) :
    ∀ q r (Y : St), r + q = 10 → RM X Y i n r → J Y 0 57 [(2, .int (nI r)), (0, .ref (G.2.1 37)), (1, .int (nI i))] [] := by
  have C := CE.b
  intro q
  induction q with
  | zero =>
    intro r Y h hY
    have e0 : r = 10 := by omega
    subst e0
    refine r_iload_n C dX6_remove_57 rfl rfl ?_
    refine r_bipush (v := 10) C dX6_remove_58 (by decide) ?_
    refine r_icmp_ge (tgt := 94) C dX6_remove_60 (by decide) (fun c_60 => ?_) (fun c_60 => absurd ((by decide)) c_60)
    exact r_vret CE rfl dX6_remove_94 (Nat.le_of_ble_eq_true rfl) ⟨rfl, hY⟩
  | succ q ih =>
    intro r Y h hY
    have hr : r < 10 := by omega
    refine r_iload_n C dX6_remove_57 rfl rfl ?_
    refine r_bipush (v := 10) C dX6_remove_58 (by decide) ?_
    refine r_icmp_ge (tgt := 94) C dX6_remove_60 (by decide) (fun c_60 => absurd c_60 ((nI_ge (a := r) (b := 10) hr (by decide)))) (fun c_60 => ?_)
    refine r_aload_n C dX6_remove_63 rfl rfl ?_
    refine gf_RX6_65 C dX6_remove_64 ?_
    refine r_bipush (v := 10) C dX6_remove_67 (by decide) ?_
    refine r_iload_n C dX6_remove_69 rfl rfl ?_
    refine r_imul C dX6_remove_70 ?_
    refine r_iload_n C dX6_remove_71 rfl rfl ?_
    refine r_iadd C dX6_remove_72 ?_
    refine r_aload_n C dX6_remove_73 rfl rfl ?_
    refine gf_RX6_65 C dX6_remove_74 ?_
    refine r_bipush (v := 10) C dX6_remove_77 (by decide) ?_
    refine r_aload_n C dX6_remove_79 rfl rfl ?_
    refine gf_RX6_165 C dX6_remove_80 ?_
    refine r_topi hY.2.2.1 ?_
    refine r_imul C dX6_remove_83 ?_
    refine r_iload_n C dX6_remove_84 rfl rfl ?_
    refine r_iadd C dX6_remove_85 ?_
    refine r_iald C (10 * n + r) (by decide) rfl (zix' n r) (by omega) dX6_remove_86 ?_
    refine r_iast C (10 * i + r) (by decide) rfl (zix' i r) (by omega) dX6_remove_87 ?_
    refine r_iinc (v := _) C dX6_remove_88 rfl (nI_1 r) ?_
    refine r_goto (tgt := 57) C dX6_remove_91 (by decide) ?_
    refine r_sub C (lv' := [(2, .int (nI (r + 1))), (0, .ref (G.2.1 37)), (1, .int (nI i))]) ⟨rfl, rfl, rfl, trivial⟩ ?_
    exact ih (r + 1) _ (by omega) (hY.s hr rfl)

set_option maxHeartbeats 4000000 in
set_option maxRecDepth 100000 in
/-- X6_remove  -/
theorem con_X6_remove (l : Launch) (hfl : l.stackTraces = false) {i n : Nat} (X : St) (hn : Zm X 37 24 = nI (n + 1)) (hi : i < 320) (hn2 : n < 320) : Con l yX6_remove cX6_remove 3 none 0 0 0 (fun G => [.ref (G.2.1 37), .int (nI i)]) X (kV (fun X' => RM X X' i n 10)) kF := by
  refine con_of (lv := fun G => [(0, .ref (G.2.1 37)), (1, .int (nI i))]) hfl (by decide +kernel) (fun _ => rfl) (fun _ => Nat.le_of_ble_eq_true rfl) ?_
  intro G J JX CE
  have C := CE.b
  refine r_aload_n C dX6_remove_0 rfl rfl ?_
  refine r_dup C dX6_remove_1 rfl ?_
  refine gf_RX6_165 C dX6_remove_2 ?_
  refine r_topi hn ?_
  refine r_iconst (v := 1) C dX6_remove_5 (by decide) ?_
  refine r_isub C dX6_remove_6 ?_
  refine r_topi (show _ = nI n from dn_1 (n + 1)) ?_
  refine pf_RX6_165 C dX6_remove_7 ?_
  refine r_aload_n C dX6_remove_10 rfl rfl ?_
  refine gf_RX6_62 C dX6_remove_11 ?_
  refine r_iload_n C dX6_remove_14 rfl rfl ?_
  refine r_aload_n C dX6_remove_15 rfl rfl ?_
  refine gf_RX6_62 C dX6_remove_16 ?_
  refine r_aload_n C dX6_remove_19 rfl rfl ?_
  refine gf_RX6_165 C dX6_remove_20 ?_
  refine r_topi (show _ = nI n from rfl) ?_
  refine r_iald C (n) (by decide) rfl rfl hn2 dX6_remove_23 ?_
  refine r_iast C (i) (by decide) rfl rfl hi dX6_remove_24 ?_
  refine r_aload_n C dX6_remove_25 rfl rfl ?_
  refine gf_RX6_68 C dX6_remove_26 ?_
  refine r_iload_n C dX6_remove_29 rfl rfl ?_
  refine r_aload_n C dX6_remove_30 rfl rfl ?_
  refine gf_RX6_68 C dX6_remove_31 ?_
  refine r_aload_n C dX6_remove_34 rfl rfl ?_
  refine gf_RX6_165 C dX6_remove_35 ?_
  refine r_topi (show _ = nI n from rfl) ?_
  refine r_iald C (n) (by decide) rfl rfl hn2 dX6_remove_38 ?_
  refine r_iast C (i) (by decide) rfl rfl hi dX6_remove_39 ?_
  refine r_aload_n C dX6_remove_40 rfl rfl ?_
  refine gf_RX6_71 C dX6_remove_41 ?_
  refine r_iload_n C dX6_remove_44 rfl rfl ?_
  refine r_aload_n C dX6_remove_45 rfl rfl ?_
  refine gf_RX6_71 C dX6_remove_46 ?_
  refine r_aload_n C dX6_remove_49 rfl rfl ?_
  refine gf_RX6_165 C dX6_remove_50 ?_
  refine r_topi (show _ = nI n from rfl) ?_
  refine r_iald C (n) (by decide) rfl rfl hn2 dX6_remove_53 ?_
  refine r_iast C (i) (by decide) rfl rfl hi dX6_remove_54 ?_
  refine r_iconst (v := 0) C dX6_remove_55 (by decide) ?_
  refine r_istore_n C dX6_remove_56 rfl (by decide) ?_
  refine r_sub C (lv' := [(2, .int (nI 0)), (0, .ref (G.2.1 37)), (1, .int (nI i))]) ⟨rfl, rfl, rfl, trivial⟩ ?_
  refine lp_X6_remove hfl hn hi hn2 CE 10 0 _ (by omega) ⟨(((Fr.m _ (Or.inl rfl)).tr (Fr.v _ (Or.inr ⟨by decide, by decide⟩))).tr (Fr.v _ (Or.inr ⟨by decide, by decide⟩))).tr (Fr.v _ (Or.inr ⟨by decide, by decide⟩)), fun j hj => if_neg (fun q => hj q.2), rfl, rfl, rfl, rfl, fun k => ?_⟩
  rw [if_neg (by omega)]; rfl
