/-- the parts' arrays hold P -/
def PH (X : St) (A : DA) (P : List PT) : Prop := Zm X 37 24 = nI P.length ∧ P.length ≤ 320 ∧ ∀ (i : Nat) (p : PT), P[i]? = some p → Zv X 55 i = i32 (csf (pre (sc A.z) p.2.2 10)) ∧ Zv X 57 i = nI p.1 ∧ Zv X 58 i = nI p.2.1 ^^^ -1 ∧ ∀ r, r < A.R → Zv X 56 (10 * i + r) = nI (2 ^ p.2.2 r)
theorem PH.fr {X Y : St} {P : Nat → Prop} {A : DA} {L : List PT} (h : PH X A L) (hF : Fr P X Y) (h0 : Zm Y 37 24 = Zm X 37 24) (h1 : ∀ k, 55 ≤ k → k ≤ 58 → ¬ P k) : PH Y A L := by
  refine ⟨h0.trans h.1, h.2.1, fun i p hi => ?_⟩
  rw [(hF 55 (h1 55 (by decide) (by decide))).2.1, (hF 56 (h1 56 (by decide) (by decide))).2.1, (hF 57 (h1 57 (by decide) (by decide))).2.1, (hF 58 (h1 58 (by decide) (by decide))).2.1]
  exact h.2.2 i p hi
theorem chP_out {A : DA} (h : AOk A) {f E : Nat} {a : Nat → Nat} (hf : f ≤ A.R) {r : Nat} (hr : A.R ≤ r) : chP A f E a r = 1024 := by
  rw [chP, if_neg (by omega), if_neg (by omega)]
  exact chU_out h.t.1 hr
theorem chP_ok {A : DA} {f E : Nat} {a : Nat → Nat} (ha : Vd (chU A.ra A.ca A.z) a f) (r : Nat) : chP A f E a r < 2048 ∧ ∀ c, c < 10 → (chP A f E a r).testBit c = true → (us A.ra A.ca A.z r).testBit c = true := by
  rw [chP]
  by_cases e : r < f
  · rw [if_pos e]
    obtain ⟨h1, h2, _⟩ := ha r e
    refine ⟨Nat.lt_of_lt_of_le (Nat.pow_lt_pow_right (by decide) h1) (Nat.le_refl _), fun c hc hb => ?_⟩
    rw [← pow_bit.mp hb, chU_bit hc] at h2
    exact h2
  · rw [if_neg e]
    by_cases e2 : r = f ∧ r < A.R
    · rw [if_pos e2]
      refine ⟨andn_lt (n := 11) (chU_lt _ _ _ _), fun c hc hb => ?_⟩
      rw [andn_bit, Bool.and_eq_true, chU_bit hc] at hb
      exact hb.1
    · rw [if_neg e2]
      exact ⟨chU_lt _ _ _ _, fun c hc hb => by rw [chU_bit hc] at hb; exact hb⟩
theorem gP_10 {A : DA} (h : AOk A) {f E : Nat} {a : Nat → Nat} (hf : f ≤ A.R) : gT (chP A f E a) (sc A.z) A.R A.R 0 = gT (chP A f E a) (sc A.z) 10 10 0 := by
  have hR := h.R
  rw [gT_ext h.R (fun q h1 _ => chP_out h hf h1) A.R 0 (Nat.le_refl _), show 10 - A.R + A.R = 10 by omega]
theorem gcol_ga {A : DA} (h : AOk A) {f E : Nat} {a : Nat → Nat} (hf : f ≤ A.R) {r : Nat} (hr : r < A.R) : gcol (chP A f E a) (sc A.z) A.R r (gtk (chP A f E a) (sc A.z) A.R r) = ga (chP A f E a) (sc A.z) r := by
  have hR := h.R
  rw [gcol_ext h.R (fun q h1 _ => chP_out h hf h1) hr, gtk_ext h.R (fun q h1 _ => chP_out h hf h1) r (by omega)]
  rfl
/-- the first c choices of a new part are written -/
def AP (X Y : St) (n c : Nat) : Prop := Fr (fun k => k = 56) X Y ∧ ∀ k, Zv Y 56 k = if 10 * n ≤ k ∧ k < 10 * n + c then Zv X 52 (k - 10 * n) else Zv X 56 k
theorem AP.s {X Y : St} {n c : Nat} {v : Int32} (h : AP X Y n c) (hv : v = Zv X 52 c) : AP X (Yv Y 56 (upd (Zv Y 56) (10 * n + c) v)) n (c + 1) := by
  refine ⟨h.1.tr (Fr.v _ rfl), fun k => ?_⟩
  show (if k = 10 * n + c then v else Zv Y 56 k) = _
  by_cases e : k = 10 * n + c
  · rw [if_pos e, if_pos (by omega), show k - 10 * n = c by omega, hv]
  · rw [if_neg e, h.2]
    by_cases g : 10 * n ≤ k ∧ k < 10 * n + c
    · rw [if_pos g, if_pos (by omega)]
    · rw [if_neg g, if_neg (by omega)]
/-- the part's row f is cut -/
def cuS (A : DA) (X Y : St) (a : Nat → Nat) (c : Nat) : Prop := Fr (fun k => k = 51) X Y ∧ ∀ r, r < A.R → Zv Y 51 r = nI (if r < c then 2 ^ a r else chU A.ra A.ca A.z r)
theorem cuS.s {A : DA} {X Y : St} {a : Nat → Nat} {c : Nat} {v : Int32} (h : cuS A X Y a c) (hv : v = nI (2 ^ a c)) : cuS A X (Yv Y 51 (upd (Zv Y 51) c v)) a (c + 1) := by
  refine ⟨h.1.tr (Fr.v _ rfl), fun r hr => ?_⟩
  show (if r = c then v else Zv Y 51 r) = _
  by_cases e : r = c
  · rw [if_pos e, if_pos (by omega), hv, e]
  · rw [if_neg e, h.2 r hr]
    by_cases g : r < c
    · rw [if_pos g, if_pos (by omega)]
    · rw [if_neg g, if_neg (by omega)]
theorem PH_app {X Y : St} {A : DA} {P : List PT} {p : PT} (h : PH X A P) (hn : P.length < 320) (h0 : Zm Y 37 24 = nI (P.length + 1)) (h1 : ∀ i, i < P.length → Zv Y 55 i = Zv X 55 i ∧ Zv Y 57 i = Zv X 57 i ∧ Zv Y 58 i = Zv X 58 i) (h2 : ∀ k, k < 10 * P.length → Zv Y 56 k = Zv X 56 k) (h3 : Zv Y 55 P.length = i32 (csf (pre (sc A.z) p.2.2 10)) ∧ Zv Y 57 P.length = nI p.1 ∧ Zv Y 58 P.length = nI p.2.1 ^^^ -1 ∧ ∀ r, r < A.R → Zv Y 56 (10 * P.length + r) = nI (2 ^ p.2.2 r)) (hR : A.R ≤ 10) : PH Y A (P ++ [p]) := by
  refine ⟨by rw [h0, List.length_append]; rfl, by rw [List.length_append, List.length_singleton]; omega, fun i q hi => ?_⟩
  rcases Nat.lt_or_ge i P.length with g | g
  · rw [List.getElem?_append_left g] at hi
    obtain ⟨k1, k2, k3, k4⟩ := h.2.2 i q hi
    obtain ⟨j1, j2, j3⟩ := h1 i g
    exact ⟨j1.trans k1, j2.trans k2, j3.trans k3, fun r hr => (h2 _ (by omega)).trans (k4 r hr)⟩
  · rw [List.getElem?_append_right g] at hi
    rcases Nat.eq_or_lt_of_le g with g3 | g3
    · subst g3
      rw [Nat.sub_self, List.getElem?_cons_zero] at hi
      cases hi
      exact h3
    · rw [List.getElem?_eq_none (by rw [List.length_singleton]; omega)] at hi
      cases hi
set_option maxHeartbeats 4000000 in
set_option maxRecDepth 100000 in
theorem lp_X6_addPart_a {l : Launch} {G : Geo} {J : JT} {JX : JXT} {X X1 : St} (hfl : l.stackTraces = false) {A : DA} {P : List PT} {f E : Nat} {a : Nat → Nat} {a9 : Int32} (hM : MInv X A) (hP : PH X A P) (hPl : P.length < 320) (hf : f ≤ A.R) (hE : E < 2048) (ha : Vd (chU A.ra A.ca A.z) a f) (ht : ∀ r, r < f → Zv X 59 r = nI (2 ^ a r)) (h9 : a9 = nI E ^^^ -1) (hF1 : Fr (fun k => k = 51) X X1) (CE : Cl l RX6 cX6_addPart 7 none [] G 6 190 0 (kV (fun X' => PH X' A (addP A f E a P) ∧ MInv X' A ∧ Zm X' 37 0 = Zm X 37 0 ∧ Zv X' 59 = Zv X 59 ∧ Fr Mp X X')) kF J JX) :
    (∀ Y, cuS A X1 Y a f → J Y 0 32 [(0, .ref (G.2.1 37)), (1, .ref (G.2.1 59)), (2, .int 0), (3, .int (nI f)), (4, .int a9), (5, .int (i32 (szf (Ls A.ra A.ca A.z 10 A.ca))))] []) → ∀ n r (Y : St), r + n = f → cuS A X1 Y a r → J Y 0 7 [(6, .int (nI r)), (0, .ref (G.2.1 37)), (1, .ref (G.2.1 59)), (2, .int 0), (3, .int (nI f)), (4, .int a9), (5, .int (i32 (szf (Ls A.ra A.ca A.z 10 A.ca))))] [] := by
  have C := CE.b
  intro hkk
  intro n
  induction n with
  | zero =>
    intro r Y h hY
    have e0 : r = f := by omega
    subst e0
    refine r_iload C dX6_addPart_7 rfl ?_
    refine r_iload_n C dX6_addPart_9 rfl rfl ?_
    refine r_icmp_ge (tgt := 32) C dX6_addPart_10 (by decide) (fun c_10 => ?_) (fun c_10 => absurd ((Int32.le_refl _)) c_10)
    exact r_sub C (lv' := [(0, .ref (G.2.1 37)), (1, .ref (G.2.1 59)), (2, .int 0), (3, .int (nI r)), (4, .int a9), (5, .int (i32 (szf (Ls A.ra A.ca A.z 10 A.ca))))]) ⟨rfl, rfl, rfl, rfl, rfl, rfl, trivial⟩ (hkk Y hY)
  | succ n ih =>
    intro r Y h hY
    have hr : r < f := by omega
    have hR10 := hM.ok.R
    have h59 : Zv Y 59 r = nI (2 ^ a r) := by rw [(hY.1 59 (by decide)).2.1, (hF1 59 (by decide)).2.1]; exact ht r hr
    refine r_iload C dX6_addPart_7 rfl ?_
    refine r_iload_n C dX6_addPart_9 rfl rfl ?_
    refine r_icmp_ge (tgt := 32) C dX6_addPart_10 (by decide) (fun c_10 => absurd c_10 ((nI_ge (a := r) (b := f) hr (by omega)))) (fun c_10 => ?_)
    refine r_aload_n C dX6_addPart_13 rfl rfl ?_
    refine gf_RX6_50 C dX6_addPart_14 ?_
    refine r_iload C dX6_addPart_17 rfl ?_
    refine r_aload_n C dX6_addPart_19 rfl rfl ?_
    refine r_iload_n C dX6_addPart_20 rfl rfl ?_
    refine r_iload C dX6_addPart_21 rfl ?_
    refine r_iadd C dX6_addPart_23 ?_
    refine r_topi (show _ = nI r from Int32.zero_add _) ?_
    refine r_iald C (r) (by decide) rfl rfl (by omega) dX6_addPart_24 ?_
    refine r_topi h59 ?_
    refine r_iast C (r) (by decide) rfl rfl (by omega) dX6_addPart_25 ?_
    refine r_iinc (v := _) C dX6_addPart_26 rfl (nI_1 r) ?_
    refine r_goto (tgt := 7) C dX6_addPart_29 (by decide) ?_
    refine r_sub C (lv' := [(6, .int (nI (r + 1))), (0, .ref (G.2.1 37)), (1, .ref (G.2.1 59)), (2, .int 0), (3, .int (nI f)), (4, .int a9), (5, .int (i32 (szf (Ls A.ra A.ca A.z 10 A.ca))))]) ⟨rfl, rfl, rfl, rfl, rfl, rfl, rfl, trivial⟩ ?_
    exact ih (r + 1) _ (by omega) (hY.s rfl)

set_option maxHeartbeats 4000000 in
set_option maxRecDepth 100000 in
theorem lp_X6_addPart_b {l : Launch} {G : Geo} {J : JT} {JX : JXT} {X Y0 : St} {K9 : Option Value → St → Prop} (hfl : l.stackTraces = false) {A : DA} {P : List PT} {f E : Nat} {a : Nat → Nat} {a9 : Int32} (hR : Zm Y0 37 1 = nI A.R) (hR2 : A.R ≤ 10) (hn : Zm Y0 37 24 = nI P.length) (hPl : P.length < 320) (CE : Cl l RX6 cX6_addPart 7 none [] G 6 190 0 K9 kF J JX) :
    (∀ Y, AP Y0 Y P.length A.R → J Y 0 147 [(0, .ref (G.2.1 37)), (1, .ref (G.2.1 59)), (2, .int 0), (3, .int (nI f)), (4, .int a9), (5, .int (i32 (szf (Ls A.ra A.ca A.z 10 A.ca))))] []) → ∀ n r (Y : St), r + n = A.R → AP Y0 Y P.length r → J Y 0 110 [(6, .int (nI r)), (0, .ref (G.2.1 37)), (1, .ref (G.2.1 59)), (2, .int 0), (3, .int (nI f)), (4, .int a9), (5, .int (i32 (szf (Ls A.ra A.ca A.z 10 A.ca))))] [] := by
  have C := CE.b
  intro hkk
  intro n
  induction n with
  | zero =>
    intro r Y h hY
    have e0 : r = A.R := by omega
    subst e0
    refine r_iload C dX6_addPart_110 rfl ?_
    refine r_aload_n C dX6_addPart_112 rfl rfl ?_
    refine gf_RX6_81 C dX6_addPart_113 ?_
    refine r_topi (show _ = nI A.R by rw [(hY.1 37 (by decide)).1 1]; exact hR) ?_
    refine r_icmp_ge (tgt := 147) C dX6_addPart_116 (by decide) (fun c_116 => ?_) (fun c_116 => absurd ((Int32.le_refl _)) c_116)
    exact r_sub C (lv' := [(0, .ref (G.2.1 37)), (1, .ref (G.2.1 59)), (2, .int 0), (3, .int (nI f)), (4, .int a9), (5, .int (i32 (szf (Ls A.ra A.ca A.z 10 A.ca))))]) ⟨rfl, rfl, rfl, rfl, rfl, rfl, trivial⟩ (hkk Y hY)
  | succ n ih =>
    intro r Y h hY
    have hr : r < A.R := by omega
    refine r_iload C dX6_addPart_110 rfl ?_
    refine r_aload_n C dX6_addPart_112 rfl rfl ?_
    refine gf_RX6_81 C dX6_addPart_113 ?_
    refine r_topi (show _ = nI A.R by rw [(hY.1 37 (by decide)).1 1]; exact hR) ?_
    refine r_icmp_ge (tgt := 147) C dX6_addPart_116 (by decide) (fun c_116 => absurd c_116 ((nI_ge (a := r) (b := A.R) hr (by omega)))) (fun c_116 => ?_)
    refine r_aload_n C dX6_addPart_119 rfl rfl ?_
    refine gf_RX6_65 C dX6_addPart_120 ?_
    refine r_bipush (v := 10) C dX6_addPart_123 (by decide) ?_
    refine r_aload_n C dX6_addPart_125 rfl rfl ?_
    refine gf_RX6_165 C dX6_addPart_126 ?_
    refine r_topi (show _ = nI P.length by rw [(hY.1 37 (by decide)).1 24]; exact hn) ?_
    refine r_imul C dX6_addPart_129 ?_
    refine r_iload C dX6_addPart_130 rfl ?_
    refine r_iadd C dX6_addPart_132 ?_
    refine r_aload_n C dX6_addPart_133 rfl rfl ?_
    refine gf_RX6_53 C dX6_addPart_134 ?_
    refine r_iload C dX6_addPart_137 rfl ?_
    refine r_iald C (r) (by decide) rfl rfl (by omega) dX6_addPart_139 ?_
    refine r_topi (show _ = Zv Y0 52 r by rw [(hY.1 52 (by decide)).2.1]) ?_
    refine r_iast C (10 * P.length + r) (by decide) rfl (zix' _ r) (by omega) dX6_addPart_140 ?_
    refine r_iinc (v := _) C dX6_addPart_141 rfl (nI_1 r) ?_
    refine r_goto (tgt := 110) C dX6_addPart_144 (by decide) ?_
    refine r_sub C (lv' := [(6, .int (nI (r + 1))), (0, .ref (G.2.1 37)), (1, .ref (G.2.1 59)), (2, .int 0), (3, .int (nI f)), (4, .int a9), (5, .int (i32 (szf (Ls A.ra A.ca A.z 10 A.ca))))]) ⟨rfl, rfl, rfl, rfl, rfl, rfl, rfl, trivial⟩ ?_
    exact ih (r + 1) _ (by omega) (hY.s rfl)

set_option maxHeartbeats 4000000 in
set_option maxRecDepth 100000 in
theorem lp_X6_addPart_c {l : Launch} {G : Geo} {J : JT} {JX : JXT} {X Y4 : St} (hfl : l.stackTraces = false) {A : DA} {P : List PT} {f E : Nat} {a : Nat → Nat} {a9 : Int32} (hM : MInv X A) (hP : PH X A P) (hPl : P.length < 320) (hf : f ≤ A.R) (hE : E < 2048) (ha : Vd (chU A.ra A.ca A.z) a f) (ht : ∀ r, r < f → Zv X 59 r = nI (2 ^ a r)) (h9 : a9 = nI E ^^^ -1) (hF4 : Fr (fun k => k = 51) X Y4) (hv4 : ∀ r, r < A.R → Zv Y4 51 r = nI (chP A f E a r)) (CE : Cl l RX6 cX6_addPart 7 none [] G 6 190 0 (kV (fun X' => PH X' A (addP A f E a P) ∧ MInv X' A ∧ Zm X' 37 0 = Zm X 37 0 ∧ Zv X' 59 = Zv X 59 ∧ Fr Mp X X')) kF J JX) :
    J Y4 0 51 [(0, .ref (G.2.1 37)), (1, .ref (G.2.1 59)), (2, .int 0), (3, .int (nI f)), (4, .int a9), (5, .int (i32 (szf (Ls A.ra A.ca A.z 10 A.ca))))] [] := by
  have C := CE.b
  have hR10 := hM.ok.R
  have hC10 := hM.ok.C
  have hM4 : MInv Y4 A := hM.fr hF4 (fun k _ _ q => by have q : k = 51 := q; omega)
  have hk4 : chk Y4 (chP A f E a) (sc A.z) A.R A.C := chk_us hM (hF4.mono (fun k q => by have q : k = 51 := q; omega)) hv4 (fun r _ => chP_ok ha r)
  refine r_aload_n C dX6_addPart_51 rfl rfl ?_
  refine cl_RX6_144 C (con_X6_fill l hfl _ (ch := chP A f E a) (s := sc A.z) hM4.b.1 hM4.b.2.1 hM.ok.R hM.ok.C hk4) dX6_addPart_52 rfl ⟨Nat.le_of_ble_eq_true rfl, Nat.le_of_ble_eq_true rfl⟩ (by omega) (Nat.le_of_ble_eq_true rfl) (fun X_52 h_52 => ?_)
  obtain ⟨hT6, hF6⟩ := h_52
  have h5 : OHold X_52 (1024 * 0 + 0) (gT (chP A f E a) (sc A.z) A.R (A.R - 0) 0) := hT6 0 0 (Nat.le_refl _) (Nat.zero_le _) (Nat.two_pow_pos _)
  rw [Nat.sub_zero, gP_10 hM.ok hf] at h5
  have hM6 : MInv X_52 A := hM4.fr hF6 (fun k _ _ q => by have q : 48 ≤ k ∧ k ≤ 50 := q; omega)
  have hXF : Fr (fun k => 48 ≤ k ∧ k ≤ 51) X X_52 := (hF4.mono (fun k q => by have q : k = 51 := q; omega)).tr (hF6.mono (fun k q => by have q : 48 ≤ k ∧ k ≤ 50 := q; omega))
  have r24 : Zm X_52 37 24 = nI P.length := ((hXF 37 (by omega)).1 24).trans hP.1
  have r0 : Zm X_52 37 0 = Zm X 37 0 := (hXF 37 (by omega)).1 0
  obtain ⟨o1, o2⟩ := part_o hM.ok (E := E) hf ha
  refine r_aload_n C dX6_addPart_55 rfl rfl ?_
  refine gf_RX6_41 C dX6_addPart_56 ?_
  refine r_iconst (v := 0) C dX6_addPart_59 (by decide) ?_
  refine r_iald C (0) (by decide) rfl rfl (by decide) dX6_addPart_60 ?_
  refine r_topi (show _ = oS (gT (chP A f E a) (sc A.z) 10 10 0) from h5.1) ?_
  refine r_iload C dX6_addPart_61 rfl ?_
  refine r_icmp_eq (tgt := 67) C dX6_addPart_63 (by decide) (fun c_63 => ?_) (fun c_63 => ?_)
  · -- 67
    have e63 := c_63
    obtain ⟨_, hoC, ⟨p6, hp6⟩, _⟩ := o2 e63
    rw [← gP_10 hM.ok hf] at hp6
    obtain ⟨g9, hg9⟩ : ∃ g9, (ga (chP A f E a) (sc A.z)) = g9 := ⟨_, rfl⟩
    rw [hg9] at hoC
    refine r_aload_n C dX6_addPart_67 rfl rfl ?_
    refine cl_RX6_149 C (con_X6_choose l hfl _ (p := p6) hM6.b.1 hM.ok.R hM.ok.C (hk4.fr hF6 (by omega) (by omega)) hT6 hp6) dX6_addPart_68 rfl ⟨Nat.le_of_ble_eq_true rfl, Nat.le_of_ble_eq_true rfl⟩ (by omega) (Nat.le_of_ble_eq_true rfl) (fun X_68 h_68 => ?_)
    obtain ⟨hch8, hF7⟩ := h_68
    have hM7 : MInv X_68 A := hM6.fr hF7 (fun k _ _ q => by have q : k = 52 := q; omega)
    refine r_aload_n C dX6_addPart_71 rfl rfl ?_
    refine gf_RX6_62 C dX6_addPart_72 ?_
    refine r_aload_n C dX6_addPart_75 rfl rfl ?_
    refine gf_RX6_165 C dX6_addPart_76 ?_
    refine r_topi (show _ = nI P.length by rw [(hF7 37 (by decide)).1 24]; exact r24) ?_
    refine r_aload_n C dX6_addPart_79 rfl rfl ?_
    refine gf_RX6_44 C dX6_addPart_80 ?_
    refine r_iconst (v := 0) C dX6_addPart_83 (by decide) ?_
    refine r_iald C (0) (by decide) rfl rfl (by decide) dX6_addPart_84 ?_
    refine r_topi (show _ = oC (gT (chP A f E a) (sc A.z) 10 10 0) by rw [(hF7 49 (by decide)).2.1]; exact h5.2.1) ?_
    refine r_iast C (P.length) (by decide) rfl rfl hPl dX6_addPart_85 ?_
    refine r_aload_n C dX6_addPart_86 rfl rfl ?_
    refine gf_RX6_68 C dX6_addPart_87 ?_
    refine r_aload_n C dX6_addPart_90 rfl rfl ?_
    refine gf_RX6_165 C dX6_addPart_91 ?_
    refine r_topi (show _ = nI P.length by show Zm X_68 37 24 = _; rw [(hF7 37 (by decide)).1 24]; exact r24) ?_
    refine r_iload_n C dX6_addPart_94 rfl rfl ?_
    refine r_iast C (P.length) (by decide) rfl rfl hPl dX6_addPart_95 ?_
    refine r_aload_n C dX6_addPart_96 rfl rfl ?_
    refine gf_RX6_71 C dX6_addPart_97 ?_
    refine r_aload_n C dX6_addPart_100 rfl rfl ?_
    refine gf_RX6_165 C dX6_addPart_101 ?_
    refine r_topi (show _ = nI P.length by show Zm X_68 37 24 = _; rw [(hF7 37 (by decide)).1 24]; exact r24) ?_
    refine r_iload C dX6_addPart_104 rfl ?_
    refine r_iast C (P.length) (by decide) rfl rfl hPl dX6_addPart_106 ?_
    refine r_iconst (v := 0) C dX6_addPart_107 (by decide) ?_
    refine r_istore C dX6_addPart_108 (by decide) ?_
    obtain ⟨Y8, hY8⟩ : ∃ Y8, (Yv (Yv (Yv X_68 55 (upd (Zv X_68 55) P.length (oC (gT (chP A f E a) (sc A.z) 10 10 0)))) 57 (upd (Zv (Yv X_68 55 (upd (Zv X_68 55) P.length (oC (gT (chP A f E a) (sc A.z) 10 10 0)))) 57) P.length (nI f))) 58 (upd (Zv (Yv (Yv X_68 55 (upd (Zv X_68 55) P.length (oC (gT (chP A f E a) (sc A.z) 10 10 0)))) 57 (upd (Zv (Yv X_68 55 (upd (Zv X_68 55) P.length (oC (gT (chP A f E a) (sc A.z) 10 10 0)))) 57) P.length (nI f))) 58) P.length a9)) = Y8 := ⟨_, rfl⟩
    refine r_st hY8 ?_
    have q24 : Zm Y8 37 24 = nI P.length := by rw [← hY8]; show Zm X_68 37 24 = _; rw [(hF7 37 (by decide)).1 24]; exact r24
    have q0 : Zm Y8 37 0 = Zm X 37 0 := by rw [← hY8]; show Zm X_68 37 0 = _; rw [(hF7 37 (by decide)).1 0]; exact r0
    have q55 : Zv Y8 55 = upd (Zv X 55) P.length (oC (gT (chP A f E a) (sc A.z) 10 10 0)) := by rw [← hY8]; show upd (Zv X_68 55) _ _ = _; rw [(hF7 55 (by decide)).2.1, (hXF 55 (by omega)).2.1]
    have q57 : Zv Y8 57 = upd (Zv X 57) P.length (nI f) := by rw [← hY8]; show upd (Zv X_68 57) _ _ = _; rw [(hF7 57 (by decide)).2.1, (hXF 57 (by omega)).2.1]
    have q58 : Zv Y8 58 = upd (Zv X 58) P.length a9 := by rw [← hY8]; show upd (Zv X_68 58) _ _ = _; rw [(hF7 58 (by decide)).2.1, (hXF 58 (by omega)).2.1]
    have q56 : Zv Y8 56 = Zv X 56 := by rw [← hY8]; show Zv X_68 56 = _; rw [(hF7 56 (by decide)).2.1, (hXF 56 (by omega)).2.1]
    have q59 : Zv Y8 59 = Zv X 59 := by rw [← hY8]; show Zv X_68 59 = _; rw [(hF7 59 (by decide)).2.1, (hXF 59 (by omega)).2.1]
    have q52 : Zv Y8 52 = Zv X_68 52 := by rw [← hY8]; rfl
    have hM8 : MInv Y8 A := by
      rw [← hY8]
      exact hM7.fr (((Fr.v (P := fun k => 55 ≤ k) _ (by decide)).tr (Fr.v _ (by decide))).tr (Fr.v _ (by decide))) (fun k _ k2 q => by have q : 55 ≤ k := q; omega)
    have hF8 : Fr Mp X Y8 := by
      rw [← hY8]
      exact ((((hXF.mono (fun k q => by have q : 48 ≤ k ∧ k ≤ 51 := q; show 37 ≤ k; omega)).tr (hF7.mono (fun k q => by have q : k = 52 := q; show 37 ≤ k; omega))).tr (Fr.v _ (by decide))).tr (Fr.v _ (by decide))).tr (Fr.v _ (by decide))
    refine r_sub C (lv' := [(6, .int (nI 0)), (0, .ref (G.2.1 37)), (1, .ref (G.2.1 59)), (2, .int 0), (3, .int (nI f)), (4, .int a9), (5, .int (i32 (szf (Ls A.ra A.ca A.z 10 A.ca))))]) ⟨rfl, rfl, rfl, rfl, rfl, rfl, rfl, trivial⟩ ?_
    refine lp_X6_addPart_b (X := X) (f := f) (E := E) (a := a) (a9 := a9) hfl hM8.b.1 hM.ok.R q24 hPl CE ?_ A.R 0 Y8 (Nat.zero_add _) ⟨Fr.rf, fun k => by rw [if_neg (by omega)]⟩
    intro Y9 hA
    refine r_aload_n C dX6_addPart_147 rfl rfl ?_
    refine r_dup C dX6_addPart_148 rfl ?_
    refine gf_RX6_165 C dX6_addPart_149 ?_
    refine r_topi (show _ = nI P.length by rw [(hA.1 37 (by decide)).1 24]; exact q24) ?_
    refine r_iconst (v := 1) C dX6_addPart_152 (by decide) ?_
    refine r_iadd C dX6_addPart_153 ?_
    refine r_topi (nI_1 _) ?_
    refine pf_RX6_165 C dX6_addPart_154 ?_
    exact r_vret CE rfl dX6_addPart_157 (Nat.le_of_ble_eq_true rfl) ⟨rfl, by
            rw [addP, if_pos e63, hg9]
            refine PH_app (p := (f, E, g9)) hP hPl rfl (fun i hi => ⟨?_, ?_, ?_⟩) (fun k hk => ?_) ⟨?_, ?_, ?_, fun r hr => ?_⟩ hR10
            · show Zv Y9 55 i = _
              rw [(hA.1 55 (by decide)).2.1, q55]; exact if_neg (by omega)
            · show Zv Y9 57 i = _
              rw [(hA.1 57 (by decide)).2.1, q57]; exact if_neg (by omega)
            · show Zv Y9 58 i = _
              rw [(hA.1 58 (by decide)).2.1, q58]; exact if_neg (by omega)
            · show Zv Y9 56 k = _
              rw [hA.2, if_neg (by omega), q56]
            · show Zv Y9 55 P.length = i32 (csf (pre (sc A.z) g9 10))
              rw [(hA.1 55 (by decide)).2.1, q55]; exact (if_pos rfl).trans hoC
            · show Zv Y9 57 P.length = nI f
              rw [(hA.1 57 (by decide)).2.1, q57]; exact if_pos rfl
            · show Zv Y9 58 P.length = nI E ^^^ -1
              rw [(hA.1 58 (by decide)).2.1, q58]; exact (if_pos rfl).trans h9
            · show Zv Y9 56 (10 * P.length + r) = nI (2 ^ g9 r)
              rw [hA.2, if_pos (by omega), show 10 * P.length + r - 10 * P.length = r by omega, q52, hch8 r hr, gcol_ga hM.ok hf hr, hg9], (hM8.fr hA.1 (fun k _ k2 q => absurd (show k = 56 from q) (by omega)) : MInv Y9 A), ((hA.1 37 (by decide)).1 0).trans q0, by show Zv Y9 59 = _; rw [(hA.1 59 (by decide)).2.1, q59], ((hF8.tr (hA.1.mono (fun k q => by have q : k = 56 := q; show 37 ≤ k; omega))).tr (Fr.m _ (by decide)))⟩
  · -- 66
    exact r_vret CE rfl dX6_addPart_66 (Nat.le_of_ble_eq_true rfl) ⟨rfl, by rw [addP, if_neg c_63]; exact hP.fr hXF ((hXF 37 (by omega)).1 24) (fun k k1 k2 q => by have q : 48 ≤ k ∧ k ≤ 51 := q; omega), hM6, r0, (hXF 59 (by omega)).2.1, hXF.mono (fun k q => by have q : 48 ≤ k ∧ k ≤ 51 := q; show 37 ≤ k; omega)⟩
set_option maxHeartbeats 4000000 in
set_option maxRecDepth 100000 in
/-- X6_addPart  -/
theorem con_X6_addPart (l : Launch) (hfl : l.stackTraces = false) {A : DA} {P : List PT} {f E : Nat} {a : Nat → Nat} {a9 : Int32} (X : St) (hM : MInv X A) (hP : PH X A P) (hPl : P.length < 320) (hf : f ≤ A.R) (hE : E < 2048) (ha : Vd (chU A.ra A.ca A.z) a f) (ht : ∀ r, r < f → Zv X 59 r = nI (2 ^ a r)) (h9 : a9 = nI E ^^^ -1) : Con l yX6_addPart cX6_addPart 7 none 6 190 0 (fun G => [.ref (G.2.1 37), .ref (G.2.1 59), .int 0, .int (nI f), .int a9, .int (i32 (szf (Ls A.ra A.ca A.z 10 A.ca)))]) X (kV (fun X' => PH X' A (addP A f E a P) ∧ MInv X' A ∧ Zm X' 37 0 = Zm X 37 0 ∧ Zv X' 59 = Zv X 59 ∧ Fr Mp X X')) kF := by
  refine con_of (lv := fun G => [(0, .ref (G.2.1 37)), (1, .ref (G.2.1 59)), (2, .int 0), (3, .int (nI f)), (4, .int a9), (5, .int (i32 (szf (Ls A.ra A.ca A.z 10 A.ca))))]) hfl (by decide +kernel) (fun _ => rfl) (fun _ => Nat.le_of_ble_eq_true rfl) ?_
  intro G J JX CE
  have C := CE.b
  have hR10 := hM.ok.R
  have hC10 := hM.ok.C
  refine r_aload_n C dX6_addPart_0 rfl rfl ?_
  refine cl_RX6_141 C (con_X6_setChoices l hfl _ hM) dX6_addPart_1 rfl ⟨Nat.le_of_ble_eq_true rfl, Nat.le_of_ble_eq_true rfl⟩ (by omega) (Nat.le_of_ble_eq_true rfl) (fun X_1 h_1 => ?_)
  obtain ⟨hc1, hF1⟩ := h_1
  refine r_iconst (v := 0) C dX6_addPart_4 (by decide) ?_
  refine r_istore C dX6_addPart_5 (by decide) ?_
  refine r_sub C (lv' := [(6, .int (nI 0)), (0, .ref (G.2.1 37)), (1, .ref (G.2.1 59)), (2, .int 0), (3, .int (nI f)), (4, .int a9), (5, .int (i32 (szf (Ls A.ra A.ca A.z 10 A.ca))))]) ⟨rfl, rfl, rfl, rfl, rfl, rfl, rfl, trivial⟩ ?_
  refine lp_X6_addPart_a hfl hM hP hPl hf hE ha ht h9 hF1 CE ?_ f 0 _ (Nat.zero_add _) ⟨Fr.rf, fun r hr => by rw [if_neg (Nat.not_lt_zero r)]; exact hc1 r hr⟩
  intro Y hY
  refine r_iload_n C dX6_addPart_32 rfl rfl ?_
  refine r_aload_n C dX6_addPart_33 rfl rfl ?_
  refine gf_RX6_81 C dX6_addPart_34 ?_
  refine r_topi (show _ = nI A.R by rw [(hY.1 37 (by decide)).1 1, (hF1 37 (by decide)).1 1]; exact hM.b.1) ?_
  refine r_icmp_ge (tgt := 51) C dX6_addPart_37 (by decide) (fun c_37 => ?_) (fun c_37 => ?_)
  · -- 51
    have e37 : f = A.R := by
      rcases Nat.lt_or_ge f A.R with g | g
      · exact absurd c_37 (nI_ge (a := f) (b := A.R) g (by omega))
      · omega
    refine r_sub C (lv' := [(0, .ref (G.2.1 37)), (1, .ref (G.2.1 59)), (2, .int 0), (3, .int (nI f)), (4, .int a9), (5, .int (i32 (szf (Ls A.ra A.ca A.z 10 A.ca))))]) ⟨rfl, rfl, rfl, rfl, rfl, rfl, trivial⟩ ?_
    exact lp_X6_addPart_c hfl hM hP hPl hf hE ha ht h9 (hF1.tr hY.1) (fun r hr => by
      rw [hY.2 r hr, chP, if_neg (c := r = f ∧ r < A.R) (by omega)]) CE
  · -- 40
    have e37 : f < A.R := by
      rcases Nat.lt_or_ge f A.R with g | g
      · exact g
      · exact absurd (by rw [show f = A.R by omega]; exact Int32.le_refl _) c_37
    refine r_aload_n C dX6_addPart_40 rfl rfl ?_
    refine gf_RX6_50 C dX6_addPart_41 ?_
    refine r_iload_n C dX6_addPart_44 rfl rfl ?_
    refine r_dup2 C dX6_addPart_45 rfl rfl ?_
    refine r_iald C (f) (by decide) rfl rfl (by omega) dX6_addPart_46 ?_
    refine r_topi ((hY.2 f e37).trans (by rw [if_neg (Nat.lt_irrefl f)])) ?_
    refine r_iload C dX6_addPart_47 rfl ?_
    refine r_iand C dX6_addPart_49 ?_
    refine r_topi (show _ = nI (andn (chU A.ra A.ca A.z f) E) by rw [h9]; exact zandn _ _) ?_
    refine r_iast C (f) (by decide) rfl rfl (by omega) dX6_addPart_50 ?_
    refine r_sub C (lv' := [(0, .ref (G.2.1 37)), (1, .ref (G.2.1 59)), (2, .int 0), (3, .int (nI f)), (4, .int a9), (5, .int (i32 (szf (Ls A.ra A.ca A.z 10 A.ca))))]) ⟨rfl, rfl, rfl, rfl, rfl, rfl, trivial⟩ ?_
    exact lp_X6_addPart_c hfl hM hP hPl hf hE ha ht h9 ((hF1.tr hY.1).tr (Fr.v _ rfl)) (fun r hr => by
      show (if r = f then nI (andn (chU A.ra A.ca A.z f) E) else Zv Y 51 r) = _
      by_cases g : r = f
      · rw [if_pos g, chP, if_neg (by omega), if_pos ⟨g, hr⟩, g]
      · rw [if_neg g, hY.2 r hr, chP, if_neg (c := r = f ∧ r < A.R) (by omega)]) CE
