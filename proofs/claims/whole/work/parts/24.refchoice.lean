/-- a row's choices: its usable columns, and none -/
def chU (ra ca : Nat) (z : Nat → Int) (r : Nat) : Nat := 1024 ||| us ra ca z r
def uP (ra ca : Nat) (z : Nat → Int) (r c : Nat) : Bool := al z (10 * r + c) && (ra.testBit r && ca.testBit c)
theorem us_uP (ra ca : Nat) (z : Nat → Int) (r : Nat) : us ra ca z r = mk (uP ra ca z r) 10 := by
  unfold us
  refine mk_cong 10 (fun c _ => ?_)
  unfold uP al
  by_cases e : z (10 * r + c) = 20000
  · simp [e]
  · simp [e]
theorem mk_ext {p : Nat → Bool} {C : Nat} (h : ∀ c, C ≤ c → p c = false) : ∀ n, C ≤ n → mk p n = mk p C
  | 0, h2 => by rw [show C = 0 by omega]
  | n + 1, h2 => by
    rcases Nat.lt_or_ge n C with g | g
    · rw [show C = n + 1 by omega]
    · rw [mk, h n g, if_neg (by decide), mk_ext h n g]
theorem chU_bit {ra ca r c : Nat} {z : Nat → Int} (hc : c < 10) : (chU ra ca z r).testBit c = (us ra ca z r).testBit c := by
  unfold chU
  rw [Nat.testBit_or, show (1024 : Nat) = 2 ^ 10 by decide, Nat.testBit_two_pow, decide_eq_false (by omega), Bool.false_or]
theorem chU_10 (ra ca : Nat) (z : Nat → Int) (r : Nat) : (chU ra ca z r).testBit 10 = true := by
  unfold chU
  rw [Nat.testBit_or, show (1024 : Nat) = 2 ^ 10 by decide, Nat.testBit_two_pow, decide_eq_true rfl, Bool.true_or]
theorem chU_lt (ra ca : Nat) (z : Nat → Int) (r : Nat) : chU ra ca z r < 2048 := Nat.or_lt_two_pow (n := 11) (by decide) (Nat.lt_trans (us_lt ra ca z r) (by decide))
/-- the choices that the usable pairs leave are as fill wants them -/
theorem chk_us {X Y : St} {A : DA} (h : MInv X A) (hF : Fr (fun k => k = 37 ∨ 42 ≤ k) X Y) {f : Nat → Nat} (hf : ∀ r, r < A.R → Zv Y 51 r = nI (f r)) (hs : ∀ r, r < A.R → f r < 2048 ∧ ∀ c, c < 10 → (f r).testBit c = true → (us A.ra A.ca A.z r).testBit c = true) : chk Y f (sc A.z) A.R A.C := fun r hr => by
  refine ⟨hf r hr, (hs r hr).1, fun c hc hb => ?_⟩
  have h1 := (hs r hr).2 c hc hb
  have hR := h.ok.R
  rw [us_bit hc, Bool.and_eq_true, Bool.and_eq_true, decide_eq_true_eq] at h1
  have hz := h.ok.t.2.2.1 (10 * r + c) (by omega)
  have hlc : c < A.C := Nat.lt_of_not_le (fun q => by rw [bt_out h.ok.t.2.1 q] at h1; exact absurd h1.2.1 (by decide))
  refine ⟨hlc, A.z (10 * r + c), rfl, ?_, ?_⟩
  · exact hz
  · rw [(hF 41 (by omega)).2.1]
    exact h.b.2.2.2.2.2 _ (by omega) (al_i.mpr h1.2.2)
theorem MInv.fr {X Y : St} {P : Nat → Prop} {A : DA} (h : MInv X A) (hF : Fr P X Y) (hP : ∀ k, 37 ≤ k → k ≤ 54 → P k → 48 ≤ k ∧ k ≤ 52) : MInv Y A := by
  have hQ : ∀ k, 37 ≤ k → k ≤ 54 → k < 48 ∨ 52 < k → (∀ j, Zm Y k j = Zm X k j) ∧ Zv Y k = Zv X k := fun k a b c => by
    obtain ⟨h1, h2, _⟩ := hF k (fun q => by have := hP k a b q; omega)
    exact ⟨h1, h2⟩
  obtain ⟨⟨b1, b2, b3, b4, b5, b6⟩, h7, hl, ⟨r1, r2, r3⟩, hok⟩ := h
  have q37 := (hQ 37 (by decide) (by decide) (by decide)).1
  refine ⟨⟨by rw [q37]; exact b1, by rw [q37]; exact b2, ?_, ?_, ?_, ?_⟩, by rw [q37]; exact h7, fun i x hx => ?_, ⟨by rw [q37]; exact r1, r2, fun i e he => ?_⟩, hok⟩
  · rw [(hQ 38 (by decide) (by decide) (by decide)).2]; exact b3
  · rw [(hQ 39 (by decide) (by decide) (by decide)).2]; exact b4
  · rw [(hQ 40 (by decide) (by decide) (by decide)).2]; exact b5
  · rw [(hQ 41 (by decide) (by decide) (by decide)).2]; exact b6
  · rw [(hQ 42 (by decide) (by decide) (by decide)).2, (hQ 43 (by decide) (by decide) (by decide)).2, (hQ 44 (by decide) (by decide) (by decide)).2, (hQ 45 (by decide) (by decide) (by decide)).2, (hQ 46 (by decide) (by decide) (by decide)).2, (hQ 47 (by decide) (by decide) (by decide)).2]
    exact hl i x hx
  · rw [(hQ 53 (by decide) (by decide) (by decide)).2, (hQ 54 (by decide) (by decide) (by decide)).2]
    exact r3 i e he
theorem uP_out {X : St} {A : DA} (h : MInv X A) {r c : Nat} (hr : r < A.R) (hc : A.C ≤ c) : uP A.ra A.ca A.z r c = false := by
  unfold uP
  rw [bt_out h.ok.t.2.1 hc, Bool.and_false, Bool.and_false]
theorem us_uPC {X : St} {A : DA} (h : MInv X A) {r : Nat} (hr : r < A.R) : us A.ra A.ca A.z r = mk (uP A.ra A.ca A.z r) A.C := by
  rw [us_uP]
  exact mk_ext (fun c hc => uP_out h hr hc) 10 h.ok.C
set_option maxHeartbeats 4000000 in
set_option maxRecDepth 100000 in
theorem lp_X6_setChoices2 {l : Launch} {G : Geo} {J : JT} {JX : JXT} {X : St} (hfl : l.stackTraces = false) {A : DA} (hM : MInv X A) {n : Nat} (hn : n < A.R) (CE : Cl l RX6 cX6_setChoices 3 none [] G 1 30 0 (kV (fun X' => (∀ r, r < A.R → Zv X' 51 r = nI (chU A.ra A.ca A.z r)) ∧ Fr (fun k => k = 51) X X')) kF J JX) :
    (∀ Y, (∀ r, r < n + 1 → Zv Y 51 r = nI (chU A.ra A.ca A.z r)) → Fr (fun k => k = 51) X Y → J Y 0 60 [(2, .int (nI A.C)), (1, .int (nI n)), (0, .ref (G.2.1 37))] []) → ∀ q c (Y : St), c + q = A.C → (∀ r, r < n → Zv Y 51 r = nI (chU A.ra A.ca A.z r)) → Zv Y 51 n = nI (1024 ||| mk (uP A.ra A.ca A.z n) c) → Fr (fun k => k = 51) X Y → J Y 0 21 [(2, .int (nI c)), (1, .int (nI n)), (0, .ref (G.2.1 37))] [] := by
  have C := CE.b
  intro hkk
  intro q
  induction q with
  | zero =>
    intro c Y h h1 h2 hF
    have hc : c = A.C := by omega
    subst hc
    refine r_iload_n C dX6_setChoices_21 rfl rfl ?_
    refine r_aload_n C dX6_setChoices_22 rfl rfl ?_
    refine gf_RX6_84 C dX6_setChoices_23 ?_
    refine r_topi (show _ = nI A.C by rw [(hF 37 (by decide)).1 2]; exact hM.b.2.1) ?_
    refine r_icmp_ge (tgt := 60) C dX6_setChoices_26 (by decide) (fun c_26 => ?_) (fun c_26 => absurd ((Int32.le_refl _)) c_26)
    refine hkk Y (fun r hr => ?_) hF
    by_cases e : r = n
    · rw [e, h2, ← us_uPC hM hn]; rfl
    · exact h1 r (by omega)
  | succ q ih =>
    intro c Y h h1 h2 hF
    have hlt : c < A.C := by omega
    have hC10 := hM.ok.C
    have hR10 := hM.ok.R
    have hM2 : MInv Y A := hM.fr hF (fun k _ _ q => by omega)
    refine r_iload_n C dX6_setChoices_21 rfl rfl ?_
    refine r_aload_n C dX6_setChoices_22 rfl rfl ?_
    refine gf_RX6_84 C dX6_setChoices_23 ?_
    refine r_topi (show _ = nI A.C by rw [(hF 37 (by decide)).1 2]; exact hM.b.2.1) ?_
    refine r_icmp_ge (tgt := 60) C dX6_setChoices_26 (by decide) (fun c_26 => absurd c_26 ((nI_ge (a := c) (b := A.C) hlt (by omega)))) (fun c_26 => ?_)
    refine r_aload_n C dX6_setChoices_29 rfl rfl ?_
    refine gf_RX6_50 C dX6_setChoices_30 ?_
    refine r_iload_n C dX6_setChoices_33 rfl rfl ?_
    refine r_dup2 C dX6_setChoices_34 rfl rfl ?_
    refine r_iald C (n) (by decide) rfl rfl (by omega) dX6_setChoices_35 ?_
    refine r_topi h2 ?_
    refine r_aload_n C dX6_setChoices_36 rfl rfl ?_
    refine r_iload_n C dX6_setChoices_37 rfl rfl ?_
    refine r_iload_n C dX6_setChoices_38 rfl rfl ?_
    refine cl_RX6_123 C (con_X6_isUsable l hfl _ hM2 (r := n) (c := c) (by omega) (by omega)) dX6_setChoices_39 rfl ⟨Nat.le_of_ble_eq_true rfl, Nat.le_of_ble_eq_true rfl⟩ (by omega) (Nat.le_of_ble_eq_true rfl) (fun r_39 X_39 h_39 => ?_)
    obtain ⟨rfl, rfl⟩ := h_39
    refine r_if_eq (tgt := 51) C dX6_setChoices_42 (by decide) (fun c_42 => ?_) (fun c_42 => ?_)
    · -- 51
      have e : mk (uP A.ra A.ca A.z n) (c + 1) = mk (uP A.ra A.ca A.z n) c := by rw [mk, show uP A.ra A.ca A.z n c = false from bI_0 c_42, if_neg (by decide)]
      refine r_iconst (v := 0) C dX6_setChoices_51 (by decide) ?_
      refine r_ior C dX6_setChoices_52 ?_
      refine r_topi (show _ = nI (1024 ||| mk (uP A.ra A.ca A.z n) (c + 1)) by first | (rw [e]; exact Int32.or_zero) | (rw [e, zor]; unfold sb; rw [Nat.or_assoc])) ?_
      refine r_iast C (n) (by decide) rfl rfl (by omega) dX6_setChoices_53 ?_
      refine r_iinc (v := _) C dX6_setChoices_54 rfl (nI_1 c) ?_
      refine r_goto (tgt := 21) C dX6_setChoices_57 (by decide) ?_
      refine r_sub C (lv' := [(2, .int (nI (c + 1))), (1, .int (nI n)), (0, .ref (G.2.1 37))]) ⟨rfl, rfl, rfl, trivial⟩ ?_
      exact ih (c + 1) _ (by omega) (fun r hr => (if_neg (by omega)).trans (h1 r hr)) (if_pos rfl) (hF.tr (Fr.v _ rfl))
    · -- 45
      have e : mk (uP A.ra A.ca A.z n) (c + 1) = sb (mk (uP A.ra A.ca A.z n) c) c := by rw [mk, show uP A.ra A.ca A.z n c = true from bI_1 c_42, if_pos rfl]
      refine r_iconst (v := 1) C dX6_setChoices_45 (by decide) ?_
      refine r_iload_n C dX6_setChoices_46 rfl rfl ?_
      refine r_ishl C dX6_setChoices_47 ?_
      refine r_topi (one_shl c (by omega)) ?_
      refine r_goto (tgt := 52) C dX6_setChoices_48 (by decide) ?_
      refine r_ior C dX6_setChoices_52 ?_
      refine r_topi (show _ = nI (1024 ||| mk (uP A.ra A.ca A.z n) (c + 1)) by first | (rw [e]; exact Int32.or_zero) | (rw [e, zor]; unfold sb; rw [Nat.or_assoc])) ?_
      refine r_iast C (n) (by decide) rfl rfl (by omega) dX6_setChoices_53 ?_
      refine r_iinc (v := _) C dX6_setChoices_54 rfl (nI_1 c) ?_
      refine r_goto (tgt := 21) C dX6_setChoices_57 (by decide) ?_
      refine r_sub C (lv' := [(2, .int (nI (c + 1))), (1, .int (nI n)), (0, .ref (G.2.1 37))]) ⟨rfl, rfl, rfl, trivial⟩ ?_
      exact ih (c + 1) _ (by omega) (fun r hr => (if_neg (by omega)).trans (h1 r hr)) (if_pos rfl) (hF.tr (Fr.v _ rfl))

set_option maxHeartbeats 4000000 in
set_option maxRecDepth 100000 in
theorem lp_X6_setChoices1 {l : Launch} {G : Geo} {J : JT} {JX : JXT} {X : St} (hfl : l.stackTraces = false) {A : DA} (hM : MInv X A) (CE : Cl l RX6 cX6_setChoices 3 none [] G 1 30 0 (kV (fun X' => (∀ r, r < A.R → Zv X' 51 r = nI (chU A.ra A.ca A.z r)) ∧ Fr (fun k => k = 51) X X')) kF J JX) :
    ∀ q n (Y : St), n + q = A.R → (∀ r, r < n → Zv Y 51 r = nI (chU A.ra A.ca A.z r)) → Fr (fun k => k = 51) X Y → J Y 0 2 [(1, .int (nI n)), (0, .ref (G.2.1 37))] [] := by
  have C := CE.b
  intro q
  induction q with
  | zero =>
    intro n Y h h1 hF
    have hn : n = A.R := by omega
    subst hn
    refine r_iload_n C dX6_setChoices_2 rfl rfl ?_
    refine r_aload_n C dX6_setChoices_3 rfl rfl ?_
    refine gf_RX6_81 C dX6_setChoices_4 ?_
    refine r_topi (show _ = nI A.R by rw [(hF 37 (by decide)).1 1]; exact hM.b.1) ?_
    refine r_icmp_ge (tgt := 66) C dX6_setChoices_7 (by decide) (fun c_7 => ?_) (fun c_7 => absurd ((Int32.le_refl _)) c_7)
    exact r_vret CE rfl dX6_setChoices_66 (Nat.le_of_ble_eq_true rfl) ⟨rfl, h1, hF⟩
  | succ q ih =>
    intro n Y h h1 hF
    have hlt : n < A.R := by omega
    have hC10 := hM.ok.C
    have hR10 := hM.ok.R
    refine r_iload_n C dX6_setChoices_2 rfl rfl ?_
    refine r_aload_n C dX6_setChoices_3 rfl rfl ?_
    refine gf_RX6_81 C dX6_setChoices_4 ?_
    refine r_topi (show _ = nI A.R by rw [(hF 37 (by decide)).1 1]; exact hM.b.1) ?_
    refine r_icmp_ge (tgt := 66) C dX6_setChoices_7 (by decide) (fun c_7 => absurd c_7 ((nI_ge (a := n) (b := A.R) hlt (by omega)))) (fun c_7 => ?_)
    refine r_aload_n C dX6_setChoices_10 rfl rfl ?_
    refine gf_RX6_50 C dX6_setChoices_11 ?_
    refine r_iload_n C dX6_setChoices_14 rfl rfl ?_
    refine r_sipush (v := 1024) C dX6_setChoices_15 (by decide) ?_
    refine r_iast C (n) (by decide) rfl rfl (by omega) dX6_setChoices_18 ?_
    refine r_iconst (v := 0) C dX6_setChoices_19 (by decide) ?_
    refine r_istore_n C dX6_setChoices_20 rfl (by decide) ?_
    refine r_sub C (lv' := [(2, .int (nI 0)), (1, .int (nI n)), (0, .ref (G.2.1 37))]) ⟨rfl, rfl, rfl, trivial⟩ ?_
    refine lp_X6_setChoices2 hfl hM hlt CE ?_ A.C 0 _ (by omega) (fun r hr => (if_neg (by omega)).trans (h1 r hr)) ((if_pos rfl).trans (show (1024 : Int32) = nI (1024 ||| 0) by decide)) (hF.tr (Fr.v _ rfl))
    intro Y h1 hF
    refine r_iinc (v := _) C dX6_setChoices_60 rfl (nI_1 n) ?_
    refine r_goto (tgt := 2) C dX6_setChoices_63 (by decide) ?_
    refine r_sub C (lv' := [(1, .int (nI (n + 1))), (0, .ref (G.2.1 37))]) ⟨rfl, rfl, trivial⟩ ?_
    exact ih (n + 1) Y (by omega) h1 hF

set_option maxHeartbeats 4000000 in
set_option maxRecDepth 100000 in
/-- X6_setChoices  -/
theorem con_X6_setChoices (l : Launch) (hfl : l.stackTraces = false) {A : DA} (X : St) (hM : MInv X A) : Con l yX6_setChoices cX6_setChoices 3 none 1 30 0 (fun G => [.ref (G.2.1 37)]) X (kV (fun X' => (∀ r, r < A.R → Zv X' 51 r = nI (chU A.ra A.ca A.z r)) ∧ Fr (fun k => k = 51) X X')) kF := by
  refine con_of (lv := fun G => [(0, .ref (G.2.1 37))]) hfl (by decide +kernel) (fun _ => rfl) (fun _ => Nat.le_of_ble_eq_true rfl) ?_
  intro G J JX CE
  have C := CE.b
  refine r_iconst (v := 0) C dX6_setChoices_0 (by decide) ?_
  refine r_istore_n C dX6_setChoices_1 rfl (by decide) ?_
  refine r_sub C (lv' := [(1, .int (nI 0)), (0, .ref (G.2.1 37))]) ⟨rfl, rfl, trivial⟩ ?_
  exact lp_X6_setChoices1 hfl hM CE A.R 0 X (by omega) (fun r hr => absurd hr (Nat.not_lt_zero r)) Fr.rf
