theorem Fr.sy {P : Nat → Prop} {X Y : St} (h : Fr P X Y) : Fr P Y X := fun k hk => by
  obtain ⟨a1, a2, a3, a4⟩ := h k hk
  exact ⟨fun j => (a1 j).symm, a2.symm, a3.symm, fun j => (a4 j).symm⟩
theorem SvK_fr7 {X Y : St} {P : Nat → Prop} {ra ca : Nat} {z : Nat → Int} (h : SvK X ra ca z) (hF : Fr P X Y) (hP : ∀ k, 7 ≤ k → k < 25 → k ≠ 10 → k ≠ 11 → ¬ P k) : SvK Y ra ca z := by
  obtain ⟨⟨h1, h2, h3, h4, h5, h6⟩, h7, h8⟩ := h
  have hQ : ∀ k, 7 ≤ k → k < 25 → k ≠ 10 → k ≠ 11 → (∀ j, Zm Y k j = Zm X k j) ∧ Zv Y k = Zv X k ∧ Zu Y k = Zu X k ∧ ∀ j, Zf Y k j = Zf X k j := fun k a b c d => hF k (hP k a b c d)
  refine ⟨⟨by rw [(hQ 7 (by decide) (by decide) (by decide) (by decide)).1 2]; exact h1, fun r hr => by rw [(hQ 9 (by decide) (by decide) (by decide) (by decide)).2.1]; exact h2 r hr, fun r c hr hc => by rw [(hQ 8 (by decide) (by decide) (by decide) (by decide)).2.1]; exact h3 r c hr hc, fun r S hr hr2 hS hb => by rw [(hQ (14 + r) (by omega) (by omega) (by omega) (by omega)).2.1]; exact h4 r S hr hr2 hS hb, h5, h6⟩, by rw [(hQ 7 (by decide) (by decide) (by decide) (by decide)).1 7]; exact h7, fun r hr => by rw [(hQ 12 (by decide) (by decide) (by decide) (by decide)).2.1]; exact h8 r hr⟩
theorem AOk.lvl {A : DA} {L : List (Nat × Nat × (Nat → Int))} (h : AOk A) (hn : L.length ≤ 8) (hl : ∀ (i : Nat) (x : Nat × Nat × (Nat → Int)), L[i]? = some x → tok A.R A.C x.1 x.2.1 x.2.2) : AOk (A.lvl L) := ⟨h.R, h.C, h.t, hn, hl⟩
theorem DInv.push {X : St} {A : DA} (h : DInv X A) (hn : A.lv.length < 8) : DInv (Ym (Yv (Yv (Yv X 4 (va_cpy (Zv X 2) (Zv X 4) 0 (100 * A.lv.length) 100)) 5 (upd (Zv X 5) A.lv.length (nI A.ra))) 6 (upd (Zv X 6) A.lv.length (nI A.ca))) 3 3 (nI (A.lv.length + 1))) (A.lvl (A.lv ++ [(A.ra, A.ca, A.z)])) := by
  have hF : Fr (fun k => 3 ≤ k ∧ k ≤ 6) X (Ym (Yv (Yv (Yv X 4 (va_cpy (Zv X 2) (Zv X 4) 0 (100 * A.lv.length) 100)) 5 (upd (Zv X 5) A.lv.length (nI A.ra))) 6 (upd (Zv X 6) A.lv.length (nI A.ca))) 3 3 (nI (A.lv.length + 1))) := (((Fr.v _ ⟨by omega, by omega⟩).tr (Fr.v _ ⟨by omega, by omega⟩)).tr (Fr.v _ ⟨by omega, by omega⟩)).tr (Fr.m _ ⟨by omega, by omega⟩)
  have hlen : (A.lv ++ [(A.ra, A.ca, A.z)]).length = A.lv.length + 1 := by rw [List.length_append]; rfl
  refine ⟨h.R, h.C, TbZ_fr h.tb hF (by omega) (by omega), ?_, ?_, h.fg, (show BH _ (Zf X 25 0) A.rl from BH_fr h.rk hF (fun k h1 h2 => by rcases h.fg with h9 | h9 <;> omega)), h.w, ?_, h.ok.lvl (by omega) ?_⟩
  · show nI (A.lv.length + 1) = nI (A.lv ++ [(A.ra, A.ca, A.z)]).length
    rw [hlen]
  · intro i x hx
    have hx : (A.lv ++ [(A.ra, A.ca, A.z)])[i]? = some x := hx
    show upd (Zv X 5) A.lv.length (nI A.ra) i = _ ∧ upd (Zv X 6) A.lv.length (nI A.ca) i = _ ∧ ∀ k, k < 100 → va_cpy (Zv X 2) (Zv X 4) 0 (100 * A.lv.length) 100 (100 * i + k) = _
    unfold upd va_cpy
    rcases Nat.lt_trichotomy i A.lv.length with g | g | g
    · rw [List.getElem?_append_left g] at hx
      obtain ⟨h1, h2, h3⟩ := h.l i x hx
      rw [if_neg (by omega), if_neg (by omega)]
      exact ⟨h1, h2, fun k hk => by rw [if_neg (by omega)]; exact h3 k hk⟩
    · subst g
      rw [List.getElem?_append_right (Nat.le_refl _), Nat.sub_self, List.getElem?_cons_zero] at hx
      cases hx
      rw [if_pos rfl, if_pos rfl]
      exact ⟨rfl, rfl, fun k hk => by rw [if_pos ⟨by omega, by omega⟩, show 0 + (100 * A.lv.length + k - 100 * A.lv.length) = k by omega]; exact (h.tb.2.2.2.2 k hk).1⟩
    · rw [List.getElem?_eq_none (by omega)] at hx
      cases hx
  · rcases h.s with h9 | ⟨h8, h9⟩
    · exact Or.inl h9
    · exact Or.inr ⟨h8, SvK_fr7 h9 hF (fun k hk _ _ _ q => by omega)⟩
  · intro i x hx
    rcases Nat.lt_or_ge i A.lv.length with g | g
    · rw [List.getElem?_append_left g] at hx
      exact h.ok.l i x hx
    · rw [List.getElem?_append_right g] at hx
      have hx := List.mem_singleton.mp (List.mem_of_getElem? hx)
      rw [hx]
      exact h.ok.t
theorem DInv.pop {X : St} {A : DA} {n : Nat} {x : Nat × Nat × (Nat → Int)} (h : DInv X A) (hn : A.lv.length = n + 1) (hx : A.lv[n]? = some x) : DInv (Ym (Ym (Ym (Yv (Ym X 3 3 (nI n)) 2 (va_cpy (Zv X 4) (Zv X 2) (100 * n) 0 100)) 1 3 (Zv X 5 n)) 1 4 (Zv X 6 n)) 0 4 0) ((A.lvl (A.lv.take n)).tab A.R A.C x.1 x.2.1 x.2.2) := by
  have h8 := h.ok.n
  have hlen : (A.lv.take n).length = n := by rw [List.length_take]; omega
  obtain ⟨h1, h2, h3⟩ := h.l n x hx
  have hL : ∀ (i : Nat) (y : Nat × Nat × (Nat → Int)), (A.lv.take n)[i]? = some y → A.lv[i]? = some y := fun i y hy => by
    rw [List.getElem?_take] at hy
    by_cases g : i < n
    · rw [if_pos g] at hy; exact hy
    · rw [if_neg g] at hy; cases hy
  have hF1 : Fr (fun k => k = 3) X (Ym X 3 3 (nI n)) := Fr.m _ rfl
  have hD1 : DInv (Ym (Ym X 3 3 (nI n)) 0 4 0) (A.lvl (A.lv.take n)) := by
    refine ⟨h.R, h.C, TbZ_fr h.tb ((hF1.mono (P' := fun k => k = 3 ∨ k = 0) (fun k hk => Or.inl hk)).tr (Fr.m _ (Or.inr rfl))) (by omega) (by omega), ?_, fun i y hy => h.l i y (hL i y hy), h.fg, ?_, h.w, Or.inl rfl, h.ok.lvl (by omega) (fun i y hy => h.ok.l i y (hL i y hy))⟩
    · show nI n = nI (A.lv.take n).length
      rw [hlen]
    · show BH _ (Zf X 25 0) A.rl
      exact BH_fr h.rk ((hF1.mono (P' := fun k => k = 3 ∨ k = 0) (fun k hk => Or.inl hk)).tr (Fr.m _ (Or.inr rfl))) (fun k g1 g2 => by rcases h.fg with h9 | h9 <;> omega)
  have hok : AOk ((A.lvl (A.lv.take n)).tab A.R A.C x.1 x.2.1 x.2.2) := ⟨h.ok.R, h.ok.C, h.ok.l n x hx, by show (A.lv.take n).length ≤ 8; omega, fun i y hy => h.ok.l i y (hL i y hy)⟩
  have hG : Fr (fun k => k ≤ 2) (Ym (Ym X 3 3 (nI n)) 0 4 0) (Ym (Ym (Ym (Yv (Ym X 3 3 (nI n)) 2 (va_cpy (Zv X 4) (Zv X 2) (100 * n) 0 100)) 1 3 (Zv X 5 n)) 1 4 (Zv X 6 n)) 0 4 0) :=
    (((((Fr.m (X := Ym X 3 3 (nI n)) (P := fun k => k ≤ 2) (k := 0) (j := 4) 0 (show 0 ≤ 2 by decide)).sy).tr (Fr.v (P := fun k => k ≤ 2) (k := 2) (va_cpy (Zv X 4) (Zv X 2) (100 * n) 0 100) (show 2 ≤ 2 by decide))).tr (Fr.m (P := fun k => k ≤ 2) (k := 1) (j := 3) (Zv X 5 n) (show 1 ≤ 2 by decide))).tr (Fr.m (P := fun k => k ≤ 2) (k := 1) (j := 4) (Zv X 6 n) (show 1 ≤ 2 by decide))).tr (Fr.m (P := fun k => k ≤ 2) (k := 0) (j := 4) 0 (show 0 ≤ 2 by decide))
  exact hD1.tab hG h.R h.C h1 h2 (fun k hk => by
    show va_cpy (Zv X 4) (Zv X 2) (100 * n) 0 100 k = _
    unfold va_cpy
    rw [if_pos ⟨by omega, by omega⟩, show 100 * n + (k - 0) = 100 * n + k by omega]
    exact h3 k hk) rfl hok
set_option maxHeartbeats 4000000 in
set_option maxRecDepth 100000 in
/-- X5_push  -/
theorem con_X5_push (l : Launch) (hfl : l.stackTraces = false) {A : DA} (X : St) (hD : DInv X A) : Con l yX5_push cX5_push 1 (some (FieldType.int)) 7 110 1 (fun G => [.ref (G.2.1 0)]) X (kI (fun r9 X' => A.lv.length < 8 ∧ r9 = nI (A.lv.length + 1) ∧ DInv X' (A.lvl (A.lv ++ [(A.ra, A.ca, A.z)])) ∧ Fr Dp X X')) (fun E X' => E = "java/lang/IllegalStateException" ∧ X = X' ∧ A.lv.length = 8) := by
  refine con_of (lv := fun G => [(0, .ref (G.2.1 0))]) hfl (by decide +kernel) (fun _ => rfl) (fun _ => Nat.le_of_ble_eq_true rfl) ?_
  intro G J JX CE
  have C := CE.b
  have h8 := hD.ok.n
  refine r_aload_n C dX5_push_0 rfl rfl ?_
  refine gf_RX5_19 C dX5_push_1 ?_
  refine gf_RX5_203 C dX5_push_4 ?_
  refine r_topi hD.n ?_
  refine r_bipush (v := 8) C dX5_push_7 (by decide) ?_
  refine r_icmp_lt (tgt := 22) C dX5_push_9 (by decide) (fun c_9 => ?_) (fun c_9 => ?_)
  · -- 22
    have hn : A.lv.length < 8 := (nI_ltI (b := 8) (by omega) (by decide)).mp c_9
    refine r_aload_n C dX5_push_22 rfl rfl ?_
    refine gf_RX5_19 C dX5_push_23 ?_
    refine r_aload_n C dX5_push_26 rfl rfl ?_
    refine gf_RX5_12 C dX5_push_27 ?_
    refine cl_RX5_206 C (con_X1_store l hfl _ hD.n hn hD.tb.1 hD.tb.2.1) dX5_push_30 rfl ⟨Nat.le_of_ble_eq_true rfl, Nat.le_of_ble_eq_true rfl⟩ (by omega) (Nat.le_of_ble_eq_true rfl) (fun X_30 h_30 => ?_)
    subst h_30
    refine r_aload_n C dX5_push_33 rfl rfl ?_
    refine gf_RX5_19 C dX5_push_34 ?_
    refine gf_RX5_203 C dX5_push_37 ?_
    refine r_topi (show _ = nI (A.lv.length + 1) from rfl) ?_
    exact r_iret CE rfl rfl dX5_push_40 (Nat.le_of_ble_eq_true rfl) ⟨_, rfl, hn, rfl, hD.push hn, (((Fr.v _ (by decide)).tr (Fr.v _ (by decide))).tr (Fr.v _ (by decide))).tr (Fr.m _ (by decide))⟩
  · -- 12
    have hn : A.lv.length = 8 := by
      have h9 : ¬ A.lv.length < 8 := fun q => c_9 ((nI_ltI (b := 8) (by omega) (by decide)).mpr q)
      omega
    exact r_throw CE rfl (by decide +kernel) (by decide +kernel) ck_RX5_41 ik_Qjava_lang_IllegalStateException sk_RX5_204 (xa_45) dX5_push_12 dX5_push_15 dX5_push_16 dX5_push_18 dX5_push_21 (by decide) (Nat.le_of_ble_eq_true rfl) (Nat.le_of_ble_eq_true rfl) ⟨rfl, rfl, hn⟩
set_option maxHeartbeats 4000000 in
set_option maxRecDepth 100000 in
/-- X5_pop  -/
theorem con_X5_pop (l : Launch) (hfl : l.stackTraces = false) {A : DA} (X : St) (hD : DInv X A) : Con l yX5_pop cX5_pop 1 (some (FieldType.int)) 7 110 1 (fun G => [.ref (G.2.1 0)]) X (kI (fun r9 X' => ∃ (n : Nat) (x : Nat × Nat × (Nat → Int)), A.lv.length = n + 1 ∧ A.lv[n]? = some x ∧ r9 = nI n ∧ DInv X' ((A.lvl (A.lv.take n)).tab A.R A.C x.1 x.2.1 x.2.2) ∧ Fr Dp X X')) (fun E X' => E = "java/lang/IllegalStateException" ∧ X = X' ∧ A.lv.length = 0) := by
  refine con_of (lv := fun G => [(0, .ref (G.2.1 0))]) hfl (by decide +kernel) (fun _ => rfl) (fun _ => Nat.le_of_ble_eq_true rfl) ?_
  intro G J JX CE
  have C := CE.b
  have h8 := hD.ok.n
  refine r_aload_n C dX5_pop_0 rfl rfl ?_
  refine gf_RX5_19 C dX5_pop_1 ?_
  refine gf_RX5_203 C dX5_pop_4 ?_
  refine r_topi hD.n ?_
  refine r_if_gt (tgt := 20) C dX5_pop_7 (by decide) (fun c_7 => ?_) (fun c_7 => ?_)
  · -- 20
    have hn : 0 < A.lv.length := Nat.pos_of_ne_zero (fun q => by rw [q] at c_7; exact absurd c_7 (by decide))
    obtain ⟨n, hn1⟩ : ∃ n, A.lv.length = n + 1 := ⟨A.lv.length - 1, by omega⟩
    obtain ⟨x, hx⟩ : ∃ x, A.lv[n]? = some x := ⟨A.lv[n]'(by omega), List.getElem?_eq_getElem (by omega)⟩
    refine r_aload_n C dX5_pop_20 rfl rfl ?_
    refine gf_RX5_19 C dX5_pop_21 ?_
    refine r_aload_n C dX5_pop_24 rfl rfl ?_
    refine gf_RX5_12 C dX5_pop_25 ?_
    refine cl_RX5_212 C (con_X1_restore l hfl _ (n := n) (by rw [hD.n, hn1]) (by omega)) dX5_pop_28 rfl ⟨Nat.le_of_ble_eq_true rfl, Nat.le_of_ble_eq_true rfl⟩ (by omega) (Nat.le_of_ble_eq_true rfl) (fun X_28 h_28 => ?_)
    subst h_28
    refine r_aload_n C dX5_pop_31 rfl rfl ?_
    refine r_iconst (v := 0) C dX5_pop_32 (by decide) ?_
    refine pf_RX5_48 C rfl rfl dX5_pop_33 ?_
    refine r_aload_n C dX5_pop_36 rfl rfl ?_
    refine gf_RX5_19 C dX5_pop_37 ?_
    refine gf_RX5_203 C dX5_pop_40 ?_
    refine r_topi (show _ = nI n from rfl) ?_
    exact r_iret CE rfl rfl dX5_pop_43 (Nat.le_of_ble_eq_true rfl) ⟨_, rfl, n, x, hn1, hx, rfl, hD.pop hn1 hx, ((((Fr.m _ (by decide)).tr (Fr.v _ (by decide))).tr (Fr.m _ (by decide))).tr (Fr.m _ (by decide))).tr (Fr.m _ (by decide))⟩
  · -- 10
    have hn : A.lv.length = 0 := by
      rcases Nat.eq_zero_or_pos A.lv.length with h9 | h9
      · exact h9
      · exact absurd ((nI_ltI (a := 0) (by decide) (by omega)).mpr h9) c_7
    exact r_throw CE rfl (by decide +kernel) (by decide +kernel) ck_RX5_41 ik_Qjava_lang_IllegalStateException sk_RX5_210 (xa_45) dX5_pop_10 dX5_pop_13 dX5_pop_14 dX5_pop_16 dX5_pop_19 (by decide) (Nat.le_of_ble_eq_true rfl) (Nat.le_of_ble_eq_true rfl) ⟨rfl, rfl, hn⟩
