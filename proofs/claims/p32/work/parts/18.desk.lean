/-! ===== the desk ===== -/
/-- what a desk holds: rows, columns, the active ones, the cells, the levels, the list -/
abbrev DA : Type := Nat × Nat × Nat × Nat × (Nat → Int) × List (Nat × Nat × (Nat → Int)) × List BE
def DA.R (A : DA) : Nat := A.1
def DA.C (A : DA) : Nat := A.2.1
def DA.ra (A : DA) : Nat := A.2.2.1
def DA.ca (A : DA) : Nat := A.2.2.2.1
def DA.z (A : DA) : Nat → Int := A.2.2.2.2.1
def DA.lv (A : DA) : List (Nat × Nat × (Nat → Int)) := A.2.2.2.2.2.1
def DA.rl (A : DA) : List BE := A.2.2.2.2.2.2
def DA.tab (A : DA) (R C ra ca : Nat) (z : Nat → Int) : DA := (R, C, ra, ca, z, A.lv, A.rl)
def DA.lvl (A : DA) (lv : List (Nat × Nat × (Nat → Int))) : DA := (A.R, A.C, A.ra, A.ca, A.z, lv, A.rl)
def DA.lis (A : DA) (rl : List BE) : DA := (A.R, A.C, A.ra, A.ca, A.z, A.lv, rl)
def tok (R C a b : Nat) (z : Nat → Int) : Prop := a < 2 ^ R ∧ b < 2 ^ C ∧ (∀ k, k < 100 → zok (z k)) ∧ ∀ k, k < 100 → (R ≤ k / 10 ∨ C ≤ k % 10) → z k = 20000
def AOk (A : DA) : Prop := A.R ≤ 10 ∧ A.C ≤ 10 ∧ tok A.R A.C A.ra A.ca A.z ∧ A.lv.length ≤ 8 ∧ ∀ (i : Nat) (x : Nat × Nat × (Nat → Int)), A.lv[i]? = some x → tok A.R A.C x.1 x.2.1 x.2.2
theorem AOk.R {A : DA} (h : AOk A) : A.R ≤ 10 := h.1
theorem AOk.C {A : DA} (h : AOk A) : A.C ≤ 10 := h.2.1
theorem AOk.t {A : DA} (h : AOk A) : tok A.R A.C A.ra A.ca A.z := h.2.2.1
theorem AOk.n {A : DA} (h : AOk A) : A.lv.length ≤ 8 := h.2.2.2.1
theorem AOk.l {A : DA} (h : AOk A) : ∀ (i : Nat) (x : Nat × Nat × (Nat → Int)), A.lv[i]? = some x → tok A.R A.C x.1 x.2.1 x.2.2 := h.2.2.2.2
def LvH (X : St) (L : List (Nat × Nat × (Nat → Int))) : Prop := ∀ (i : Nat) (x : Nat × Nat × (Nat → Int)), L[i]? = some x → Zv X 5 i = nI x.1 ∧ Zv X 6 i = nI x.2.1 ∧ ∀ k, k < 100 → Zv X 4 (100 * i + k) = i32 (x.2.2 k)
def DInv (X : St) (A : DA) : Prop := Zm X 1 1 = nI A.R ∧ Zm X 1 2 = nI A.C ∧ TbZ X A.ra A.ca A.z ∧ Zm X 3 3 = nI A.lv.length ∧ LvH X A.lv ∧ fgo (Zf X 25 0) (Zf X 25 1) ∧ BH X (Zf X 25 0) A.rl ∧ (∀ S, S < 1024 → Zv X 24 S = 0) ∧ (Zm X 0 4 = 0 ∨ (Zm X 0 4 = 1 ∧ SvK X A.ra A.ca A.z)) ∧ AOk A
theorem DInv.R {X : St} {A : DA} (h : DInv X A) : Zm X 1 1 = nI A.R := h.1
theorem DInv.C {X : St} {A : DA} (h : DInv X A) : Zm X 1 2 = nI A.C := h.2.1
theorem DInv.tb {X : St} {A : DA} (h : DInv X A) : TbZ X A.ra A.ca A.z := h.2.2.1
theorem DInv.n {X : St} {A : DA} (h : DInv X A) : Zm X 3 3 = nI A.lv.length := h.2.2.2.1
theorem DInv.l {X : St} {A : DA} (h : DInv X A) : LvH X A.lv := h.2.2.2.2.1
theorem DInv.fg {X : St} {A : DA} (h : DInv X A) : fgo (Zf X 25 0) (Zf X 25 1) := h.2.2.2.2.2.1
theorem DInv.rk {X : St} {A : DA} (h : DInv X A) : BH X (Zf X 25 0) A.rl := h.2.2.2.2.2.2.1
theorem DInv.w {X : St} {A : DA} (h : DInv X A) : ∀ S, S < 1024 → Zv X 24 S = 0 := h.2.2.2.2.2.2.2.1
theorem DInv.s {X : St} {A : DA} (h : DInv X A) : Zm X 0 4 = 0 ∨ (Zm X 0 4 = 1 ∧ SvK X A.ra A.ca A.z) := h.2.2.2.2.2.2.2.2.1
theorem DInv.ok {X : St} {A : DA} (h : DInv X A) : AOk A := h.2.2.2.2.2.2.2.2.2
abbrev Dp (k : Nat) : Prop := k < 36
theorem tok.mono {R C R' C' a b : Nat} {z : Nat → Int} (h : tok R C a b z) (hR : R ≤ R') (hC : C ≤ C') : tok R' C' a b z := ⟨Nat.lt_of_lt_of_le h.1 (Nat.pow_le_pow_right (by decide) hR), Nat.lt_of_lt_of_le h.2.1 (Nat.pow_le_pow_right (by decide) hC), h.2.2.1, fun k hk q => h.2.2.2 k hk (by omega)⟩
theorem tok.a {R C a b : Nat} {z : Nat → Int} (h : tok R C a b z) (hR : R ≤ 10) : a < 1024 := Nat.lt_of_lt_of_le h.1 (Nat.pow_le_pow_right (by decide) hR)
theorem tok.b {R C a b : Nat} {z : Nat → Int} (h : tok R C a b z) (hC : C ≤ 10) : b < 1024 := Nat.lt_of_lt_of_le h.2.1 (Nat.pow_le_pow_right (by decide) hC)
theorem SvK_fr {X Y : St} {P : Nat → Prop} {ra ca : Nat} {z : Nat → Int} (h : SvK X ra ca z) (hF : Fr P X Y) (hP : ∀ k, k < 25 → k ≠ 10 → k ≠ 11 → ¬ P k) : SvK Y ra ca z := by
  obtain ⟨⟨h1, h2, h3, h4, h5, h6⟩, h7, h8⟩ := h
  refine ⟨⟨by rw [(hF 7 (hP 7 (by decide) (by decide) (by decide))).1 2]; exact h1, fun r hr => by rw [(hF 9 (hP 9 (by decide) (by decide) (by decide))).2.1]; exact h2 r hr, fun r c hr hc => by rw [(hF 8 (hP 8 (by decide) (by decide) (by decide))).2.1]; exact h3 r c hr hc, fun r S hr hr2 hS hb => by rw [(hF (14 + r) (hP _ (by omega) (by omega) (by omega))).2.1]; exact h4 r S hr hr2 hS hb, h5, h6⟩, by rw [(hF 7 (hP 7 (by decide) (by decide) (by decide))).1 7]; exact h7, fun r hr => by rw [(hF 12 (hP 12 (by decide) (by decide) (by decide))).2.1]; exact h8 r hr⟩
theorem TbZ_fr {X Y : St} {P : Nat → Prop} {ra ca : Nat} {z : Nat → Int} (h : TbZ X ra ca z) (hF : Fr P X Y) (h1 : ¬ P 1) (h2 : ¬ P 2) : TbZ Y ra ca z := ⟨by rw [(hF 1 h1).1 3]; exact h.1, by rw [(hF 1 h1).1 4]; exact h.2.1, h.2.2.1, h.2.2.2.1, fun k hk => by rw [(hF 2 h2).2.1]; exact h.2.2.2.2 k hk⟩
theorem DInv.fr {X Y : St} {P : Nat → Prop} {A : DA} (h : DInv X A) (hF : Fr P X Y) (hP : ∀ k, k < 36 → k ≠ 10 → k ≠ 11 → ¬ P k) : DInv Y A := by
  have hQ : ∀ k, k < 36 → k ≠ 10 → k ≠ 11 → (∀ j, Zm Y k j = Zm X k j) ∧ Zv Y k = Zv X k ∧ Zu Y k = Zu X k ∧ ∀ j, Zf Y k j = Zf X k j := fun k a b c => hF k (hP k a b c)
  refine ⟨?_, ?_, TbZ_fr h.tb hF (hP 1 (by decide) (by decide) (by decide)) (hP 2 (by decide) (by decide) (by decide)), ?_, ?_, ?_, ?_, ?_, ?_, h.ok⟩
  · rw [(hQ 1 (by decide) (by decide) (by decide)).1 1]; exact h.R
  · rw [(hQ 1 (by decide) (by decide) (by decide)).1 2]; exact h.C
  · rw [(hQ 3 (by decide) (by decide) (by decide)).1 3]; exact h.n
  · intro i x hx
    rw [(hQ 4 (by decide) (by decide) (by decide)).2.1, (hQ 5 (by decide) (by decide) (by decide)).2.1, (hQ 6 (by decide) (by decide) (by decide)).2.1]
    exact h.l i x hx
  · rw [(hQ 25 (by decide) (by decide) (by decide)).2.2.2 0, (hQ 25 (by decide) (by decide) (by decide)).2.2.2 1]; exact h.fg
  · rw [(hQ 25 (by decide) (by decide) (by decide)).2.2.2 0]
    exact BH_fr h.rk hF (fun k h1 h2 => hP k (by rcases h.fg with h9 | h9 <;> omega) (by rcases h.fg with h9 | h9 <;> omega) (by rcases h.fg with h9 | h9 <;> omega))
  · intro S hS
    rw [(hQ 24 (by decide) (by decide) (by decide)).2.1]; exact h.w S hS
  · rw [(hQ 0 (by decide) (by decide) (by decide)).1 4]
    rcases h.s with h9 | ⟨h8, h9⟩
    · exact Or.inl h9
    · exact Or.inr ⟨h8, SvK_fr h9 hF (fun k hk => hP k (by omega))⟩
/-- the table has changed -/
theorem DInv.tab {X Y : St} {A : DA} {R C a b : Nat} {z : Nat → Int} (h : DInv X A) (hF : Fr (fun k => k ≤ 2) X Y) (hR : Zm Y 1 1 = nI R) (hC : Zm Y 1 2 = nI C) (ha : Zm Y 1 3 = nI a) (hb : Zm Y 1 4 = nI b) (hz : ∀ k, k < 100 → Zv Y 2 k = i32 (z k)) (h0 : Zm Y 0 4 = 0) (hok : AOk (A.tab R C a b z)) : DInv Y (A.tab R C a b z) := by
  have ht : tok R C a b z := hok.t
  have hR2 : R ≤ 10 := hok.R
  have hC2 : C ≤ 10 := hok.C
  refine ⟨hR, hC, ⟨ha, hb, ht.a hR2, ht.b hC2, fun k hk => ⟨hz k hk, ht.2.2.1 k hk⟩⟩, ?_, ?_, ?_, ?_, ?_, Or.inl h0, hok⟩
  · rw [(hF 3 (by omega)).1 3]; exact h.n
  · intro i x hx
    rw [(hF 4 (by omega)).2.1, (hF 5 (by omega)).2.1, (hF 6 (by omega)).2.1]
    exact h.l i x hx
  · rw [(hF 25 (by omega)).2.2.2 0, (hF 25 (by omega)).2.2.2 1]; exact h.fg
  · rw [(hF 25 (by omega)).2.2.2 0]
    exact BH_fr h.rk hF (fun k h1 h2 => by rcases h.fg with h9 | h9 <;> omega)
  · intro S hS
    rw [(hF 24 (by omega)).2.1]; exact h.w S hS
theorem AOk.row {A : DA} (h : AOk A) (hR : A.R < 10) : AOk (A.tab (A.R + 1) A.C (sb A.ra A.R) A.ca A.z) :=
  ⟨hR, h.C, ⟨sb_lt (Nat.lt_of_lt_of_le h.t.1 (Nat.pow_le_pow_right (by decide) (Nat.le_succ _))) (Nat.lt_succ_self _), h.t.2.1, h.t.2.2.1, fun k hk q => h.t.2.2.2 k hk (by rcases q with q | q; exact Or.inl (Nat.le_of_succ_le q); exact Or.inr q)⟩, h.n, fun i x hx => (h.l i x hx).mono (Nat.le_succ _) (Nat.le_refl _)⟩
theorem AOk.col {A : DA} (h : AOk A) (hC : A.C < 10) : AOk (A.tab A.R (A.C + 1) A.ra (sb A.ca A.C) A.z) :=
  ⟨h.R, hC, ⟨h.t.1, sb_lt (Nat.lt_of_lt_of_le h.t.2.1 (Nat.pow_le_pow_right (by decide) (Nat.le_succ _))) (Nat.lt_succ_self _), h.t.2.2.1, fun k hk q => h.t.2.2.2 k hk (by rcases q with q | q; exact Or.inl q; exact Or.inr (Nat.le_of_succ_le q))⟩, h.n, fun i x hx => (h.l i x hx).mono (Nat.le_refl _) (Nat.le_succ _)⟩
theorem AOk.tb {A : DA} {a b : Nat} {z : Nat → Int} (h : AOk A) (ht : tok A.R A.C a b z) : AOk (A.tab A.R A.C a b z) := ⟨h.R, h.C, ht, h.n, h.l⟩
def wb (S i : Nat) (b : Bool) : Nat := if b then sb S i else cb S i
theorem wb_lt {S i n : Nat} {b : Bool} (h : S < 2 ^ n) (hi : i < n) : wb S i b < 2 ^ n := by
  unfold wb
  split
  · exact sb_lt h hi
  · exact cb_lt h
def zup (z : Nat → Int) (k : Nat) (v : Int) : Nat → Int := fun j => if j = k then v else z j
set_option maxHeartbeats 4000000 in
set_option maxRecDepth 100000 in
theorem con_X5_solved (l : Launch) (hfl : l.stackTraces = false) (G : Geo) {A : DA} (X : St) (hD : DInv X A) : ConAt l G yX5_solved cX5_solved 1 (some (.object "AssignmentDesk$Solver")) 6 180 0 [.ref (G.2.1 0)] X (fun v X' => v = some (.ref (G.2.1 7)) ∧ SvK X' A.ra A.ca A.z ∧ DInv X' A ∧ Fr Dp X X') kF := by
  refine conAt_of (lv := [(0, .ref (G.2.1 0))]) hfl (by decide +kernel) rfl (Nat.le_of_ble_eq_true rfl) ?_
  intro J JX CE
  have C := CE.b
  refine r_aload_n C dX5_solved_0 rfl rfl ?_
  refine gf_RX5_48 C dX5_solved_1 ?_
  refine r_if_ne (tgt := 23) C dX5_solved_4 (by decide) (fun c_4 => ?_) (fun c_4 => ?_)
  · -- 23
    have hK : SvK X A.ra A.ca A.z := by rcases hD.s with h9 | h9; exact absurd h9 c_4; exact h9.2
    refine r_aload_n C dX5_solved_23 rfl rfl ?_
    refine gf_RX5_26 C dX5_solved_24 ?_
    exact r_aret CE rfl dX5_solved_27 (Nat.le_of_ble_eq_true rfl) ⟨rfl, by first | exact ⟨hK, hD, Fr.rf⟩ | exact ⟨hK2, hD2, hF2⟩⟩
  · -- 7
    skip
    refine r_aload_n C dX5_solved_7 rfl rfl ?_
    refine gf_RX5_26 C dX5_solved_8 ?_
    refine r_aload_n C dX5_solved_11 rfl rfl ?_
    refine gf_RX5_12 C dX5_solved_12 ?_
    refine cl_RX5_240 C (con_X3_solve l hfl _ hD.tb hD.w) dX5_solved_15 rfl ⟨Nat.le_of_ble_eq_true rfl, Nat.le_of_ble_eq_true rfl⟩ (by omega) (Nat.le_of_ble_eq_true rfl) (fun X_15 h_15 => ?_)
    obtain ⟨hK, hO⟩ := h_15
    have hF : Fr (fun k => 7 ≤ k ∧ k < 24) X X_15 := fun k hk => ⟨fun j => hO.1 k j (by omega), hO.2.1 k (by omega), hO.2.2.1 k, fun j => hO.2.2.2 k j⟩
    have hK2 : SvK (Ym X_15 0 4 1) A.ra A.ca A.z := hK
    have hF2 : Fr Dp X (Ym X_15 0 4 1) := (hF.mono (fun k hk => by omega)).tr (Fr.m _ (by decide))
    have hD2 : DInv (Ym X_15 0 4 1) A := by
      have hG : ∀ k, k < 36 → k < 7 ∨ 24 ≤ k → (∀ j, Zm X_15 k j = Zm X k j) ∧ Zv X_15 k = Zv X k ∧ Zu X_15 k = Zu X k ∧ ∀ j, Zf X_15 k j = Zf X k j := fun k _ q => hF k (by omega)
      refine ⟨?_, ?_, ?_, ?_, ?_, ?_, ?_, ?_, Or.inr ⟨rfl, hK2⟩, hD.ok⟩
      · show Zm X_15 1 1 = _
        rw [(hF 1 (by omega)).1 1]; exact hD.R
      · show Zm X_15 1 2 = _
        rw [(hF 1 (by omega)).1 2]; exact hD.C
      · exact TbZ_fr (Y := Ym X_15 0 4 1) (TbZ_fr hD.tb hF (by omega) (by omega)) (P := fun k => k = 0) (Fr.m _ rfl) (by decide) (by decide)
      · show Zm X_15 3 3 = _
        rw [(hF 3 (by omega)).1 3]; exact hD.n
      · intro i x hx
        show Zv X_15 5 i = _ ∧ Zv X_15 6 i = _ ∧ ∀ k, k < 100 → Zv X_15 4 (100 * i + k) = _
        rw [(hF 4 (by omega)).2.1, (hF 5 (by omega)).2.1, (hF 6 (by omega)).2.1]
        exact hD.l i x hx
      · show fgo (Zf X_15 25 0) (Zf X_15 25 1)
        rw [(hF 25 (by omega)).2.2.2 0, (hF 25 (by omega)).2.2.2 1]; exact hD.fg
      · show BH (Ym X_15 0 4 1) (Zf X_15 25 0) _
        rw [(hF 25 (by omega)).2.2.2 0]
        exact BH_fr (BH_fr hD.rk hF (fun k h1 h2 => by rcases hD.fg with h9 | h9 <;> omega)) (P := fun k => k = 0) (Fr.m _ rfl) (fun k h1 h2 q => by rcases hD.fg with h9 | h9 <;> omega)
      · intro S hS
        show Zv X_15 24 S = 0
        rw [(hF 24 (by omega)).2.1]; exact hD.w S hS
    refine r_aload_n C dX5_solved_18 rfl rfl ?_
    refine r_iconst (v := 1) C dX5_solved_19 (by decide) ?_
    refine pf_RX5_48 C rfl rfl dX5_solved_20 ?_
    refine r_aload_n C dX5_solved_23 rfl rfl ?_
    refine gf_RX5_26 C dX5_solved_24 ?_
    exact r_aret CE rfl dX5_solved_27 (Nat.le_of_ble_eq_true rfl) ⟨rfl, by first | exact ⟨hK, hD, Fr.rf⟩ | exact ⟨hK2, hD2, hF2⟩⟩
