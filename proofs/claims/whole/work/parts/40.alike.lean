/-! ===== the law: the class and the reference answer alike ===== -/
def NxI (r5 r6 : Int32) (X2 : St) : Prop := ∃ A', DInv X2 A' ∧ MInv X2 A' ∧ Zm X2 37 0 = r5 ∧ (r5 = 0 → Zu X2 36 0 = r6.toInt64)
def NxZ (r5 r6 : Int32) (X2 : St) : Prop := ∃ A', DInv X2 A' ∧ MInv X2 A' ∧ Zm X2 37 0 = r5 ∧ (r5 = 0 → Zu X2 36 0 = (if r6 = 0 then 0 else 1))
theorem di_fr {X Y : St} {A : DA} (h : DInv X A) (hF : Fr Mp X Y) : DInv Y A := h.fr hF (fun k h1 _ _ (q : 37 ≤ k) => by omega)
theorem mi_fr {X Y : St} {A : DA} (h : MInv X A) (hF : Fr Dp X Y) : MInv Y A := h.fr hF (fun k h1 _ (q : k < 36) => by omega)
theorem di_o {X : St} {A : DA} (f : Nat → Int64) (h : DInv X A) : DInv (Yu X 36 f) A := h.fr (P := fun k => k = 36) (Fr.u f rfl) (fun k h1 _ _ (q : k = 36) => by omega)
theorem mi_o {X Y : St} {A : DA} (f : Nat → Int64) (h : MInv X A) (hF : Fr Dp X Y) : MInv (Yu Y 36 f) A := (mi_fr h hF).fr (P := fun k => k = 36) (Fr.u f rfl) (fun k h1 _ (q : k = 36) => by omega)
theorem zu_o {X Y : St} {x : Int64} (hF : Fr Mp (Yu X 36 (vp_updL (Zu X 36) 0 x)) Y) : Zu Y 36 0 = x := by
  rw [(hF 36 (fun (q : 37 ≤ 36) => by omega)).2.2.1, Zu_Yu, if_pos rfl]
  rfl
theorem nx_i {X Y : St} {A : DA} {r6 r1 : Int32} (h : DInv X A) (e : r6 = r1) (hF : Fr Mp (Yu X 36 (vp_updL (Zu X 36) 0 r1.toInt64)) Y) (ht : Zm Y 37 0 = 0) (hM : MInv Y A) : NxI 0 r6 Y := ⟨A, di_fr (di_o _ h) hF, hM, ht, fun _ => by rw [zu_o hF, e]⟩
theorem nx_z {X Y : St} {A : DA} {r6 r1 : Int32} (h : DInv X A) (e : r6 = r1) (hF : Fr Mp (Yu X 36 (vp_updL (Zu X 36) 0 (if r1 = 0 then 0 else 1))) Y) (ht : Zm Y 37 0 = 0) (hM : MInv Y A) : NxZ 0 r6 Y := ⟨A, di_fr (di_o _ h) hF, hM, ht, fun _ => by rw [zu_o hF, e]⟩
theorem nx_bi {X Y : St} {A : DA} {r5 r6 : Int32} (h : DInv X A) (hF : Fr Mp X Y) (ht : Zm Y 37 0 = r5) (h5 : r5 ≠ 0) (hM : MInv Y A) : NxI r5 r6 Y := ⟨A, di_fr h hF, hM, ht, fun q => absurd q h5⟩
theorem nx_bz {X Y : St} {A : DA} {r5 r6 : Int32} (h : DInv X A) (hF : Fr Mp X Y) (ht : Zm Y 37 0 = r5) (h5 : r5 ≠ 0) (hM : MInv Y A) : NxZ r5 r6 Y := ⟨A, di_fr h hF, hM, ht, fun q => absurd q h5⟩
theorem lw_addRow {A : DA} {X X1 : St} {r5 : Int32} (hD : DInv X A) (hM : MInv X A) (h1 : (∃ r1 X0, (r1 = nI A.R ∧ A.R < 10 ∧ DInv X0 (A.tab (A.R + 1) A.C (sb A.ra A.R) A.ca A.z) ∧ Fr Dp X X0) ∧ r5 = 0 ∧ X1 = Yu X0 36 (vp_updL (Zu X0 36) 0 r1.toInt64)) ∨ (r5 = 1 ∧ X = X1 ∧ A.R = 10)) : MInv X1 A ∧ ∀ (r6 : Int32) (X2 : St), ((A.R = 10 → r6 = 0 ∧ Zm X2 37 0 = 1 ∧ MInv X2 A) ∧ (A.R < 10 → r6 = nI A.R ∧ Zm X2 37 0 = 0 ∧ MInv X2 (A.tab (A.R + 1) A.C (sb A.ra A.R) A.ca A.z)) ∧ Fr Mp X1 X2) → NxI r5 r6 X2 := by
  rcases h1 with ⟨r1, X0, ⟨rfl, hlt, hD0, hF0⟩, rfl, rfl⟩ | ⟨rfl, rfl, e⟩
  · refine ⟨mi_o _ hM hF0, fun r6 X2 h2 => ?_⟩
    obtain ⟨b1, g, hF2⟩ := h2
    obtain ⟨e6, ht, hM2⟩ := g hlt
    exact nx_i hD0 e6 hF2 ht hM2
  · refine ⟨hM, fun r6 X2 h2 => ?_⟩
    obtain ⟨b1, g, hF2⟩ := h2
    obtain ⟨-, ht, hM2⟩ := b1 e
    exact nx_bi hD hF2 ht (by decide) hM2
theorem lw_addColumn {A : DA} {X X1 : St} {r5 : Int32} (hD : DInv X A) (hM : MInv X A) (h1 : (∃ r1 X0, (r1 = nI A.C ∧ A.C < 10 ∧ DInv X0 (A.tab A.R (A.C + 1) A.ra (sb A.ca A.C) A.z) ∧ Fr Dp X X0) ∧ r5 = 0 ∧ X1 = Yu X0 36 (vp_updL (Zu X0 36) 0 r1.toInt64)) ∨ (r5 = 1 ∧ X = X1 ∧ A.C = 10)) : MInv X1 A ∧ ∀ (r6 : Int32) (X2 : St), ((A.C = 10 → r6 = 0 ∧ Zm X2 37 0 = 1 ∧ MInv X2 A) ∧ (A.C < 10 → r6 = nI A.C ∧ Zm X2 37 0 = 0 ∧ MInv X2 (A.tab A.R (A.C + 1) A.ra (sb A.ca A.C) A.z)) ∧ Fr Mp X1 X2) → NxI r5 r6 X2 := by
  rcases h1 with ⟨r1, X0, ⟨rfl, hlt, hD0, hF0⟩, rfl, rfl⟩ | ⟨rfl, rfl, e⟩
  · refine ⟨mi_o _ hM hF0, fun r6 X2 h2 => ?_⟩
    obtain ⟨b1, g, hF2⟩ := h2
    obtain ⟨e6, ht, hM2⟩ := g hlt
    exact nx_i hD0 e6 hF2 ht hM2
  · refine ⟨hM, fun r6 X2 h2 => ?_⟩
    obtain ⟨b1, g, hF2⟩ := h2
    obtain ⟨-, ht, hM2⟩ := b1 e
    exact nx_bi hD hF2 ht (by decide) hM2
theorem lw_setRow {A : DA} {x : Int32} {b : Bool} {X X1 : St} {r5 : Int32} (hD : DInv X A) (hM : MInv X A) (h1 : (∃ r1 X0, (∃ r, r < A.R ∧ x = nI r ∧ r1 = bI (A.ra.testBit r) ∧ DInv X0 (A.tab A.R A.C (wb A.ra r b) A.ca A.z) ∧ Fr Dp X X0) ∧ r5 = 0 ∧ X1 = Yu X0 36 (vp_updL (Zu X0 36) 0 (if r1 = 0 then 0 else 1))) ∨ (r5 = 1 ∧ X = X1 ∧ inI x A.R = false)) : MInv X1 A ∧ ∀ (r6 : Int32) (X2 : St), ((inI x A.R = false → r6 = 0 ∧ Zm X2 37 0 = 1 ∧ MInv X2 A) ∧ (∀ r, r < A.R → x = nI r → r6 = bI (A.ra.testBit r) ∧ Zm X2 37 0 = 0 ∧ MInv X2 (A.tab A.R A.C (wb A.ra r b) A.ca A.z)) ∧ Fr Mp X1 X2) → NxZ r5 r6 X2 := by
  rcases h1 with ⟨r1, X0, ⟨r, hr, rfl, rfl, hD0, hF0⟩, rfl, rfl⟩ | ⟨rfl, rfl, e⟩
  · refine ⟨mi_o _ hM hF0, fun r6 X2 h2 => ?_⟩
    obtain ⟨b1, g, hF2⟩ := h2
    obtain ⟨e6, ht, hM2⟩ := g r hr rfl
    exact nx_z hD0 e6 hF2 ht hM2
  · refine ⟨hM, fun r6 X2 h2 => ?_⟩
    obtain ⟨b1, g, hF2⟩ := h2
    obtain ⟨-, ht, hM2⟩ := b1 e
    exact nx_bz hD hF2 ht (by decide) hM2
theorem lw_setColumn {A : DA} {x : Int32} {b : Bool} {X X1 : St} {r5 : Int32} (hD : DInv X A) (hM : MInv X A) (h1 : (∃ r1 X0, (∃ c, c < A.C ∧ x = nI c ∧ r1 = bI (A.ca.testBit c) ∧ DInv X0 (A.tab A.R A.C A.ra (wb A.ca c b) A.z) ∧ Fr Dp X X0) ∧ r5 = 0 ∧ X1 = Yu X0 36 (vp_updL (Zu X0 36) 0 (if r1 = 0 then 0 else 1))) ∨ (r5 = 1 ∧ X = X1 ∧ inI x A.C = false)) : MInv X1 A ∧ ∀ (r6 : Int32) (X2 : St), ((inI x A.C = false → r6 = 0 ∧ Zm X2 37 0 = 1 ∧ MInv X2 A) ∧ (∀ c, c < A.C → x = nI c → r6 = bI (A.ca.testBit c) ∧ Zm X2 37 0 = 0 ∧ MInv X2 (A.tab A.R A.C A.ra (wb A.ca c b) A.z)) ∧ Fr Mp X1 X2) → NxZ r5 r6 X2 := by
  rcases h1 with ⟨r1, X0, ⟨r, hr, rfl, rfl, hD0, hF0⟩, rfl, rfl⟩ | ⟨rfl, rfl, e⟩
  · refine ⟨mi_o _ hM hF0, fun r6 X2 h2 => ?_⟩
    obtain ⟨b1, g, hF2⟩ := h2
    obtain ⟨e6, ht, hM2⟩ := g r hr rfl
    exact nx_z hD0 e6 hF2 ht hM2
  · refine ⟨hM, fun r6 X2 h2 => ?_⟩
    obtain ⟨b1, g, hF2⟩ := h2
    obtain ⟨-, ht, hM2⟩ := b1 e
    exact nx_bz hD hF2 ht (by decide) hM2
theorem lw_setCost {A : DA} {x y v : Int32} {X X1 : St} {r5 : Int32} (hD : DInv X A) (hM : MInv X A) (h1 : (∃ r1 X0, (∃ r c, r < A.R ∧ c < A.C ∧ x = nI r ∧ y = nI c ∧ inC v.toInt = true ∧ r1 = bI (al A.z (10 * r + c)) ∧ DInv X0 (A.tab A.R A.C A.ra A.ca (zup A.z (10 * r + c) v.toInt)) ∧ Fr Dp X X0) ∧ r5 = 0 ∧ X1 = Yu X0 36 (vp_updL (Zu X0 36) 0 (if r1 = 0 then 0 else 1))) ∨ (r5 = 1 ∧ X = X1 ∧ (inI x A.R && inI y A.C) = false) ∨ (r5 = 2 ∧ X = X1 ∧ inI x A.R = true ∧ inI y A.C = true ∧ inC v.toInt = false)) : MInv X1 A ∧ ∀ (r6 : Int32) (X2 : St), (((inI x A.R && inI y A.C) = false → r6 = 0 ∧ Zm X2 37 0 = 1 ∧ MInv X2 A) ∧ ((inI x A.R && inI y A.C) = true → inC v.toInt = false → r6 = 0 ∧ Zm X2 37 0 = 2 ∧ MInv X2 A) ∧ (∀ r c, r < A.R → c < A.C → x = nI r → y = nI c → inC v.toInt = true → r6 = bI (al A.z (10 * r + c)) ∧ Zm X2 37 0 = 0 ∧ MInv X2 (A.tab A.R A.C A.ra A.ca (zup A.z (10 * r + c) v.toInt))) ∧ Fr Mp X1 X2) → NxZ r5 r6 X2 := by
  rcases h1 with ⟨r1, X0, ⟨r, c, hr, hc, rfl, rfl, hi, rfl, hD0, hF0⟩, rfl, rfl⟩ | ⟨rfl, rfl, e⟩ | ⟨rfl, rfl, ⟨e1, e2, e3⟩⟩
  · refine ⟨mi_o _ hM hF0, fun r6 X2 h2 => ?_⟩
    obtain ⟨b1, b2, g, hF2⟩ := h2
    obtain ⟨e6, ht, hM2⟩ := g r c hr hc rfl rfl hi
    exact nx_z hD0 e6 hF2 ht hM2
  · refine ⟨hM, fun r6 X2 h2 => ?_⟩
    obtain ⟨b1, b2, g, hF2⟩ := h2
    obtain ⟨-, ht, hM2⟩ := b1 e
    exact nx_bz hD hF2 ht (by decide) hM2
  · refine ⟨hM, fun r6 X2 h2 => ?_⟩
    obtain ⟨b1, b2, g, hF2⟩ := h2
    obtain ⟨-, ht, hM2⟩ := b2 (by rw [e1, e2]; rfl) e3
    exact nx_bz hD hF2 ht (by decide) hM2
theorem lw_forbid {A : DA} {x y : Int32} {X X1 : St} {r5 : Int32} (hD : DInv X A) (hM : MInv X A) (h1 : (∃ r1 X0, (∃ r c, r < A.R ∧ c < A.C ∧ x = nI r ∧ y = nI c ∧ r1 = bI (al A.z (10 * r + c)) ∧ DInv X0 (A.tab A.R A.C A.ra A.ca (zup A.z (10 * r + c) 20000)) ∧ Fr Dp X X0) ∧ r5 = 0 ∧ X1 = Yu X0 36 (vp_updL (Zu X0 36) 0 (if r1 = 0 then 0 else 1))) ∨ (r5 = 1 ∧ X = X1 ∧ (inI x A.R && inI y A.C) = false)) : MInv X1 A ∧ ∀ (r6 : Int32) (X2 : St), (((inI x A.R && inI y A.C) = false → r6 = 0 ∧ Zm X2 37 0 = 1 ∧ MInv X2 A) ∧ (∀ r c, r < A.R → c < A.C → x = nI r → y = nI c → r6 = bI (al A.z (10 * r + c)) ∧ Zm X2 37 0 = 0 ∧ MInv X2 (A.tab A.R A.C A.ra A.ca (zup A.z (10 * r + c) 20000))) ∧ Fr Mp X1 X2) → NxZ r5 r6 X2 := by
  rcases h1 with ⟨r1, X0, ⟨r, c, hr, hc, rfl, rfl, rfl, hD0, hF0⟩, rfl, rfl⟩ | ⟨rfl, rfl, e⟩
  · refine ⟨mi_o _ hM hF0, fun r6 X2 h2 => ?_⟩
    obtain ⟨b1, g, hF2⟩ := h2
    obtain ⟨e6, ht, hM2⟩ := g r c hr hc rfl rfl
    exact nx_z hD0 e6 hF2 ht hM2
  · refine ⟨hM, fun r6 X2 h2 => ?_⟩
    obtain ⟨b1, g, hF2⟩ := h2
    obtain ⟨-, ht, hM2⟩ := b1 e
    exact nx_bz hD hF2 ht (by decide) hM2
theorem lw_addToRow {A : DA} {x v : Int32} {X X1 : St} {r5 : Int32} (hD : DInv X A) (hM : MInv X A) (h1 : (∃ r1 X0, (∃ r, r < A.R ∧ x = nI r ∧ shok A.z r v.toInt 10 = true ∧ r1 = nI (alw A.z r 10) ∧ DInv X0 (A.tab A.R A.C A.ra A.ca (shz A.z r v.toInt)) ∧ Fr Dp X X0) ∧ r5 = 0 ∧ X1 = Yu X0 36 (vp_updL (Zu X0 36) 0 r1.toInt64)) ∨ (r5 = 1 ∧ X = X1 ∧ inI x A.R = false) ∨ (r5 = 2 ∧ X = X1 ∧ inI x A.R = true ∧ ∀ r, r < 10 → x = nI r → shok A.z r v.toInt 10 = false)) : MInv X1 A ∧ ∀ (r6 : Int32) (X2 : St), ((inI x A.R = false → r6 = 0 ∧ Zm X2 37 0 = 1 ∧ MInv X2 A) ∧ (∀ r, r < A.R → x = nI r → (shok A.z r v.toInt 10 = false → r6 = 0 ∧ Zm X2 37 0 = 2 ∧ MInv X2 A) ∧ (shok A.z r v.toInt 10 = true → r6 = nI (alw A.z r 10) ∧ Zm X2 37 0 = 0 ∧ MInv X2 (A.tab A.R A.C A.ra A.ca (shz A.z r v.toInt)))) ∧ Fr Mp X1 X2) → NxI r5 r6 X2 := by
  rcases h1 with ⟨r1, X0, ⟨r, hr, rfl, hs, rfl, hD0, hF0⟩, rfl, rfl⟩ | ⟨rfl, rfl, e⟩ | ⟨rfl, rfl, ⟨e1, e2⟩⟩
  · refine ⟨mi_o _ hM hF0, fun r6 X2 h2 => ?_⟩
    obtain ⟨b1, g, hF2⟩ := h2
    obtain ⟨e6, ht, hM2⟩ := (g r hr rfl).2 hs
    exact nx_i hD0 e6 hF2 ht hM2
  · refine ⟨hM, fun r6 X2 h2 => ?_⟩
    obtain ⟨b1, g, hF2⟩ := h2
    obtain ⟨-, ht, hM2⟩ := b1 e
    exact nx_bi hD hF2 ht (by decide) hM2
  · refine ⟨hM, fun r6 X2 h2 => ?_⟩
    obtain ⟨r, hr, rfl⟩ := inI_t e1
    obtain ⟨b1, g, hF2⟩ := h2
    obtain ⟨-, ht, hM2⟩ := (g r hr rfl).1 (e2 r (by have := hD.ok.R; omega) rfl)
    exact nx_bi hD hF2 ht (by decide) hM2
theorem lw_scaleColumn {A : DA} {x : Int32} {sf : Bool} {nf : Nat} {f : UInt64} {X X1 : St} {r5 : Int32} (hD : DInv X A) (hM : MInv X A) (hf : Pd 3 sf nf f) (h1 : (∃ r1 X0, (∃ c, c < A.C ∧ x = nI c ∧ nf ≤ 800 ∧ stok A.z c sf nf 10 = true ∧ r1 = nI (chg A.z c sf nf 10) ∧ DInv X0 (A.tab A.R A.C A.ra A.ca (stz A.z c sf nf)) ∧ Fr Dp X X0) ∧ r5 = 0 ∧ X1 = Yu X0 36 (vp_updL (Zu X0 36) 0 r1.toInt64)) ∨ (r5 = 1 ∧ X = X1 ∧ inI x A.C = false) ∨ (r5 = 2 ∧ X = X1 ∧ inI x A.C = true ∧ ¬ nf ≤ 800) ∨ (r5 = 3 ∧ X = X1 ∧ inI x A.C = true ∧ nf ≤ 800 ∧ ∀ c, c < 10 → x = nI c → stok A.z c sf nf 10 = false)) : MInv X1 A ∧ ∀ (r6 : Int32) (X2 : St), ((inI x A.C = false → r6 = 0 ∧ Zm X2 37 0 = 1 ∧ MInv X2 A) ∧ (inI x A.C = true → ¬ nf ≤ 800 → r6 = 0 ∧ Zm X2 37 0 = 2 ∧ MInv X2 A) ∧ (∀ q, q < A.C → x = nI q → nf ≤ 800 → (stok A.z q sf nf 10 = false → r6 = 0 ∧ Zm X2 37 0 = 3 ∧ MInv X2 A) ∧ (stok A.z q sf nf 10 = true → r6 = nI (chg A.z q sf nf 10) ∧ Zm X2 37 0 = 0 ∧ MInv X2 (A.tab A.R A.C A.ra A.ca (stz A.z q sf nf)))) ∧ Fr Mp X1 X2) → NxI r5 r6 X2 := by
  rcases h1 with ⟨r1, X0, ⟨c, hc, rfl, hn, hs, rfl, hD0, hF0⟩, rfl, rfl⟩ | ⟨rfl, rfl, e⟩ | ⟨rfl, rfl, ⟨e1, e2⟩⟩ | ⟨rfl, rfl, ⟨e1, e2, e3⟩⟩
  · refine ⟨mi_o _ hM hF0, fun r6 X2 h2 => ?_⟩
    obtain ⟨b1, b2, g, hF2⟩ := h2
    obtain ⟨e6, ht, hM2⟩ := (g c hc rfl hn).2 hs
    exact nx_i hD0 e6 hF2 ht hM2
  · refine ⟨hM, fun r6 X2 h2 => ?_⟩
    obtain ⟨b1, b2, g, hF2⟩ := h2
    obtain ⟨-, ht, hM2⟩ := b1 e
    exact nx_bi hD hF2 ht (by decide) hM2
  · refine ⟨hM, fun r6 X2 h2 => ?_⟩
    obtain ⟨b1, b2, g, hF2⟩ := h2
    obtain ⟨-, ht, hM2⟩ := b2 e1 e2
    exact nx_bi hD hF2 ht (by decide) hM2
  · refine ⟨hM, fun r6 X2 h2 => ?_⟩
    obtain ⟨c, hc, rfl⟩ := inI_t e1
    obtain ⟨b1, b2, g, hF2⟩ := h2
    obtain ⟨-, ht, hM2⟩ := (g c hc rfl e2).1 (e3 c (by have := hD.ok.C; omega) rfl)
    exact nx_bi hD hF2 ht (by decide) hM2
theorem lw_isAllowed {A : DA} {x y : Int32} {X X1 : St} {r5 : Int32} (hD : DInv X A) (hM : MInv X A) (h1 : (∃ r1 X0, (∃ r c, r < A.R ∧ c < A.C ∧ x = nI r ∧ y = nI c ∧ r1 = bI (al A.z (10 * r + c)) ∧ X = X0) ∧ r5 = 0 ∧ X1 = Yu X0 36 (vp_updL (Zu X0 36) 0 (if r1 = 0 then 0 else 1))) ∨ (r5 = 1 ∧ X = X1 ∧ (inI x A.R && inI y A.C) = false)) : MInv X1 A ∧ ∀ (r6 : Int32) (X2 : St), (((inI x A.R && inI y A.C) = false → r6 = 0 ∧ Zm X2 37 0 = 1 ∧ MInv X2 A) ∧ (∀ r c, r < A.R → c < A.C → x = nI r → y = nI c → r6 = bI (al A.z (10 * r + c)) ∧ Zm X2 37 0 = 0 ∧ MInv X2 A) ∧ Fr Mp X1 X2) → NxZ r5 r6 X2 := by
  rcases h1 with ⟨r1, X0, ⟨r, c, hr, hc, rfl, rfl, rfl, rfl⟩, rfl, rfl⟩ | ⟨rfl, rfl, e⟩
  · refine ⟨mi_o _ hM Fr.rf, fun r6 X2 h2 => ?_⟩
    obtain ⟨b1, g, hF2⟩ := h2
    obtain ⟨e6, ht, hM2⟩ := g r c hr hc rfl rfl
    exact nx_z hD e6 hF2 ht hM2
  · refine ⟨hM, fun r6 X2 h2 => ?_⟩
    obtain ⟨b1, g, hF2⟩ := h2
    obtain ⟨-, ht, hM2⟩ := b1 e
    exact nx_bz hD hF2 ht (by decide) hM2
theorem lw_cost {A : DA} {x y : Int32} {X X1 : St} {r5 : Int32} (hD : DInv X A) (hM : MInv X A) (h1 : (∃ r1 X0, (∃ r c, r < A.R ∧ c < A.C ∧ x = nI r ∧ y = nI c ∧ A.z (10 * r + c) ≠ 20000 ∧ r1 = i32 (A.z (10 * r + c)) ∧ X = X0) ∧ r5 = 0 ∧ X1 = Yu X0 36 (vp_updL (Zu X0 36) 0 r1.toInt64)) ∨ (r5 = 1 ∧ X = X1 ∧ (inI x A.R && inI y A.C) = false) ∨ (r5 = 2 ∧ X = X1 ∧ inI x A.R = true ∧ inI y A.C = true ∧ ∀ r c, r < 10 → c < 10 → x = nI r → y = nI c → A.z (10 * r + c) = 20000)) : MInv X1 A ∧ ∀ (r6 : Int32) (X2 : St), (((inI x A.R && inI y A.C) = false → r6 = 0 ∧ Zm X2 37 0 = 1 ∧ MInv X2 A) ∧ (∀ r c, r < A.R → c < A.C → x = nI r → y = nI c → (A.z (10 * r + c) = 20000 → r6 = 0 ∧ Zm X2 37 0 = 2 ∧ MInv X2 A) ∧ (A.z (10 * r + c) ≠ 20000 → r6 = i32 (A.z (10 * r + c)) ∧ Zm X2 37 0 = 0 ∧ MInv X2 A)) ∧ Fr Mp X1 X2) → NxI r5 r6 X2 := by
  rcases h1 with ⟨r1, X0, ⟨r, c, hr, hc, rfl, rfl, hz, rfl, rfl⟩, rfl, rfl⟩ | ⟨rfl, rfl, e⟩ | ⟨rfl, rfl, ⟨e1, e2, e3⟩⟩
  · refine ⟨mi_o _ hM Fr.rf, fun r6 X2 h2 => ?_⟩
    obtain ⟨b1, g, hF2⟩ := h2
    obtain ⟨e6, ht, hM2⟩ := (g r c hr hc rfl rfl).2 hz
    exact nx_i hD e6 hF2 ht hM2
  · refine ⟨hM, fun r6 X2 h2 => ?_⟩
    obtain ⟨b1, g, hF2⟩ := h2
    obtain ⟨-, ht, hM2⟩ := b1 e
    exact nx_bi hD hF2 ht (by decide) hM2
  · refine ⟨hM, fun r6 X2 h2 => ?_⟩
    obtain ⟨r, hr, rfl⟩ := inI_t e1
    obtain ⟨c, hc, rfl⟩ := inI_t e2
    obtain ⟨b1, g, hF2⟩ := h2
    obtain ⟨-, ht, hM2⟩ := (g r c hr hc rfl rfl).1 (e3 r c (by have := hD.ok.R; omega) (by have := hD.ok.C; omega) rfl rfl)
    exact nx_bi hD hF2 ht (by decide) hM2
theorem lw_columnOf {A : DA} {x : Int32} {Q9 : Nat → Int32} {X X1 : St} {r5 : Int32} (hD : DInv X A) (hM : MInv X A) (h1 : (∃ r1 X0, (∃ r, r < A.R ∧ x = nI r ∧ r1 = Q9 r ∧ DInv X0 A ∧ Fr Dp X X0) ∧ r5 = 0 ∧ X1 = Yu X0 36 (vp_updL (Zu X0 36) 0 r1.toInt64)) ∨ (r5 = 1 ∧ X = X1 ∧ inI x A.R = false)) : MInv X1 A ∧ ∀ (r6 : Int32) (X2 : St), ((inI x A.R = false → r6 = 0 ∧ Zm X2 37 0 = 1 ∧ MInv X2 A) ∧ (∀ r, r < A.R → x = nI r → r6 = Q9 r ∧ Zm X2 37 0 = 0 ∧ MInv X2 A) ∧ Fr Mp X1 X2) → NxI r5 r6 X2 := by
  rcases h1 with ⟨r1, X0, ⟨r, hr, rfl, rfl, hD0, hF0⟩, rfl, rfl⟩ | ⟨rfl, rfl, e⟩
  · refine ⟨mi_o _ hM hF0, fun r6 X2 h2 => ?_⟩
    obtain ⟨b1, g, hF2⟩ := h2
    obtain ⟨e6, ht, hM2⟩ := g r hr rfl
    exact nx_i hD0 e6 hF2 ht hM2
  · refine ⟨hM, fun r6 X2 h2 => ?_⟩
    obtain ⟨b1, g, hF2⟩ := h2
    obtain ⟨-, ht, hM2⟩ := b1 e
    exact nx_bi hD hF2 ht (by decide) hM2
theorem lw_rowOf {A : DA} {x : Int32} {q9 : Int32} {X X1 : St} {r5 : Int32} (hD : DInv X A) (hM : MInv X A) (h1 : (∃ r1 X0, (inI x A.C = true ∧ r1 = q9 ∧ DInv X0 A ∧ Fr Dp X X0) ∧ r5 = 0 ∧ X1 = Yu X0 36 (vp_updL (Zu X0 36) 0 r1.toInt64)) ∨ (r5 = 1 ∧ X = X1 ∧ inI x A.C = false)) : MInv X1 A ∧ ∀ (r6 : Int32) (X2 : St), ((inI x A.C = false → r6 = 0 ∧ Zm X2 37 0 = 1 ∧ MInv X2 A) ∧ (inI x A.C = true → r6 = q9 ∧ Zm X2 37 0 = 0 ∧ MInv X2 A) ∧ Fr Mp X1 X2) → NxI r5 r6 X2 := by
  rcases h1 with ⟨r1, X0, ⟨hi, rfl, hD0, hF0⟩, rfl, rfl⟩ | ⟨rfl, rfl, e⟩
  · refine ⟨mi_o _ hM hF0, fun r6 X2 h2 => ?_⟩
    obtain ⟨b1, g, hF2⟩ := h2
    obtain ⟨e6, ht, hM2⟩ := g hi
    exact nx_i hD0 e6 hF2 ht hM2
  · refine ⟨hM, fun r6 X2 h2 => ?_⟩
    obtain ⟨b1, g, hF2⟩ := h2
    obtain ⟨-, ht, hM2⟩ := b1 e
    exact nx_bi hD hF2 ht (by decide) hM2
theorem lw_isPossible {A : DA} {x y : Int32} {X X1 : St} {r5 : Int32} (hD : DInv X A) (hM : MInv X A) (h1 : (∃ r1 X0, (∃ r c, r < A.R ∧ c < A.C ∧ x = nI r ∧ y = nI c ∧ r1 = bI ((us A.ra A.ca A.z r).testBit c && decide (xW A.ra A.ca A.z r c = 0)) ∧ DInv X0 A ∧ Fr Dp X X0) ∧ r5 = 0 ∧ X1 = Yu X0 36 (vp_updL (Zu X0 36) 0 (if r1 = 0 then 0 else 1))) ∨ (r5 = 1 ∧ X = X1 ∧ (inI x A.R && inI y A.C) = false)) : MInv X1 A ∧ ∀ (r6 : Int32) (X2 : St), (((inI x A.R && inI y A.C) = false → r6 = 0 ∧ Zm X2 37 0 = 1 ∧ MInv X2 A) ∧ (∀ r c, r < A.R → c < A.C → x = nI r → y = nI c → r6 = bI ((us A.ra A.ca A.z r).testBit c && decide (xW A.ra A.ca A.z r c = 0)) ∧ Zm X2 37 0 = 0 ∧ MInv X2 A) ∧ Fr Mp X1 X2) → NxZ r5 r6 X2 := by
  rcases h1 with ⟨r1, X0, ⟨r, c, hr, hc, rfl, rfl, rfl, hD0, hF0⟩, rfl, rfl⟩ | ⟨rfl, rfl, e⟩
  · refine ⟨mi_o _ hM hF0, fun r6 X2 h2 => ?_⟩
    obtain ⟨b1, g, hF2⟩ := h2
    obtain ⟨e6, ht, hM2⟩ := g r c hr hc rfl rfl
    exact nx_z hD0 e6 hF2 ht hM2
  · refine ⟨hM, fun r6 X2 h2 => ?_⟩
    obtain ⟨b1, g, hF2⟩ := h2
    obtain ⟨-, ht, hM2⟩ := b1 e
    exact nx_bz hD hF2 ht (by decide) hM2
theorem lw_isCertain {A : DA} {x y : Int32} {X X1 : St} {r5 : Int32} (hD : DInv X A) (hM : MInv X A) (h1 : (∃ r1 X0, (∃ r c, r < A.R ∧ c < A.C ∧ x = nI r ∧ y = nI c ∧ r1 = bI (!decide (xO A.ra A.ca A.z r c = 0)) ∧ DInv X0 A ∧ Fr Dp X X0) ∧ r5 = 0 ∧ X1 = Yu X0 36 (vp_updL (Zu X0 36) 0 (if r1 = 0 then 0 else 1))) ∨ (r5 = 1 ∧ X = X1 ∧ (inI x A.R && inI y A.C) = false)) : MInv X1 A ∧ ∀ (r6 : Int32) (X2 : St), (((inI x A.R && inI y A.C) = false → r6 = 0 ∧ Zm X2 37 0 = 1 ∧ MInv X2 A) ∧ (∀ r c, r < A.R → c < A.C → x = nI r → y = nI c → r6 = bI (!decide (xO A.ra A.ca A.z r c = 0)) ∧ Zm X2 37 0 = 0 ∧ MInv X2 A) ∧ Fr Mp X1 X2) → NxZ r5 r6 X2 := by
  rcases h1 with ⟨r1, X0, ⟨r, c, hr, hc, rfl, rfl, rfl, hD0, hF0⟩, rfl, rfl⟩ | ⟨rfl, rfl, e⟩
  · refine ⟨mi_o _ hM hF0, fun r6 X2 h2 => ?_⟩
    obtain ⟨b1, g, hF2⟩ := h2
    obtain ⟨e6, ht, hM2⟩ := g r c hr hc rfl rfl
    exact nx_z hD0 e6 hF2 ht hM2
  · refine ⟨hM, fun r6 X2 h2 => ?_⟩
    obtain ⟨b1, g, hF2⟩ := h2
    obtain ⟨-, ht, hM2⟩ := b1 e
    exact nx_bz hD hF2 ht (by decide) hM2
theorem lw_regret {A : DA} {x y : Int32} {X X1 : St} {r5 : Int32} (hD : DInv X A) (hM : MInv X A) (h1 : (∃ r1 X0, (∃ r c, r < A.R ∧ c < A.C ∧ x = nI r ∧ y = nI c ∧ (us A.ra A.ca A.z r).testBit c = true ∧ r1 = i32 (xW A.ra A.ca A.z r c) ∧ DInv X0 A ∧ Fr Dp X X0) ∧ r5 = 0 ∧ X1 = Yu X0 36 (vp_updL (Zu X0 36) 0 r1.toInt64)) ∨ (r5 = 1 ∧ X = X1 ∧ (inI x A.R && inI y A.C) = false) ∨ (r5 = 2 ∧ X = X1 ∧ inI x A.R = true ∧ inI y A.C = true ∧ ∀ r c, x = nI r → y = nI c → r < 10 → c < 10 → (us A.ra A.ca A.z r).testBit c = false)) : MInv X1 A ∧ ∀ (r6 : Int32) (X2 : St), (((inI x A.R && inI y A.C) = false → r6 = 0 ∧ Zm X2 37 0 = 1 ∧ MInv X2 A) ∧ (∀ r c, r < A.R → c < A.C → x = nI r → y = nI c → ((us A.ra A.ca A.z r).testBit c = false → r6 = 0 ∧ Zm X2 37 0 = 2 ∧ MInv X2 A) ∧ ((us A.ra A.ca A.z r).testBit c = true → r6 = i32 (xW A.ra A.ca A.z r c) ∧ Zm X2 37 0 = 0 ∧ MInv X2 A)) ∧ Fr Mp X1 X2) → NxI r5 r6 X2 := by
  rcases h1 with ⟨r1, X0, ⟨r, c, hr, hc, rfl, rfl, hz, rfl, hD0, hF0⟩, rfl, rfl⟩ | ⟨rfl, rfl, e⟩ | ⟨rfl, rfl, ⟨e1, e2, e3⟩⟩
  · refine ⟨mi_o _ hM hF0, fun r6 X2 h2 => ?_⟩
    obtain ⟨b1, g, hF2⟩ := h2
    obtain ⟨e6, ht, hM2⟩ := (g r c hr hc rfl rfl).2 hz
    exact nx_i hD0 e6 hF2 ht hM2
  · refine ⟨hM, fun r6 X2 h2 => ?_⟩
    obtain ⟨b1, g, hF2⟩ := h2
    obtain ⟨-, ht, hM2⟩ := b1 e
    exact nx_bi hD hF2 ht (by decide) hM2
  · refine ⟨hM, fun r6 X2 h2 => ?_⟩
    obtain ⟨r, hr, rfl⟩ := inI_t e1
    obtain ⟨c, hc, rfl⟩ := inI_t e2
    obtain ⟨b1, g, hF2⟩ := h2
    obtain ⟨-, ht, hM2⟩ := (g r c hr hc rfl rfl).1 (e3 r c rfl rfl (by have := hD.ok.R; omega) (by have := hD.ok.C; omega))
    exact nx_bi hD hF2 ht (by decide) hM2
theorem lw_loss {A : DA} {x y : Int32} {X X1 : St} {r5 : Int32} (hD : DInv X A) (hM : MInv X A) (h1 : (∃ r1 X0, (∃ r c, r < A.R ∧ c < A.C ∧ x = nI r ∧ y = nI c ∧ r1 = i32 (xO A.ra A.ca A.z r c) ∧ DInv X0 A ∧ Fr Dp X X0) ∧ r5 = 0 ∧ X1 = Yu X0 36 (vp_updL (Zu X0 36) 0 r1.toInt64)) ∨ (r5 = 1 ∧ X = X1 ∧ (inI x A.R && inI y A.C) = false)) : MInv X1 A ∧ ∀ (r6 : Int32) (X2 : St), (((inI x A.R && inI y A.C) = false → r6 = 0 ∧ Zm X2 37 0 = 1 ∧ MInv X2 A) ∧ (∀ r c, r < A.R → c < A.C → x = nI r → y = nI c → r6 = i32 (xO A.ra A.ca A.z r c) ∧ Zm X2 37 0 = 0 ∧ MInv X2 A) ∧ Fr Mp X1 X2) → NxI r5 r6 X2 := by
  rcases h1 with ⟨r1, X0, ⟨r, c, hr, hc, rfl, rfl, rfl, hD0, hF0⟩, rfl, rfl⟩ | ⟨rfl, rfl, e⟩
  · refine ⟨mi_o _ hM hF0, fun r6 X2 h2 => ?_⟩
    obtain ⟨b1, g, hF2⟩ := h2
    obtain ⟨e6, ht, hM2⟩ := g r c hr hc rfl rfl
    exact nx_i hD0 e6 hF2 ht hM2
  · refine ⟨hM, fun r6 X2 h2 => ?_⟩
    obtain ⟨b1, g, hF2⟩ := h2
    obtain ⟨-, ht, hM2⟩ := b1 e
    exact nx_bi hD hF2 ht (by decide) hM2
theorem lw_greatestCost {A : DA} {x y : Int32} {X X1 : St} {r5 : Int32} (hD : DInv X A) (hM : MInv X A) (h1 : (∃ r1 X0, (∃ r c, r < A.R ∧ c < A.C ∧ x = nI r ∧ y = nI c ∧ (us A.ra A.ca A.z r).testBit c = true ∧ r1 = i32 (gcf (A.z (10 * r + c)) (xW A.ra A.ca A.z r c) (xO A.ra A.ca A.z r c)) ∧ DInv X0 A ∧ Fr Dp X X0) ∧ r5 = 0 ∧ X1 = Yu X0 36 (vp_updL (Zu X0 36) 0 r1.toInt64)) ∨ (r5 = 1 ∧ X = X1 ∧ (inI x A.R && inI y A.C) = false) ∨ (r5 = 2 ∧ X = X1 ∧ inI x A.R = true ∧ inI y A.C = true ∧ ∀ r c, x = nI r → y = nI c → r < 10 → c < 10 → (us A.ra A.ca A.z r).testBit c = false)) : MInv X1 A ∧ ∀ (r6 : Int32) (X2 : St), (((inI x A.R && inI y A.C) = false → r6 = 0 ∧ Zm X2 37 0 = 1 ∧ MInv X2 A) ∧ (∀ r c, r < A.R → c < A.C → x = nI r → y = nI c → ((us A.ra A.ca A.z r).testBit c = false → r6 = 0 ∧ Zm X2 37 0 = 2 ∧ MInv X2 A) ∧ ((us A.ra A.ca A.z r).testBit c = true → r6 = i32 (gcf (A.z (10 * r + c)) (xW A.ra A.ca A.z r c) (xO A.ra A.ca A.z r c)) ∧ Zm X2 37 0 = 0 ∧ MInv X2 A)) ∧ Fr Mp X1 X2) → NxI r5 r6 X2 := by
  rcases h1 with ⟨r1, X0, ⟨r, c, hr, hc, rfl, rfl, hz, rfl, hD0, hF0⟩, rfl, rfl⟩ | ⟨rfl, rfl, e⟩ | ⟨rfl, rfl, ⟨e1, e2, e3⟩⟩
  · refine ⟨mi_o _ hM hF0, fun r6 X2 h2 => ?_⟩
    obtain ⟨b1, g, hF2⟩ := h2
    obtain ⟨e6, ht, hM2⟩ := (g r c hr hc rfl rfl).2 hz
    exact nx_i hD0 e6 hF2 ht hM2
  · refine ⟨hM, fun r6 X2 h2 => ?_⟩
    obtain ⟨b1, g, hF2⟩ := h2
    obtain ⟨-, ht, hM2⟩ := b1 e
    exact nx_bi hD hF2 ht (by decide) hM2
  · refine ⟨hM, fun r6 X2 h2 => ?_⟩
    obtain ⟨r, hr, rfl⟩ := inI_t e1
    obtain ⟨c, hc, rfl⟩ := inI_t e2
    obtain ⟨b1, g, hF2⟩ := h2
    obtain ⟨-, ht, hM2⟩ := (g r c hr hc rfl rfl).1 (e3 r c rfl rfl (by have := hD.ok.R; omega) (by have := hD.ok.C; omega))
    exact nx_bi hD hF2 ht (by decide) hM2
theorem lw_rank {A : DA} {x : Int32} {X X1 : St} {r5 : Int32} (hD : DInv X A) (hM : MInv X A) (h1 : (∃ r1 X0, (∃ n, 1 ≤ n ∧ n ≤ 30 ∧ x = nI n ∧ r1 = nI (rankB A.ra A.ca A.z n (Ls A.ra A.ca A.z 10 A.ca) 10).length ∧ DInv X0 (A.lis (rankB A.ra A.ca A.z n (Ls A.ra A.ca A.z 10 A.ca) 10)) ∧ Fr Dp X X0) ∧ r5 = 0 ∧ X1 = Yu X0 36 (vp_updL (Zu X0 36) 0 r1.toInt64)) ∨ (r5 = 1 ∧ X = X1 ∧ inL x = false)) : MInv X1 A ∧ ∀ (r6 : Int32) (X2 : St), ((inL x = false → r6 = 0 ∧ Zm X2 37 0 = 1 ∧ MInv X2 A) ∧ (∀ n, 1 ≤ n → n ≤ 30 → x = nI n → r6 = nI (rankB A.ra A.ca A.z n (Ls A.ra A.ca A.z 10 A.ca) 10).length ∧ Zm X2 37 0 = 0 ∧ MInv X2 (A.lis (rankB A.ra A.ca A.z n (Ls A.ra A.ca A.z 10 A.ca) 10))) ∧ Fr Mp X1 X2) → NxI r5 r6 X2 := by
  rcases h1 with ⟨r1, X0, ⟨n, h1n, h30, rfl, rfl, hD0, hF0⟩, rfl, rfl⟩ | ⟨rfl, rfl, e⟩
  · refine ⟨mi_o _ hM hF0, fun r6 X2 h2 => ?_⟩
    obtain ⟨b1, g, hF2⟩ := h2
    obtain ⟨e6, ht, hM2⟩ := g n h1n h30 rfl
    exact nx_i hD0 e6 hF2 ht hM2
  · refine ⟨hM, fun r6 X2 h2 => ?_⟩
    obtain ⟨b1, g, hF2⟩ := h2
    obtain ⟨-, ht, hM2⟩ := b1 e
    exact nx_bi hD hF2 ht (by decide) hM2
theorem lw_rankedCost {A : DA} {x : Int32} {X X1 : St} {r5 : Int32} (hD : DInv X A) (hM : MInv X A) (h1 : (∃ r1 X0, (∃ (i : Nat) (e : BE), A.rl[i]? = some e ∧ x = nI i ∧ r1 = i32 (csf e.1) ∧ X = X0) ∧ r5 = 0 ∧ X1 = Yu X0 36 (vp_updL (Zu X0 36) 0 r1.toInt64)) ∨ (r5 = 1 ∧ X = X1 ∧ inI x A.rl.length = false)) : MInv X1 A ∧ ∀ (r6 : Int32) (X2 : St), ((inI x A.rl.length = false → r6 = 0 ∧ Zm X2 37 0 = 1 ∧ MInv X2 A) ∧ (∀ (i : Nat) (e : BE), A.rl[i]? = some e → x = nI i → r6 = i32 (csf e.1) ∧ Zm X2 37 0 = 0 ∧ MInv X2 A) ∧ Fr Mp X1 X2) → NxI r5 r6 X2 := by
  rcases h1 with ⟨r1, X0, ⟨i, e9, hi, rfl, rfl, rfl⟩, rfl, rfl⟩ | ⟨rfl, rfl, e⟩
  · refine ⟨mi_o _ hM Fr.rf, fun r6 X2 h2 => ?_⟩
    obtain ⟨b1, g, hF2⟩ := h2
    obtain ⟨e6, ht, hM2⟩ := g i e9 hi rfl
    exact nx_i hD e6 hF2 ht hM2
  · refine ⟨hM, fun r6 X2 h2 => ?_⟩
    obtain ⟨b1, g, hF2⟩ := h2
    obtain ⟨-, ht, hM2⟩ := b1 e
    exact nx_bi hD hF2 ht (by decide) hM2
theorem lw_rankedColumn {A : DA} {x y : Int32} {X X1 : St} {r5 : Int32} (hD : DInv X A) (hM : MInv X A) (h1 : (∃ r1 X0, (∃ (i : Nat) (e : BE) (r : Nat), A.rl[i]? = some e ∧ x = nI i ∧ r < A.R ∧ y = nI r ∧ r1 = clf e.2.1 r ∧ X = X0) ∧ r5 = 0 ∧ X1 = Yu X0 36 (vp_updL (Zu X0 36) 0 r1.toInt64)) ∨ (r5 = 1 ∧ X = X1 ∧ (inI x A.rl.length && inI y A.R) = false)) : MInv X1 A ∧ ∀ (r6 : Int32) (X2 : St), (((inI x A.rl.length && inI y A.R) = false → r6 = 0 ∧ Zm X2 37 0 = 1 ∧ MInv X2 A) ∧ (∀ (i : Nat) (e : BE) (r : Nat), A.rl[i]? = some e → r < A.R → x = nI i → y = nI r → r6 = clf e.2.1 r ∧ Zm X2 37 0 = 0 ∧ MInv X2 A) ∧ Fr Mp X1 X2) → NxI r5 r6 X2 := by
  rcases h1 with ⟨r1, X0, ⟨i, e9, r, hi, rfl, hr, rfl, rfl, rfl⟩, rfl, rfl⟩ | ⟨rfl, rfl, e⟩
  · refine ⟨mi_o _ hM Fr.rf, fun r6 X2 h2 => ?_⟩
    obtain ⟨b1, g, hF2⟩ := h2
    obtain ⟨e6, ht, hM2⟩ := g i e9 r hi hr rfl rfl
    exact nx_i hD e6 hF2 ht hM2
  · refine ⟨hM, fun r6 X2 h2 => ?_⟩
    obtain ⟨b1, g, hF2⟩ := h2
    obtain ⟨-, ht, hM2⟩ := b1 e
    exact nx_bi hD hF2 ht (by decide) hM2
theorem lw_push {A : DA} {X X1 : St} {r5 : Int32} (hD : DInv X A) (hM : MInv X A) (h1 : (∃ r1 X0, (A.lv.length < 8 ∧ r1 = nI (A.lv.length + 1) ∧ DInv X0 (A.lvl (A.lv ++ [(A.ra, A.ca, A.z)])) ∧ Fr Dp X X0) ∧ r5 = 0 ∧ X1 = Yu X0 36 (vp_updL (Zu X0 36) 0 r1.toInt64)) ∨ (r5 = 1 ∧ X = X1 ∧ A.lv.length = 8)) : MInv X1 A ∧ ∀ (r6 : Int32) (X2 : St), ((A.lv.length = 8 → r6 = 0 ∧ Zm X2 37 0 = 1 ∧ MInv X2 A) ∧ (A.lv.length < 8 → r6 = nI (A.lv.length + 1) ∧ Zm X2 37 0 = 0 ∧ MInv X2 (A.lvl (A.lv ++ [(A.ra, A.ca, A.z)]))) ∧ Fr Mp X1 X2) → NxI r5 r6 X2 := by
  rcases h1 with ⟨r1, X0, ⟨hl, rfl, hD0, hF0⟩, rfl, rfl⟩ | ⟨rfl, rfl, e⟩
  · refine ⟨mi_o _ hM hF0, fun r6 X2 h2 => ?_⟩
    obtain ⟨b1, g, hF2⟩ := h2
    obtain ⟨e6, ht, hM2⟩ := g hl
    exact nx_i hD0 e6 hF2 ht hM2
  · refine ⟨hM, fun r6 X2 h2 => ?_⟩
    obtain ⟨b1, g, hF2⟩ := h2
    obtain ⟨-, ht, hM2⟩ := b1 e
    exact nx_bi hD hF2 ht (by decide) hM2
theorem lw_pop {A : DA} {X X1 : St} {r5 : Int32} (hD : DInv X A) (hM : MInv X A) (h1 : (∃ r1 X0, (∃ (n : Nat) (x : Nat × Nat × (Nat → Int)), A.lv.length = n + 1 ∧ A.lv[n]? = some x ∧ r1 = nI n ∧ DInv X0 ((A.lvl (A.lv.take n)).tab A.R A.C x.1 x.2.1 x.2.2) ∧ Fr Dp X X0) ∧ r5 = 0 ∧ X1 = Yu X0 36 (vp_updL (Zu X0 36) 0 r1.toInt64)) ∨ (r5 = 1 ∧ X = X1 ∧ A.lv.length = 0)) : MInv X1 A ∧ ∀ (r6 : Int32) (X2 : St), ((A.lv.length = 0 → r6 = 0 ∧ Zm X2 37 0 = 1 ∧ MInv X2 A) ∧ (∀ (n : Nat) (x : Nat × Nat × (Nat → Int)), A.lv.length = n + 1 → A.lv[n]? = some x → r6 = nI n ∧ Zm X2 37 0 = 0 ∧ MInv X2 ((A.lvl (A.lv.take n)).tab A.R A.C x.1 x.2.1 x.2.2)) ∧ Fr Mp X1 X2) → NxI r5 r6 X2 := by
  rcases h1 with ⟨r1, X0, ⟨n, x, hn, hx, rfl, hD0, hF0⟩, rfl, rfl⟩ | ⟨rfl, rfl, e⟩
  · refine ⟨mi_o _ hM hF0, fun r6 X2 h2 => ?_⟩
    obtain ⟨b1, g, hF2⟩ := h2
    obtain ⟨e6, ht, hM2⟩ := g n x hn hx
    exact nx_i hD0 e6 hF2 ht hM2
  · refine ⟨hM, fun r6 X2 h2 => ?_⟩
    obtain ⟨b1, g, hF2⟩ := h2
    obtain ⟨-, ht, hM2⟩ := b1 e
    exact nx_bi hD hF2 ht (by decide) hM2
