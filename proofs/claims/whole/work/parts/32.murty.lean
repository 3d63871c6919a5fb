/-! ===== the reference's list of the best ===== -/
/-- the first of the best, as a function of the row -/
def ga (ch : Nat → Nat) (s : Nat → Nat → Int) : Nat → Nat := fun r => gcol ch s 10 r (gtk ch s 10 r)
theorem tkn_ga {ch : Nat → Nat} {s : Nat → Nat → Int} : ∀ r, tkn (ga ch s) r = gtk ch s 10 r
  | 0 => rfl
  | r + 1 => by rw [tkn, gtk, tkn_ga r]; rfl
theorem gT_lb {ch : Nat → Nat} {s : Nat → Nat → Int} {a : Nat → Nat} (h : Vd ch a 10) : ∀ j, j ≤ 10 → ∃ p, gT ch s 10 j (tkn a (10 - j)) = some p ∧ pre s a (10 - j) + p.1 ≤ pre s a 10
  | 0, _ => ⟨(0, 1), rfl, by show pre s a 10 + 0 ≤ _; omega⟩
  | j + 1, hj => by
    obtain ⟨p, h1, h2⟩ := gT_lb h j (by omega)
    have er : 10 - j = 10 - (j + 1) + 1 := by omega
    generalize 10 - (j + 1) = r at er
    have hv := h r (by omega)
    rw [er, tkn] at h1
    rw [er, pre] at h2
    obtain ⟨p', h3, h4⟩ := rowF_le (s := s r) (nx := gT ch s 10 j) 11 (a r) p hv.1 hv.2 h1
    refine ⟨p', ?_, by omega⟩
    rw [gT, show 10 - (j + 1) = r by omega]
    exact h3
theorem ga_ok {ch : Nat → Nat} {s : Nat → Nat → Int} {p : Int × Int32} (h : gT ch s 10 10 0 = some p) : ∀ r, r ≤ 10 → (∃ q, gT ch s 10 (10 - r) (tkn (ga ch s) r) = some q ∧ pre s (ga ch s) r + q.1 = p.1) ∧ Vd ch (ga ch s) r
  | 0, _ => ⟨⟨p, h, by show 0 + p.1 = p.1; omega⟩, fun q hq => absurd hq (Nat.not_lt_zero q)⟩
  | r + 1, hr => by
    obtain ⟨⟨q, h1, h2⟩, h3⟩ := ga_ok h r (by omega)
    rw [tkn_ga] at h1
    obtain ⟨g1, g2⟩ := gcol_ok (by omega) h1
    obtain ⟨k1, a, b, k2, k3, k4⟩ := gopt_i.mp g2
    rw [h1] at k3
    cases k3
    refine ⟨⟨a, ?_, ?_⟩, fun i hi => ?_⟩
    · rw [tkn, tkn_ga]; exact k2
    · rw [pre]
      have : vof (s r) (ga ch s r) + a.1 = q.1 := k4
      omega
    · by_cases e : i = r
      · subst e
        rw [tkn_ga]
        exact ⟨g1, k1⟩
      · exact h3 i (by omega)
theorem ga_sc {ch : Nat → Nat} {s : Nat → Nat → Int} {p : Int × Int32} (h : gT ch s 10 10 0 = some p) : Vd ch (ga ch s) 10 ∧ pre s (ga ch s) 10 = p.1 := by
  obtain ⟨⟨q, h1, h2⟩, h3⟩ := ga_ok h 10 (Nat.le_refl _)
  have h1 : some ((0 : Int), (1 : Int32)) = some q := h1
  cases h1
  exact ⟨h3, by have h2 : pre s (ga ch s) 10 + 0 = p.1 := h2; omega⟩
theorem ga_first {ch : Nat → Nat} {s : Nat → Nat → Int} {p : Int × Int32} (h : gT ch s 10 10 0 = some p) {b : Nat → Nat} (hb : Vd ch b 10) (he : pre s b 10 = p.1) : ∀ n, n ≤ 10 → agr (ga ch s) b n ∨ ∃ r, r < n ∧ agr (ga ch s) b r ∧ ga ch s r < b r
  | 0, _ => Or.inl (fun r hr => absurd hr (Nat.not_lt_zero r))
  | n + 1, hn => by
    rcases ga_first h hb he n (by omega) with g | ⟨r, h1, h2⟩
    · by_cases e : ga ch s n = b n
      · refine Or.inl (fun r hr => ?_)
        by_cases e2 : r = n
        · rw [e2]; exact e
        · exact g r (by omega)
      · refine Or.inr ⟨n, Nat.lt_succ_self n, g, ?_⟩
        rcases Nat.lt_or_ge (ga ch s n) (b n) with k | k
        · exact k
        · exfalso
          obtain ⟨⟨q, h1, h2⟩, _⟩ := ga_ok h n (by omega)
          obtain ⟨q', h3, h4⟩ := gT_lb (s := s) hb (10 - (n + 1)) (by omega)
          rw [show 10 - (10 - (n + 1)) = n + 1 by omega, tkn] at h3
          rw [show 10 - (10 - (n + 1)) = n + 1 by omega, pre] at h4
          have hv := hb n (by omega)
          have hT := agr_tkn n g
          have hP := agr_pre (s := s) n g
          rw [← hT] at h3 hv
          obtain ⟨q2, h5, h6⟩ := rowF_le (s := s n) (nx := gT ch s 10 (10 - (n + 1))) 11 (b n) q' hv.1 hv.2 h3
          rw [← gT_row (by omega), h1] at h5
          cases h5
          have hg : gopt ch s 10 n (gtk ch s 10 n) (b n) = true := by
            rw [← tkn_ga]
            exact gopt_i.mpr ⟨hv.2, q', q, h3, h1, by omega⟩
          have hno := ff_no (fun c => gopt ch s 10 n (gtk ch s 10 n) c) 11 (b n) (show b n < ga ch s n by omega)
          rw [hg] at hno
          cases hno
    · exact Or.inr ⟨r, by omega, h2⟩
/-- a part: how many rows are fixed, which choices the next one must not take, its first assignment -/
abbrev PT : Type := Nat × Nat × (Nat → Nat)
def Fl (A : DA) (b : Nat → Nat) : Prop := Vd (chU A.ra A.ca A.z) b 10 ∧ szf (pre (sc A.z) b 10) = szf (Ls A.ra A.ca A.z 10 A.ca)
def PSet (A : DA) (f E : Nat) (a b : Nat → Nat) : Prop := Fl A b ∧ agr a b f ∧ (f < A.R → E.testBit (b f) = false)
def chP (A : DA) (f E : Nat) (a : Nat → Nat) : Nat → Nat := fun r => if r < f then 2 ^ a r else if r = f ∧ r < A.R then andn (chU A.ra A.ca A.z r) E else chU A.ra A.ca A.z r
theorem pow_bit {c d : Nat} : (2 ^ c).testBit d = true ↔ d = c := by
  rw [Nat.testBit_two_pow, decide_eq_true_eq]
  exact ⟨fun h => h.symm, fun h => h.symm⟩
theorem chP_Vd {A : DA} {f E : Nat} {a b : Nat → Nat} (hf : f ≤ A.R) (hR : A.R ≤ 10) (ha : Vd (chU A.ra A.ca A.z) a f) : Vd (chP A f E a) b 10 ↔ (Vd (chU A.ra A.ca A.z) b 10 ∧ agr a b f ∧ (f < A.R → E.testBit (b f) = false)) := by
  constructor
  · intro h
    have hag : agr a b f := fun r hr => by
      have h1 := (h r (by omega)).2.1
      rw [chP, if_pos hr] at h1
      exact (pow_bit.mp h1).symm
    refine ⟨fun r hr => ?_, hag, fun hfR => ?_⟩
    · obtain ⟨h1, h2, h3⟩ := h r hr
      by_cases e : r < f
      · exact agr_Vd hag ha r e
      · rw [chP, if_neg e] at h2
        by_cases e2 : r = f ∧ r < A.R
        · rw [if_pos e2, andn_bit, Bool.and_eq_true] at h2
          exact ⟨h1, h2.1, h3⟩
        · rw [if_neg e2] at h2
          exact ⟨h1, h2, h3⟩
    · have h1 := (h f (by omega)).2.1
      rw [chP, if_neg (Nat.lt_irrefl f), if_pos ⟨rfl, hfR⟩, andn_bit, Bool.and_eq_true, Bool.not_eq_true'] at h1
      exact h1.2
  · rintro ⟨h1, h2, h3⟩ r hr
    obtain ⟨k1, k2, k3⟩ := h1 r hr
    refine ⟨k1, ?_, k3⟩
    rw [chP]
    by_cases e : r < f
    · rw [if_pos e, pow_bit, h2 r e]
    · rw [if_neg e]
      by_cases e2 : r = f ∧ r < A.R
      · obtain ⟨rfl, e3⟩ := e2
        rw [if_pos ⟨rfl, e3⟩, andn_bit, k2, h3 e3]; rfl
      · rw [if_neg e2]; exact k2
theorem okO_z {A : DA} (hz : ∀ k, k < 100 → zok (A.z k)) {ch : Nat → Nat} : ∀ k, k ≤ 10 → ∀ U, okO k (gT ch (sc A.z) 10 k U)
  | 0, _, U => fun p hp => by cases hp; exact kv_0 0
  | k + 1, hk, U => by
    rw [gT]
    exact okO_row (fun c hc _ => ⟨A.z (10 * (10 - (k + 1)) + c), rfl, hz _ (by omega)⟩) (okO_z hz k (by omega)) 11 (Nat.le_refl _)
theorem Fl_le {A : DA} {b : Nat → Nat} (h : Vd (chU A.ra A.ca A.z) b 10) : Ls A.ra A.ca A.z 10 A.ca ≤ pre (sc A.z) b 10 := by
  have := Ls_min 10 (Nat.le_refl _) h
  have h2 : (bEn A.ra A.ca A.z b 10).1 = pre (sc A.z) b 10 + 0 := rfl
  omega
theorem bEn_10 {ra ca : Nat} {z : Nat → Int} {b : Nat → Nat} : (bEn ra ca z b 10).1 = pre (sc z) b 10 := by
  show pre (sc z) b 10 + 0 = _
  omega
theorem befE_10 {ra ca : Nat} {z : Nat → Int} {a b : Nat → Nat} : befE (bEn ra ca z a 10) (bEn ra ca z b 10) = true ↔ (pre (sc z) a 10 < pre (sc z) b 10 ∨ (pre (sc z) a 10 = pre (sc z) b 10 ∧ pth a 10 < pth b 10)) := by
  rw [befE, bef_i, bEn_10, bEn_10]
  exact Iff.rfl
/-- a part has full assignments just where its table says so; its first one is the table's -/
theorem part_o {A : DA} (h : AOk A) {f E : Nat} {a : Nat → Nat} (hf : f ≤ A.R) (ha : Vd (chU A.ra A.ca A.z) a f) : (¬ oS (gT (chP A f E a) (sc A.z) 10 10 0) = i32 (szf (Ls A.ra A.ca A.z 10 A.ca)) → ∀ b, ¬ PSet A f E a b) ∧ (oS (gT (chP A f E a) (sc A.z) 10 10 0) = i32 (szf (Ls A.ra A.ca A.z 10 A.ca)) → PSet A f E a (ga (chP A f E a) (sc A.z)) ∧ oC (gT (chP A f E a) (sc A.z) 10 10 0) = i32 (csf (pre (sc A.z) (ga (chP A f E a) (sc A.z)) 10)) ∧ (∃ p, gT (chP A f E a) (sc A.z) 10 10 0 = some p) ∧ ∀ b, PSet A f E a b → agr (ga (chP A f E a) (sc A.z)) b 10 ∨ befE (bEn A.ra A.ca A.z (ga (chP A f E a) (sc A.z)) 10) (bEn A.ra A.ca A.z b 10) = true) := by
  have hR := h.R
  have hz := h.t.2.2.1
  have hkL : kv 10 (Ls A.ra A.ca A.z 10 A.ca) := by
    have h1 := gT_LB (ra := A.ra) (ca := A.ca) (z := A.z) 10 0 (Nat.le_refl _)
    rw [andn_0] at h1
    exact okO_z hz 10 (Nat.le_refl _) 0 _ h1
  obtain ⟨s, c, h1, h2, h3, h4, h5, h6, h7⟩ := kv_s hkL (Nat.le_refl _)
  have hlow : ∀ b, PSet A f E a b → ∃ p, gT (chP A f E a) (sc A.z) 10 10 0 = some p ∧ p.1 ≤ pre (sc A.z) b 10 ∧ szf p.1 = szf (Ls A.ra A.ca A.z 10 A.ca) := fun b hb => by
    have hv := (chP_Vd (E := E) hf hR ha).mpr ⟨hb.1.1, hb.2⟩
    obtain ⟨p, k1, k2⟩ := gT_lb (s := sc A.z) hv 10 (Nat.le_refl _)
    have k1 : gT (chP A f E a) (sc A.z) 10 10 0 = some p := k1
    have k2 : 0 + p.1 ≤ pre (sc A.z) b 10 := k2
    refine ⟨p, k1, by omega, ?_⟩
    obtain ⟨g1, g2⟩ := ga_sc k1
    have k3 := Fl_le ((chP_Vd hf hR ha).mp g1).1
    rw [g2] at k3
    have k4 := szf_anti k3
    have k5 := szf_anti (show p.1 ≤ pre (sc A.z) b 10 by omega)
    have k6 := hb.1.2
    omega
  refine ⟨fun hn b hb => ?_, fun hy => ?_⟩
  · obtain ⟨p, k1, _, k3⟩ := hlow b hb
    rw [k1] at hn
    exact hn (congrArg i32 k3)
  · cases ho : gT (chP A f E a) (sc A.z) 10 10 0 with
    | none =>
      rw [ho] at hy
      have hy : i32 (-100) = i32 (szf (Ls A.ra A.ca A.z 10 A.ca)) := hy
      have := (i32_eq (by omega) (by rw [h2]; omega)).mp hy
      rw [h2] at this
      omega
    | some p =>
      rw [ho] at hy
      have hpk := okO_z hz 10 (Nat.le_refl _) 0 p ho
      obtain ⟨s', c', p1, p2, p3, p4, p5, p6, p7⟩ := kv_s hpk (Nat.le_refl _)
      have hsz : szf p.1 = szf (Ls A.ra A.ca A.z 10 A.ca) := (i32_eq (by rw [p2]; omega) (by rw [h2]; omega)).mp hy
      obtain ⟨g1, g2⟩ := ga_sc ho
      obtain ⟨g3, g4⟩ := (chP_Vd hf hR ha).mp g1
      refine ⟨⟨⟨g3, by rw [g2]; exact hsz⟩, g4⟩, by rw [g2]; rfl, ⟨p, rfl⟩, fun b hb => ?_⟩
      obtain ⟨q, q1, q2, _⟩ := hlow b hb
      rw [ho] at q1
      cases q1
      rcases Int.lt_or_le p.1 (pre (sc A.z) b 10) with g | g
      · exact Or.inr (befE_10.mpr (Or.inl (by omega)))
      · have hv := (chP_Vd (E := E) hf hR ha).mpr ⟨hb.1.1, hb.2⟩
        rcases ga_first ho hv (by omega) 10 (Nat.le_refl _) with k | ⟨r, k1, k2, k3⟩
        · exact Or.inl k
        · refine Or.inr (befE_10.mpr (Or.inr ⟨by omega, ?_⟩))
          have := pth_lt k2 k3 (hv r k1).1 (9 - r)
          rw [show r + 1 + (9 - r) = 10 by omega] at this
          exact this
theorem agr_fl {A : DA} {a b : Nat → Nat} (h : agr a b 10) (ha : Fl A a) : Fl A b := ⟨agr_Vd h ha.1, by rw [← agr_pre 10 h]; exact ha.2⟩
theorem agr_ps {A : DA} {f E : Nat} {a b c : Nat → Nat} (hf : f ≤ A.R) (hR : A.R ≤ 10) (h : agr b c 10) (hb : PSet A f E a b) : PSet A f E a c := ⟨agr_fl h hb.1, fun r hr => (hb.2.1 r hr).trans (h r (by omega)), fun hfR => by rw [← h f (by omega)]; exact hb.2.2 hfR⟩
/-- where the listing stands: listed Q, parts P, pend being still to be added -/
def VF (A : DA) (e : BE) : Prop := ∃ a, Fl A a ∧ e = bEn A.ra A.ca A.z a 10
def POk (A : DA) (p : PT) : Prop := p.1 ≤ A.R ∧ p.2.1 < 2048 ∧ PSet A p.1 p.2.1 p.2.2 p.2.2 ∧ ∀ b, PSet A p.1 p.2.1 p.2.2 b → agr p.2.2 b 10 ∨ befE (bEn A.ra A.ca A.z p.2.2 10) (bEn A.ra A.ca A.z b 10) = true
def MuI (A : DA) (Q : List (Nat → Nat)) (P : List PT) (pend : (Nat → Nat) → Prop) : Prop :=
  (∀ (i : Nat) (p : PT), P[i]? = some p → POk A p) ∧ (∀ (i j : Nat) (p q : PT), P[i]? = some p → P[j]? = some q → i ≠ j → ∀ b, PSet A p.1 p.2.1 p.2.2 b → ¬ PSet A q.1 q.2.1 q.2.2 b) ∧
  (∀ (i : Nat) (p : PT), P[i]? = some p → ∀ b, PSet A p.1 p.2.1 p.2.2 b → ¬ pend b ∧ ∀ a, a ∈ Q → ¬ agr a b 10) ∧
  (∀ b, pend b → Fl A b ∧ ∀ a, a ∈ Q → ¬ agr a b 10) ∧ (∀ a, a ∈ Q → Fl A a) ∧ Grd (VF A) (Q.map (fun a => bEn A.ra A.ca A.z a 10)) ∧
  ∀ b, Fl A b → (∃ a, a ∈ Q ∧ agr a b 10) ∨ (∃ (i : Nat) (p : PT), P[i]? = some p ∧ PSet A p.1 p.2.1 p.2.2 b) ∨ pend b
theorem MuI_0 (A : DA) : MuI A [] [] (fun b => PSet A 0 0 (fun _ => 0) b) := ⟨fun i p h => (by cases h), fun i j p q h => (by cases h), fun i p h => (by cases h), fun b h => ⟨h.1, fun a ha => (by cases ha)⟩, fun a ha => (by cases ha), fun i e h => (by cases h), fun b hb => Or.inr (Or.inr ⟨hb, fun r hr => absurd hr (Nat.not_lt_zero r), fun _ => Nat.zero_testBit _⟩)⟩
theorem MuI_cong {A : DA} {Q : List (Nat → Nat)} {P : List PT} {pend pend' : (Nat → Nat) → Prop} (h : MuI A Q P pend) (hp : ∀ b, pend b ↔ pend' b) : MuI A Q P pend' := by
  obtain ⟨h1, h2, h3, h4, h5, h6, h7⟩ := h
  exact ⟨h1, h2, fun i p hi b hb => ⟨fun q => (h3 i p hi b hb).1 ((hp b).mpr q), (h3 i p hi b hb).2⟩, fun b hb => h4 b ((hp b).mpr hb), h5, h6, fun b hb => (h7 b hb).imp id (fun q => q.imp id (hp b).mp)⟩
/-- a part is added, or it has no full assignment -/
def addP (A : DA) (f E : Nat) (a : Nat → Nat) (P : List PT) : List PT := if oS (gT (chP A f E a) (sc A.z) 10 10 0) = i32 (szf (Ls A.ra A.ca A.z 10 A.ca)) then P ++ [(f, E, ga (chP A f E a) (sc A.z))] else P
theorem ps_ga {A : DA} {f E : Nat} {a g b : Nat → Nat} (h : agr a g f) : PSet A f E g b ↔ PSet A f E a b := ⟨fun k => ⟨k.1, fun r hr => (h r hr).trans (k.2.1 r hr), k.2.2⟩, fun k => ⟨k.1, fun r hr => (h r hr).symm.trans (k.2.1 r hr), k.2.2⟩⟩
theorem MuI_add {A : DA} (h : AOk A) {Q : List (Nat → Nat)} {P : List PT} {pend pend' : (Nat → Nat) → Prop} {f E : Nat} {a : Nat → Nat} (hM : MuI A Q P pend) (hf : f ≤ A.R) (hE : E < 2048) (ha : Vd (chU A.ra A.ca A.z) a f) (hp : ∀ b, pend b ↔ (PSet A f E a b ∨ pend' b)) (hd : ∀ b, PSet A f E a b → ¬ pend' b) : MuI A Q (addP A f E a P) pend' := by
  obtain ⟨h1, h2, h3, h4, h5, h6, h7⟩ := hM
  obtain ⟨o1, o2⟩ := part_o h (E := E) hf ha
  unfold addP
  split
  · rename_i hy
    obtain ⟨g1, _, _, g2⟩ := o2 hy
    generalize ga (chP A f E a) (sc A.z) = g9 at g1 g2 ⊢
    have hag : ∀ b, PSet A f E (g9) b ↔ PSet A f E a b := fun b => ps_ga g1.2.1
    have hget : ∀ (i : Nat) (p : PT), (P ++ [(f, E, g9)])[i]? = some p → P[i]? = some p ∨ (i = P.length ∧ p = (f, E, g9)) := fun i p hi => by
      rcases Nat.lt_or_ge i P.length with g | g
      · rw [List.getElem?_append_left g] at hi
        exact Or.inl hi
      · rw [List.getElem?_append_right g] at hi
        rcases Nat.eq_or_lt_of_le g with g3 | g3
        · rw [← g3, Nat.sub_self, List.getElem?_cons_zero] at hi
          exact Or.inr ⟨g3.symm, (Option.some.inj hi).symm⟩
        · rw [List.getElem?_eq_none (by rw [List.length_singleton]; omega)] at hi
          cases hi
    refine ⟨fun i p hi => ?_, fun i j p q hi hj hij b hb hb2 => ?_, fun i p hi b hb => ?_, fun b hb => h4 b ((hp b).mpr (Or.inr hb)), h5, h6, fun b hb => ?_⟩
    · rcases hget i p hi with k | ⟨_, rfl⟩
      · exact h1 i p k
      · exact ⟨hf, hE, (hag _).mpr g1, fun b hb => g2 b ((hag b).mp hb)⟩
    · rcases hget i p hi with k | ⟨e1, rfl⟩
      · rcases hget j q hj with k2 | ⟨e2, rfl⟩
        · exact h2 i j p q k k2 hij b hb hb2
        · exact (h3 i p k b hb).1 ((hp b).mpr (Or.inl ((hag b).mp hb2)))
      · rcases hget j q hj with k2 | ⟨e2, rfl⟩
        · exact (h3 j q k2 b hb2).1 ((hp b).mpr (Or.inl ((hag b).mp hb)))
        · omega
    · rcases hget i p hi with k | ⟨_, rfl⟩
      · exact ⟨fun q => (h3 i p k b hb).1 ((hp b).mpr (Or.inr q)), (h3 i p k b hb).2⟩
      · exact ⟨hd b ((hag b).mp hb), (h4 b ((hp b).mpr (Or.inl ((hag b).mp hb)))).2⟩
    · rcases h7 b hb with k | ⟨i, p, k1, k2⟩ | k
      · exact Or.inl k
      · exact Or.inr (Or.inl ⟨i, p, by rw [List.getElem?_append_left (List.getElem?_eq_some_iff.mp k1).1]; exact k1, k2⟩)
      · rcases (hp b).mp k with k | k
        · exact Or.inr (Or.inl ⟨P.length, _, by rw [List.getElem?_append_right (Nat.le_refl _), Nat.sub_self, List.getElem?_cons_zero], (hag b).mpr k⟩)
        · exact Or.inr (Or.inr k)
  · rename_i hn
    have ho := o1 hn
    exact MuI_cong ⟨h1, h2, h3, h4, h5, h6, h7⟩ (fun b => ⟨fun q => ((hp b).mp q).resolve_left (ho b), fun q => (hp b).mpr (Or.inr q)⟩)
/-- a part is taken away: the last one comes to its place -/
def rmv (P : List PT) (i : Nat) (w : PT) : List PT := (P.set i w).take (P.length - 1)
theorem rmv_get {P : List PT} {i j : Nat} {w p : PT} (hi : i < P.length) (hw : P[P.length - 1]? = some w) (h : (rmv P i w)[j]? = some p) : ∃ k, P[k]? = some p ∧ k ≠ i ∧ (j = i → k = P.length - 1) ∧ (j ≠ i → k = j) ∧ j < P.length - 1 := by
  unfold rmv at h
  rw [List.getElem?_take] at h
  by_cases g : j < P.length - 1
  · rw [if_pos g] at h
    by_cases e : j = i
    · subst e
      rw [List.getElem?_set_self hi] at h
      cases h
      exact ⟨P.length - 1, hw, by omega, fun _ => rfl, fun q => absurd rfl q, g⟩
    · rw [List.getElem?_set_ne (fun q => e q.symm)] at h
      exact ⟨j, h, e, fun q => absurd q e, fun _ => rfl, g⟩
  · rw [if_neg g] at h; cases h
theorem rmv_in {P : List PT} {i k : Nat} {w p : PT} (hi : i < P.length) (hw : P[P.length - 1]? = some w) (h : P[k]? = some p) (hk : k ≠ i) : ∃ j : Nat, (rmv P i w)[j]? = some p := by
  have hl := (List.getElem?_eq_some_iff.mp h).1
  unfold rmv
  by_cases e : k = P.length - 1
  · subst e
    rw [hw] at h
    cases h
    exact ⟨i, by rw [List.getElem?_take, if_pos (by omega), List.getElem?_set_self hi]⟩
  · exact ⟨k, by rw [List.getElem?_take, if_pos (by omega), List.getElem?_set_ne (fun q => hk q.symm)]; exact h⟩
theorem bEn_inj {A : DA} {a b : Nat → Nat} (ha : Fl A a) (hb : Fl A b) (h : bEn A.ra A.ca A.z a 10 = bEn A.ra A.ca A.z b 10) : agr a b 10 := pth_eq 10 (fun r hr => ⟨(ha.1 r hr).1, (hb.1 r hr).1⟩) (congrArg (fun e : BE => e.2.1) h)
/-- the best part's first assignment is listed -/
theorem MuI_pick {A : DA} (h : AOk A) {Q : List (Nat → Nat)} {P : List PT} {i : Nat} {p w : PT} (hM : MuI A Q P (fun _ => False)) (hi : P[i]? = some p) (hw : P[P.length - 1]? = some w) (hb : ∀ (j : Nat) (q : PT), P[j]? = some q → j ≠ i → befE (bEn A.ra A.ca A.z p.2.2 10) (bEn A.ra A.ca A.z q.2.2 10) = true) : MuI A (Q ++ [p.2.2]) (rmv P i w) (fun b => PSet A p.1 p.2.1 p.2.2 b ∧ ¬ agr p.2.2 b 10) := by
  obtain ⟨h1, h2, h3, h4, h5, h6, h7⟩ := hM
  have hR := h.R
  have hil := (List.getElem?_eq_some_iff.mp hi).1
  have hp := h1 i p hi
  have hQ : ∀ a, a ∈ Q ++ [p.2.2] → a ∈ Q ∨ a = p.2.2 := fun a ha => by
    rcases List.mem_append.mp ha with k | k
    · exact Or.inl k
    · exact Or.inr (List.mem_singleton.mp k)
  refine ⟨fun j q hj => ?_, fun j k q r hj hk hjk b hb1 hb2 => ?_, fun j q hj b hb1 => ?_, fun b hb1 => ⟨hb1.1.1, fun a ha hag => ?_⟩, fun a ha => ?_, ?_, fun b hb1 => ?_⟩
  · obtain ⟨k, k1, _⟩ := rmv_get hil hw hj
    exact h1 k q k1
  · obtain ⟨k1, a1, a2, a3, a4, a5⟩ := rmv_get hil hw hj
    obtain ⟨k2, b1, b2, b3, b4, b5⟩ := rmv_get hil hw hk
    refine h2 k1 k2 q r a1 b1 (fun e => ?_) b hb1 hb2
    by_cases e1 : j = i
    · have := a3 e1
      have := b4 (by omega)
      omega
    · have := a4 e1
      by_cases e2 : k = i
      · have := b3 e2
        omega
      · have := b4 e2
        omega
  · obtain ⟨k, k1, k2, _⟩ := rmv_get hil hw hj
    have hdis := h2 k i q p k1 hi k2 b hb1
    refine ⟨fun g => hdis g.1, fun a ha hag => ?_⟩
    rcases hQ a ha with g | rfl
    · exact (h3 k q k1 b hb1).2 a g hag
    · exact hdis (agr_ps hp.1 hR hag hp.2.2.1)
  · rcases hQ a ha with g | rfl
    · exact (h3 i p hi b hb1.1).2 a g hag
    · exact hb1.2 hag
  · rcases hQ a ha with g | rfl
    · exact h5 a g
    · exact hp.2.2.1.1
  · intro j e hj
    rw [List.map_append, List.map_singleton] at hj ⊢
    rcases Nat.lt_or_ge j Q.length with g | g
    · rw [List.getElem?_append_left (by rw [List.length_map]; exact g)] at hj
      rw [List.take_append_of_le_length (by rw [List.length_map]; omega)]
      exact h6 j e hj
    · rw [List.getElem?_append_right (by rw [List.length_map]; exact g), List.length_map] at hj
      rcases Nat.eq_or_lt_of_le g with g3 | g3
      · subst g3
        rw [Nat.sub_self, List.getElem?_cons_zero] at hj
        cases hj
        rw [List.take_append_of_le_length (by rw [List.length_map]; exact Nat.le_refl _), List.take_of_length_le (by rw [List.length_map]; exact Nat.le_refl _)]
        refine ⟨⟨_, hp.2.2.1.1, rfl⟩, fun q => ?_, fun x hx hn => ?_⟩
        · obtain ⟨a, k1, k2⟩ := List.mem_map.mp q
          exact (h3 i p hi _ hp.2.2.1).2 a k1 (bEn_inj (h5 a k1) hp.2.2.1.1 k2)
        · obtain ⟨b, k1, rfl⟩ := hx
          rcases h7 b k1 with ⟨a, k2, k3⟩ | ⟨j, q, k2, k3⟩ | k2
          · exact absurd (List.mem_map.mpr ⟨a, k2, bEn_ag k3⟩) hn
          · by_cases e : j = i
            · subst e
              rw [hi] at k2
              cases k2
              rcases hp.2.2.2 b k3 with k | k
              · exact Or.inl (bEn_ag k).symm
              · exact Or.inr k
            · have k4 := hb j q k2 e
              rcases (h1 j q k2).2.2.2 b k3 with k | k
              · rw [← bEn_ag k]; exact Or.inr k4
              · exact Or.inr (befE_tr k4 k)
          · exact k2.elim
      · rw [List.getElem?_eq_none (by rw [List.length_singleton]; omega)] at hj
        cases hj
  · rcases h7 b hb1 with ⟨a, k2, k3⟩ | ⟨j, q, k2, k3⟩ | k2
    · exact Or.inl ⟨a, List.mem_append.mpr (Or.inl k2), k3⟩
    · by_cases e : j = i
      · subst e
        rw [hi] at k2
        cases k2
        by_cases g : agr p.2.2 b 10
        · exact Or.inl ⟨p.2.2, List.mem_append.mpr (Or.inr (List.mem_singleton.mpr rfl)), g⟩
        · exact Or.inr (Or.inr ⟨k3, g⟩)
      · obtain ⟨m, hm⟩ := rmv_in hil hw k2 e
        exact Or.inr (Or.inl ⟨m, q, hm, k3⟩)
    · exact k2.elim
