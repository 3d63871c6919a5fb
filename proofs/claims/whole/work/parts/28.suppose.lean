/-! ===== what the reference finds with one row's choices cut ===== -/
def chM (ch : Nat → Nat) (r0 m : Nat) : Nat → Nat := fun r => if r = r0 then m else ch r
theorem gT_low {ch : Nat → Nat} {s : Nat → Nat → Int} {r0 m : Nat} : ∀ k T, k ≤ 9 - r0 → r0 < 10 → gT (chM ch r0 m) s 10 k T = gT ch s 10 k T
  | 0, _, _, _ => rfl
  | k + 1, T, h, h0 => by
    have ih : gT (chM ch r0 m) s 10 k = gT ch s 10 k := funext fun T => gT_low k T (by omega) h0
    rw [gT, gT, ih, chM, if_neg (by omega)]
theorem gT_at {ch : Nat → Nat} {s : Nat → Nat → Int} {r0 m : Nat} (h0 : r0 < 10) (T : Nat) : gT (chM ch r0 m) s 10 (10 - r0) T = rowF m (s r0) (gT ch s 10 (9 - r0)) T 11 := by
  have ih : gT (chM ch r0 m) s 10 (9 - r0) = gT ch s 10 (9 - r0) := funext fun T => gT_low _ T (Nat.le_refl _) h0
  rw [show 10 - r0 = (9 - r0) + 1 by omega, gT, ih, show 10 - (9 - r0 + 1) = r0 by omega, chM, if_pos rfl]
theorem gT_up {ch : Nat → Nat} {s : Nat → Nat → Int} {r0 m j : Nat} (h0 : r0 < 10) (hj : j < r0) (T : Nat) : gT (chM ch r0 m) s 10 (10 - r0 + (j + 1)) T = rowF (ch (r0 - (j + 1))) (s (r0 - (j + 1))) (gT (chM ch r0 m) s 10 (10 - r0 + j)) T 11 := by
  rw [show 10 - r0 + (j + 1) = (10 - r0 + j) + 1 by omega, gT, show 10 - (10 - r0 + j + 1) = r0 - (j + 1) by omega, chM, if_neg (by omega)]
theorem oW_some {o : OP} {v : Int} (h : ∃ w, o = some (v, w)) : o = some (v, oW o) := by
  obtain ⟨w, rfl⟩ := h
  rfl
theorem cb_1024 {u c : Nat} (hc : c < 10) : cb (1024 ||| u) c = 1024 ||| cb u c := by
  apply Nat.eq_of_testBit_eq
  intro j
  rw [cb_bit, Nat.testBit_or, Nat.testBit_or, cb_bit, show (1024 : Nat) = 2 ^ 10 by decide, Nat.testBit_two_pow]
  by_cases e : j = c
  · subst e
    rw [decide_eq_false (p := 10 = j) (by omega), decide_eq_true (p := j = j) rfl]
    simp
  · rw [decide_eq_false (p := j = c) e]
    simp
theorem gM_wo {ra ca : Nat} {z : Nat → Int} {r0 c : Nat} (h0 : r0 < 10) (hc : c < 10) : ∀ j T, j ≤ r0 → ∃ w, gT (chM (chU ra ca z) r0 (cb (chU ra ca z r0) c)) (sc z) 10 (10 - r0 + j) T = some (Up ra ca z (gWo ra ca z r0 (cb (us ra ca z r0) c)) r0 j (andn ca T), w)
  | 0, T, _ => by
    have h1 := rowF_rmin (u := cb (us ra ca z r0) c) (ca := ca) (T := T) (s := sc z r0) (nx := gT (chU ra ca z) (sc z) 10 (9 - r0)) (F := Ls ra ca z (9 - r0)) (B := fun U => Bw ra ca z (9 - r0) (andn ca U)) (fun c' hc' hb => us_ca hc' (by
      rw [cb_bit, Bool.and_eq_true] at hb
      exact hb.1)) (fun T => gT_LB _ T (by omega))
    have e : cb (chU ra ca z r0) c = 1024 ||| cb (us ra ca z r0) c := cb_1024 hc
    rw [Nat.add_zero, gT_at h0, e, h1]
    exact ⟨_, rfl⟩
  | j + 1, T, hj => by
    have ih := fun U => oW_some (gM_wo (ra := ra) (ca := ca) (z := z) h0 hc j U (by omega))
    have h1 := rowF_rmin (u := us ra ca z (r0 - (j + 1))) (ca := ca) (T := T) (s := sc z (r0 - (j + 1))) (F := Up ra ca z (gWo ra ca z r0 (cb (us ra ca z r0) c)) r0 j) (fun c' hc' hb => us_ca hc' hb) ih
    rw [gT_up h0 (by omega)]
    show ∃ w, rowF (1024 ||| us ra ca z (r0 - (j + 1))) _ _ T 11 = _
    rw [h1]
    exact ⟨_, rfl⟩
def rlo (o : OP) (v : Int) (j : Nat) : Prop := (∃ w, o = some (v, w) ∧ v ≤ 20000000) ∨ (o = none ∧ 100000000 - 1100000 * (j : Int) ≤ v)
theorem rowF_rlo {u ca T j : Nat} {s : Nat → Int} {nx : Nat → OP} {F : Nat → Int} (hj : j ≤ 9) (hu : ∀ c, c < 10 → u.testBit c = true → ca.testBit c = true) (hs : ∀ c, c < 10 → -1100000 ≤ s c ∧ s c ≤ 0) (hn : ∀ U, rlo (nx U) (F (andn ca U)) j) : rlo (rowF (1024 ||| u) s nx T 11) (rmin (u &&& andn ca T) s F (andn ca T)) (j + 1) := by
  have hb : ∀ c, c < 10 → (alb (1024 ||| u) T c ↔ (u &&& andn ca T).testBit c = true) := fun c hc => by
    show ((1024 ||| u).testBit c = true ∧ (c = 10 ∨ T.testBit c = false)) ↔ _
    rw [Nat.testBit_and, andn_bit, Bool.and_eq_true, Bool.and_eq_true, Bool.not_eq_true', or1024 hc]
    exact ⟨fun ⟨h1, h2⟩ => ⟨h1, hu c hc h1, h2.resolve_left (by omega)⟩, fun ⟨h1, _, h2⟩ => ⟨h1, Or.inr h2⟩⟩
  have hv : ∀ c, c < 10 → vof s c + F (andn ca (tof T c)) = s c + F (cb (andn ca T) c) := fun c hc => by
    rw [vof, tof, if_neg (by omega), if_neg (by omega), andn_sb]
  have hv10 : vof s 10 + F (andn ca (tof T 10)) = F (andn ca T) := by
    rw [vof, tof, if_pos rfl, if_pos rfl, Int.zero_add]
  have hv0 : ∀ c, c < 11 → -1100000 ≤ vof s c ∧ vof s c ≤ 0 := fun c hc => by
    unfold vof
    split
    · omega
    · exact hs c (by omega)
  have h10 : alb (1024 ||| u) T 10 := ⟨or1024_10 u, Or.inl rfl⟩
  have hat : ∃ c, c < 11 ∧ alb (1024 ||| u) T c ∧ rmin (u &&& andn ca T) s F (andn ca T) = vof s c + F (andn ca (tof T c)) := by
    rcases rmf_at (m := u &&& andn ca T) (s := s) (nx := F) (S := andn ca T) 10 with g | ⟨c', g1, g2, g3⟩
    · exact ⟨10, by decide, h10, g.trans hv10.symm⟩
    · exact ⟨c', by omega, (hb c' g1).mpr g2, g3.trans (hv c' g1).symm⟩
  have hle : ∀ c, c < 11 → alb (1024 ||| u) T c → rmin (u &&& andn ca T) s F (andn ca T) ≤ vof s c + F (andn ca (tof T c)) := fun c hc ha => by
    by_cases e : c = 10
    · subst e
      rw [hv10]; exact rmf_le0 10
    · rw [hv c (by omega)]
      exact rmf_lec 10 c (by omega) ((hb c (by omega)).mp ha)
  cases ho : rowF (1024 ||| u) s nx T 11 with
  | none =>
    obtain ⟨c, g1, g2, g3⟩ := hat
    refine Or.inr ⟨rfl, ?_⟩
    rcases hn (tof T c) with ⟨w, h1, _⟩ | ⟨_, h1⟩
    · obtain ⟨p, h2, _⟩ := rowF_le (s := s) 11 c _ g1 g2 h1
      rw [h2] at ho
      cases ho
    · have := hv0 c g1
      rw [g3]
      omega
  | some p =>
    obtain ⟨c, g1, g2, q, g3, g4⟩ := rowF_at 11 p ho
    have h1 : q.1 = F (andn ca (tof T c)) ∧ q.1 ≤ 20000000 := by
      rcases hn (tof T c) with ⟨w, h1, h2⟩ | ⟨h1, _⟩
      · rw [g3] at h1; cases h1; exact ⟨rfl, h2⟩
      · rw [g3] at h1; cases h1
    have h2 := hle c g1 g2
    have h3 := hv0 c g1
    obtain ⟨c', k1, k2, k3⟩ := hat
    have h4 : p.1 ≤ rmin (u &&& andn ca T) s F (andn ca T) := by
      rcases hn (tof T c') with ⟨w, e1, e2⟩ | ⟨_, e1⟩
      · obtain ⟨p', e3, e4⟩ := rowF_le (s := s) 11 c' _ k1 k2 e1
        rw [ho] at e3
        cases e3
        rw [k3]; exact e4
      · have := hv0 c' k1
        omega
    have h5 : p.1 = rmin (u &&& andn ca T) s F (andn ca T) := by omega
    exact Or.inl ⟨p.2, by rw [← h5], by omega⟩
theorem sc_neg {z : Nat → Int} (hz : ∀ k, k < 100 → zok (z k)) {r c : Nat} (hr : r < 10) (hc : c < 10) : -1100000 ≤ sc z r c ∧ sc z r c ≤ 0 := by
  have := hz (10 * r + c) (by omega)
  unfold sc
  omega
theorem and_bit {u c : Nat} (h : u.testBit c = true) : u &&& 2 ^ c = 2 ^ c := by
  apply Nat.eq_of_testBit_eq
  intro j
  rw [Nat.testBit_and, Nat.testBit_two_pow]
  by_cases e : c = j
  · subst e; rw [h]; rfl
  · rw [decide_eq_false e, Bool.and_false]
theorem and_nbit {u c : Nat} (h : u.testBit c = false) : u &&& 2 ^ c = 0 := by
  apply Nat.eq_of_testBit_eq
  intro j
  rw [Nat.testBit_and, Nat.testBit_two_pow, Nat.zero_testBit]
  by_cases e : c = j
  · subst e; rw [h]; rfl
  · rw [decide_eq_false e, Bool.and_false]
theorem gM_wi {ra ca : Nat} {z : Nat → Int} {r0 c : Nat} (hz : ∀ k, k < 100 → zok (z k)) (h0 : r0 < 10) (hc : c < 10) (hb : (us ra ca z r0).testBit c = true) : ∀ j T, j ≤ r0 → rlo (gT (chM (chU ra ca z) r0 (chU ra ca z r0 &&& 2 ^ c)) (sc z) 10 (10 - r0 + j) T) (Up ra ca z (gWi ra ca z r0 c) r0 j (andn ca T)) j
  | 0, T, _ => by
    have e : chU ra ca z r0 &&& 2 ^ c = 2 ^ c := and_bit (by rw [chU_bit hc]; exact hb)
    rw [Nat.add_zero, gT_at h0, e]
    have hbit : ∀ c', (2 ^ c).testBit c' = true → c' = c := fun c' h => by
      rw [Nat.testBit_two_pow] at h
      exact (of_decide_eq_true h).symm
    show rlo _ (gWi ra ca z r0 c (andn ca T)) 0
    have hL := Ls_bd (ra := ra) (ca := ca) hz (9 - r0) (cb (andn ca T) c) (by omega)
    have hsn := sc_neg hz h0 hc
    by_cases g : T.testBit c = true
    · have e2 : (andn ca T).testBit c = false := by rw [andn_bit, g]; simp
      rw [gWi, if_neg (by rw [e2]; decide)]
      refine Or.inr ⟨?_, by omega⟩
      cases ho : rowF (2 ^ c) (sc z r0) (gT (chU ra ca z) (sc z) 10 (9 - r0)) T 11 with
      | none => rfl
      | some p =>
        obtain ⟨c', g1, g2, _⟩ := rowF_at 11 p ho
        have e3 := hbit c' g2.1
        subst e3
        have := g2.2.resolve_left (by omega)
        rw [g] at this
        cases this
    · have g0 : T.testBit c = false := by simpa using g
      have e2 : (andn ca T).testBit c = true := by rw [andn_bit, g0, us_ca hc hb]; rfl
      rw [gWi, if_pos e2]
      have ha : alb (2 ^ c) T c := ⟨by rw [Nat.testBit_two_pow, decide_eq_true rfl], Or.inr g0⟩
      obtain ⟨p, g1, g2⟩ := rowF_le (s := sc z r0) (nx := gT (chU ra ca z) (sc z) 10 (9 - r0)) 11 c _ (by omega) ha (gT_LB _ _ (by omega))
      obtain ⟨c', k1, k2, q, k3, k4⟩ := rowF_at 11 p g1
      have e3 := hbit c' k2.1
      subst e3
      rw [gT_LB _ _ (by omega)] at k3
      cases k3
      rw [vof, tof, if_neg (by omega), if_neg (by omega), andn_sb] at k4
      refine Or.inl ⟨p.2, ?_, by omega⟩
      rw [g1]
      dsimp only at k4
      rw [k4]
  | j + 1, T, hj => by
    have ih := fun U => gM_wi (ra := ra) (ca := ca) hz h0 hc hb j U (by omega)
    rw [gT_up h0 (by omega)]
    exact rowF_rlo (u := us ra ca z (r0 - (j + 1))) (F := Up ra ca z (gWi ra ca z r0 c) r0 j) (by omega) (fun c' hc' hb => us_ca hc' hb) (fun c hc => sc_neg hz (by omega) hc) ih
theorem rowF_nn {m : Nat} {s : Nat → Int} {nx : Nat → OP} {T : Nat} (h : ∀ c, alb m T c → nx (tof T c) = none) : rowF m s nx T 11 = none := by
  cases ho : rowF m s nx T 11 with
  | none => rfl
  | some p =>
    obtain ⟨c, _, g2, q, g3, _⟩ := rowF_at 11 p ho
    rw [h c g2] at g3
    cases g3
theorem gM_no {ra ca : Nat} {z : Nat → Int} {r0 c : Nat} (h0 : r0 < 10) (hc : c < 10) (hb : (us ra ca z r0).testBit c = false) : ∀ j T, j ≤ r0 → gT (chM (chU ra ca z) r0 (chU ra ca z r0 &&& 2 ^ c)) (sc z) 10 (10 - r0 + j) T = none
  | 0, T, _ => by
    have e : chU ra ca z r0 &&& 2 ^ c = 0 := and_nbit (by rw [chU_bit hc]; exact hb)
    rw [Nat.add_zero, gT_at h0, e]
    exact rowF_nn (fun c' q => by have := q.1; rw [Nat.zero_testBit] at this; cases this)
  | j + 1, T, hj => by
    rw [gT_up h0 (by omega)]
    exact rowF_nn (fun c' _ => gM_no h0 hc hb j _ (by omega))
/-- no supposition is better than the best -/
theorem rmin_ge {m m' S : Nat} {s F F' : Nat → Int} (hm : ∀ c, c < 10 → m'.testBit c = true → m.testBit c = true) (hF : ∀ U, F U ≤ F' U) : rmin m s F S ≤ rmin m' s F' S := by
  rcases rmf_at (m := m') (s := s) (nx := F') (S := S) 10 with g | ⟨c, g1, g2, g3⟩
  · have h1 := rmf_le0 (m := m) (s := s) (nx := F) (S := S) 10
    have h2 := hF S
    unfold rmin
    omega
  · have h1 := rmf_lec (s := s) (nx := F) (S := S) 10 c g1 (hm c g1 g2)
    have h2 := hF (cb S c)
    unfold rmin
    omega
theorem Up_ge {ra ca : Nat} {z g : Nat → Int} {r0 : Nat} (h0 : r0 < 10) (hg : ∀ S, Ls ra ca z (10 - r0) S ≤ g S) : ∀ j S, j ≤ r0 → Ls ra ca z (10 - r0 + j) S ≤ Up ra ca z g r0 j S
  | 0, S, _ => hg S
  | j + 1, S, hj => by
    have ih := fun S => Up_ge (z := z) h0 hg j S (by omega)
    rw [show 10 - r0 + (j + 1) = (10 - r0 + j) + 1 by omega, Ls, Up, show 9 - (10 - r0 + j) = r0 - (j + 1) by omega]
    exact rmin_ge (fun c _ h => h) ih
theorem gWo_ge {ra ca : Nat} {z : Nat → Int} {r0 c : Nat} (h0 : r0 < 10) (S : Nat) : Ls ra ca z (10 - r0) S ≤ gWo ra ca z r0 (cb (us ra ca z r0) c) S := by
  rw [show 10 - r0 = (9 - r0) + 1 by omega, Ls, gWo, show 9 - (9 - r0) = r0 by omega]
  refine rmin_ge (fun c' _ h => ?_) (fun _ => Int.le_refl _)
  rw [Nat.testBit_and, Bool.and_eq_true, cb_bit, Bool.and_eq_true] at h
  rw [Nat.testBit_and, h.1.1, h.2]; rfl
theorem gWi_ge {ra ca : Nat} {z : Nat → Int} {r0 c : Nat} (hz : ∀ k, k < 100 → zok (z k)) (h0 : r0 < 10) (hc : c < 10) (hb : (us ra ca z r0).testBit c = true) (S : Nat) : Ls ra ca z (10 - r0) S ≤ gWi ra ca z r0 c S := by
  unfold gWi
  split
  · rename_i h
    rw [show 10 - r0 = (9 - r0) + 1 by omega, Ls, show 9 - (9 - r0) = r0 by omega]
    exact rmf_lec 10 c hc (by rw [Nat.testBit_and, hb, h]; rfl)
  · have := Ls_bd (ra := ra) (ca := ca) hz (10 - r0) S (by omega)
    omega
/-- the reference's answer and the class's -/
theorem ask_r {o : OP} {v f : Int} (h : (∃ w, o = some (v, w)) ∨ (o = none ∧ 80000000 ≤ v)) (hv : bd 121000000 v) (hf : kv 10 f) (hge : f ≤ v) : (oS o = i32 (szf f) ∧ oC o = i32 (csf f + xco v f) ∧ 0 ≤ xco v f) ∨ (¬ oS o = i32 (szf f) ∧ xco v f = -1) := by
  obtain ⟨s, c, h1, h2, h3, h4, h5, h6, h7⟩ := kv_s hf (Nat.le_refl _)
  rcases h with ⟨w, rfl⟩ | ⟨rfl, h8⟩
  · have ho := szf_ok (z := v) (by omega)
    by_cases e : szf v = szf f
    · refine Or.inl ⟨congrArg i32 e, ?_, ?_⟩
      · show i32 (csf v) = _
        rw [xco, if_pos e]
        refine congrArg i32 ?_
        unfold csf
        rw [e]
        omega
      · rw [xco, if_pos e]; omega
    · refine Or.inr ⟨fun q => e ((i32_eq ho (by rw [h2]; omega)).mp q), ?_⟩
      rw [xco, if_neg e]
  · have e : ¬ szf v = szf f := by
      rw [h2]
      unfold szf
      intro q
      have h9 : (500000 - v).tdiv 1000000 ≤ 0 := by
        rw [show 500000 - v = -(v - 500000) by omega, Int.neg_tdiv, Int.tdiv_eq_ediv_of_nonneg (by omega)]
        omega
      have h10 : (500000 - v).tdiv 1000000 < 0 := by
        rw [show 500000 - v = -(v - 500000) by omega, Int.neg_tdiv, Int.tdiv_eq_ediv_of_nonneg (by omega)]
        omega
      omega
    refine Or.inr ⟨fun q => ?_, by rw [xco, if_neg e]⟩
    have q : i32 (-100) = i32 (szf f) := q
    have := (i32_eq (by omega) (by rw [h2]; omega)).mp q
    rw [h2] at this
    omega
/-- the reference's tables with row r's choices m -/
def gM (A : DA) (r m : Nat) : OP := gT (chM (chU A.ra A.ca A.z) r m) (sc A.z) A.R A.R 0
theorem gM_10 {A : DA} (h : AOk A) {r m : Nat} (hr : r < A.R) : gM A r m = gT (chM (chU A.ra A.ca A.z) r m) (sc A.z) 10 (10 - r + r) 0 := by
  have hR := h.R
  rw [gM, gT_ext h.R (fun q h1 _ => by rw [chM, if_neg (by omega)]; exact chU_out h.t.1 h1) A.R 0 (Nat.le_refl _), show 10 - A.R + A.R = 10 - r + r by omega]
theorem kv_L {X : St} {A : DA} (h : MInv X A) : kv 10 (Ls A.ra A.ca A.z 10 A.ca) := by
  have h1 := gT_LB (ra := A.ra) (ca := A.ca) (z := A.z) 10 0 (Nat.le_refl _)
  rw [andn_0] at h1
  have h2 : ∀ k, k ≤ 10 → ∀ U, okO k (gT (chU A.ra A.ca A.z) (sc A.z) 10 k U) := fun k => by
    induction k with
    | zero => exact fun _ U p hp => by cases hp; exact kv_0 0
    | succ k ih =>
      intro hk U
      rw [gT]
      refine okO_row (fun c hc _ => ⟨A.z (10 * (10 - (k + 1)) + c), rfl, ?_⟩) (ih (by omega)) 11 (Nat.le_refl _)
      exact h.ok.t.2.2.1 _ (by omega)
  exact h2 10 (Nat.le_refl _) 0 _ h1
theorem ask_O {X : St} {A : DA} (h : MInv X A) {r c : Nat} (hr : r < A.R) (hc : c < 10) : (oS (gM A r (cb (chU A.ra A.ca A.z r) c)) = i32 (szf (Ls A.ra A.ca A.z 10 A.ca)) ∧ oC (gM A r (cb (chU A.ra A.ca A.z r) c)) = i32 (csf (Ls A.ra A.ca A.z 10 A.ca) + xO A.ra A.ca A.z r c) ∧ 0 ≤ xO A.ra A.ca A.z r c) ∨ (¬ oS (gM A r (cb (chU A.ra A.ca A.z r) c)) = i32 (szf (Ls A.ra A.ca A.z 10 A.ca)) ∧ xO A.ra A.ca A.z r c = -1) := by
  have hR := h.ok.R
  have hz := h.ok.t.2.2.1
  have hca := h.ok.t.b h.ok.C
  obtain ⟨w, hw⟩ := gM_wo (ra := A.ra) (ca := A.ca) (z := A.z) (r0 := r) (c := c) (by omega) hc r 0 (Nat.le_refl _)
  rw [andn_0, ← gM_10 h.ok hr] at hw
  have hu := Up_bd (ra := A.ra) (r0 := r) (g := gWo A.ra A.ca A.z r (cb (us A.ra A.ca A.z r) c)) hz (by omega) (fun S _ _ => gWo_bd (ra := A.ra) (ca := A.ca) (m := cb (us A.ra A.ca A.z r) c) hz (by omega) S) hca r A.ca (Nat.le_refl _) hca (cbl_self A.ca _)
  have hg := Up_ge (ra := A.ra) (ca := A.ca) (z := A.z) (r0 := r) (by omega) (fun S => gWo_ge (c := c) (by omega) S) r A.ca (Nat.le_refl _)
  rw [show 10 - r + r = 10 by omega] at hg
  exact ask_r (Or.inl ⟨w, hw⟩) (by omega) (kv_L h) hg
theorem ask_W {X : St} {A : DA} (h : MInv X A) {r c : Nat} (hr : r < A.R) (hc : c < 10) (hb : (us A.ra A.ca A.z r).testBit c = true) : (oS (gM A r (chU A.ra A.ca A.z r &&& 2 ^ c)) = i32 (szf (Ls A.ra A.ca A.z 10 A.ca)) ∧ oC (gM A r (chU A.ra A.ca A.z r &&& 2 ^ c)) = i32 (csf (Ls A.ra A.ca A.z 10 A.ca) + xW A.ra A.ca A.z r c) ∧ 0 ≤ xW A.ra A.ca A.z r c) ∨ (¬ oS (gM A r (chU A.ra A.ca A.z r &&& 2 ^ c)) = i32 (szf (Ls A.ra A.ca A.z 10 A.ca)) ∧ xW A.ra A.ca A.z r c = -1) := by
  have hR := h.ok.R
  have hz := h.ok.t.2.2.1
  have hca := h.ok.t.b h.ok.C
  have hw := gM_wi (ra := A.ra) (ca := A.ca) hz (r0 := r) (c := c) (by omega) hc hb r 0 (Nat.le_refl _)
  rw [andn_0, ← gM_10 h.ok hr] at hw
  have hu := Up_bd (ra := A.ra) (r0 := r) (g := gWi A.ra A.ca A.z r c) hz (by omega) (fun S _ _ => gWi_bd (ra := A.ra) (ca := A.ca) hz (by omega) hc S) hca r A.ca (Nat.le_refl _) hca (cbl_self A.ca _)
  have hg := Up_ge (ra := A.ra) (ca := A.ca) (z := A.z) (r0 := r) (by omega) (fun S => gWi_ge hz (by omega) hc hb S) r A.ca (Nat.le_refl _)
  rw [show 10 - r + r = 10 by omega] at hg
  refine ask_r ?_ (by omega) (kv_L h) hg
  rcases hw with ⟨w, h1, _⟩ | ⟨h1, h2⟩
  · exact Or.inl ⟨w, h1⟩
  · exact Or.inr ⟨h1, by omega⟩
theorem ask_N {X : St} {A : DA} (h : MInv X A) {r c : Nat} (hr : r < A.R) (hc : c < 10) (hb : (us A.ra A.ca A.z r).testBit c = false) : ¬ oS (gM A r (chU A.ra A.ca A.z r &&& 2 ^ c)) = i32 (szf (Ls A.ra A.ca A.z 10 A.ca)) := by
  have hR := h.ok.R
  have hw := gM_no (ra := A.ra) (ca := A.ca) (z := A.z) (r0 := r) (c := c) (by omega) hc hb r 0 (Nat.le_refl _)
  rw [← gM_10 h.ok hr] at hw
  rw [hw]
  intro q
  obtain ⟨s, c, h1, h2, h3, h4, h5, h6, h7⟩ := kv_s (kv_L h) (Nat.le_refl _)
  have q : i32 (-100) = i32 (szf (Ls A.ra A.ca A.z 10 A.ca)) := q
  have := (i32_eq (by omega) (by rw [h2]; omega)).mp q
  rw [h2] at this
  omega
