/-! ===== the reference's tables and the class's ===== -/
theorem rmf_le0 {m : Nat} {s nx : Nat → Int} {S : Nat} : ∀ n, rmf m s nx S n ≤ nx S
  | 0 => Int.le_refl _
  | n + 1 => by
    have ih := rmf_le0 (m := m) (s := s) (nx := nx) (S := S) n
    unfold rmf
    split
    · omega
    · exact ih
theorem rmf_lec {m : Nat} {s nx : Nat → Int} {S : Nat} : ∀ n c, c < n → m.testBit c = true → rmf m s nx S n ≤ s c + nx (cb S c)
  | 0, c, h, _ => absurd h (Nat.not_lt_zero c)
  | n + 1, c, h, hb => by
    unfold rmf
    by_cases e : c = n
    · subst e
      rw [if_pos hb]
      omega
    · have ih := rmf_lec (m := m) (s := s) (nx := nx) (S := S) n c (by omega) hb
      split
      · omega
      · exact ih
theorem rmf_at {m : Nat} {s nx : Nat → Int} {S : Nat} : ∀ n, rmf m s nx S n = nx S ∨ ∃ c, c < n ∧ m.testBit c = true ∧ rmf m s nx S n = s c + nx (cb S c)
  | 0 => Or.inl rfl
  | n + 1 => by
    have ih := rmf_at (m := m) (s := s) (nx := nx) (S := S) n
    by_cases hb : m.testBit n = true
    · have e : rmf m s nx S (n + 1) = min (rmf m s nx S n) (s n + nx (cb S n)) := by rw [rmf, if_pos hb]
      rcases Int.le_total (rmf m s nx S n) (s n + nx (cb S n)) with g | g
      · rw [e, Int.min_eq_left g]
        rcases ih with ih | ⟨c, h1, h2, h3⟩
        · exact Or.inl ih
        · exact Or.inr ⟨c, by omega, h2, h3⟩
      · rw [e, Int.min_eq_right g]
        exact Or.inr ⟨n, Nat.lt_succ_self n, hb, rfl⟩
    · have e : rmf m s nx S (n + 1) = rmf m s nx S n := by rw [rmf, if_neg hb]
      rw [e]
      rcases ih with ih | ⟨c, h1, h2, h3⟩
      · exact Or.inl ih
      · exact Or.inr ⟨c, by omega, h2, h3⟩
/-- the ways of the choices below n that come to v -/
def cw (m T : Nat) (val : Nat → Int) (b : Nat → Int32) (v : Int) : Nat → Int32
  | 0 => 0
  | c + 1 => if (m.testBit c = true ∧ (c = 10 ∨ T.testBit c = false)) ∧ val c = v then cw m T val b v c + b c else cw m T val b v c
theorem cw_0 {m T : Nat} {val : Nat → Int} {b : Nat → Int32} {v : Int} : ∀ n, (∀ c, c < n → alb m T c → val c ≠ v) → cw m T val b v n = 0
  | 0, _ => rfl
  | n + 1, h => by
    rw [cw, if_neg (fun q => h n (Nat.lt_succ_self n) q.1 q.2)]
    exact cw_0 n (fun c hc => h c (by omega))
theorem rowF_cw {m : Nat} {s : Nat → Int} {nx : Nat → OP} {T : Nat} {V : Nat → Int} {B : Nat → Int32} (hn : ∀ c, c < 11 → alb m T c → nx (tof T c) = some (V c, B c)) : ∀ n, n ≤ 11 → (rowF m s nx T n = none ∧ ∀ c, c < n → ¬ alb m T c) ∨ ∃ v, rowF m s nx T n = some (v, cw m T (fun c => vof s c + V c) B v n) ∧ (∀ c, c < n → alb m T c → v ≤ vof s c + V c) ∧ ∃ c, c < n ∧ alb m T c ∧ vof s c + V c = v
  | 0, _ => Or.inl ⟨rfl, fun c h => absurd h (Nat.not_lt_zero c)⟩
  | n + 1, h => by
    have ih := rowF_cw (s := s) hn n (by omega)
    by_cases ha : alb m T n
    · have e := rowF_s (s := s) ha (hn n (by omega) ha)
      rw [e]
      have ec : ∀ v, cw m T (fun c => vof s c + V c) B v (n + 1) = if vof s n + V n = v then cw m T (fun c => vof s c + V c) B v n + B n else cw m T (fun c => vof s c + V c) B v n := fun v => by
        rw [cw]
        by_cases g : vof s n + V n = v
        · rw [if_pos ⟨ha, g⟩, if_pos g]
        · rw [if_neg (fun q => g q.2), if_neg g]
      refine Or.inr ?_
      rcases ih with ⟨i1, i2⟩ | ⟨v, i1, i2, c0, i3, i4, i5⟩
      · refine ⟨vof s n + V n, ?_, fun c hc hb => ?_, n, Nat.lt_succ_self n, ha, rfl⟩
        · rw [i1, ec, if_pos rfl, cw_0 n (fun c hc hb => absurd hb (i2 c hc)), Int32.zero_add]; rfl
        · by_cases g : c = n
          · subst g; exact Int.le_refl _
          · exact absurd hb (i2 c (by omega))
      · rw [i1]
        rcases Int.lt_trichotomy (vof s n + V n) v with g | g | g
        · refine ⟨vof s n + V n, ?_, fun c hc hb => ?_, n, Nat.lt_succ_self n, ha, rfl⟩
          · have e0 : cw m T (fun c => vof s c + V c) B (vof s n + V n) n = 0 := cw_0 n (fun c hc hb q => by have h7 := i2 c hc hb; have q : vof s c + V c = vof s n + V n := q; omega)
            rw [ec, if_pos rfl, e0, Int32.zero_add, addO]
            exact if_pos g
          · by_cases g2 : c = n
            · subst g2; exact Int.le_refl _
            · have := i2 c (by omega) hb; omega
        · refine ⟨v, ?_, fun c hc hb => ?_, c0, by omega, i4, i5⟩
          · rw [ec, if_pos g, addO]
            dsimp only
            rw [if_neg (by omega), if_pos g]
          · by_cases g2 : c = n
            · subst g2; omega
            · exact i2 c (by omega) hb
        · refine ⟨v, ?_, fun c hc hb => ?_, c0, by omega, i4, i5⟩
          · rw [ec, if_neg (by omega), addO]
            dsimp only
            rw [if_neg (by omega), if_neg (by omega)]
          · by_cases g2 : c = n
            · subst g2; omega
            · exact i2 c (by omega) hb
    · have e : rowF m s nx T (n + 1) = rowF m s nx T n := rowF_n (fun q => absurd q ha)
      have ec : ∀ v, cw m T (fun c => vof s c + V c) B v (n + 1) = cw m T (fun c => vof s c + V c) B v n := fun v => by
        rw [cw, if_neg (fun q => ha q.1)]
      rw [e]
      rcases ih with ⟨i1, i2⟩ | ⟨v, i1, i2, c0, i3, i4, i5⟩
      · refine Or.inl ⟨i1, fun c hc hb => ?_⟩
        by_cases g : c = n
        · subst g; exact ha hb
        · exact i2 c (by omega) hb
      · refine Or.inr ⟨v, by rw [ec]; exact i1, fun c hc hb => ?_, c0, by omega, i4, i5⟩
        by_cases g : c = n
        · subst g; exact absurd hb ha
        · exact i2 c (by omega) hb
theorem andn_sb {ca T c : Nat} : andn ca (sb T c) = cb (andn ca T) c := by
  apply Nat.eq_of_testBit_eq
  intro j
  rw [andn_bit, sb_bit, cb_bit, andn_bit]
  cases ca.testBit j <;> cases T.testBit j <;> cases decide (j = c) <;> rfl
theorem or1024 {u c : Nat} (hc : c < 10) : (1024 ||| u).testBit c = u.testBit c := by
  rw [Nat.testBit_or, show (1024 : Nat) = 2 ^ 10 by decide, Nat.testBit_two_pow, decide_eq_false (by omega), Bool.false_or]
theorem or1024_10 (u : Nat) : (1024 ||| u).testBit 10 = true := by
  rw [Nat.testBit_or, show (1024 : Nat) = 2 ^ 10 by decide, Nat.testBit_two_pow, decide_eq_true rfl, Bool.true_or]
/-- a row of the reference is a row of the class -/
theorem rowF_rmin {u ca T : Nat} {s : Nat → Int} {nx : Nat → OP} {F : Nat → Int} {B : Nat → Int32} (hu : ∀ c, c < 10 → u.testBit c = true → ca.testBit c = true) (hn : ∀ U, nx U = some (F (andn ca U), B U)) : rowF (1024 ||| u) s nx T 11 = some (rmin (u &&& andn ca T) s F (andn ca T), cw (1024 ||| u) T (fun c => vof s c + F (andn ca (tof T c))) (fun c => B (tof T c)) (rmin (u &&& andn ca T) s F (andn ca T)) 11) := by
  have hb : ∀ c, c < 10 → (alb (1024 ||| u) T c ↔ (u &&& andn ca T).testBit c = true) := fun c hc => by
    show ((1024 ||| u).testBit c = true ∧ (c = 10 ∨ T.testBit c = false)) ↔ _
    rw [Nat.testBit_and, andn_bit, Bool.and_eq_true, Bool.and_eq_true, Bool.not_eq_true', or1024 hc]
    exact ⟨fun ⟨h1, h2⟩ => ⟨h1, hu c hc h1, h2.resolve_left (by omega)⟩, fun ⟨h1, _, h2⟩ => ⟨h1, Or.inr h2⟩⟩
  have hv : ∀ c, c < 10 → vof s c + F (andn ca (tof T c)) = s c + F (cb (andn ca T) c) := fun c hc => by
    rw [vof, tof, if_neg (by omega), if_neg (by omega), andn_sb]
  have hv10 : vof s 10 + F (andn ca (tof T 10)) = F (andn ca T) := by
    rw [vof, tof, if_pos rfl, if_pos rfl, Int.zero_add]
  have h10 : alb (1024 ||| u) T 10 := ⟨or1024_10 u, Or.inl rfl⟩
  rcases rowF_cw (m := 1024 ||| u) (s := s) (nx := nx) (T := T) (V := fun c => F (andn ca (tof T c))) (B := fun c => B (tof T c)) (fun c _ _ => hn _) 11 (Nat.le_refl _) with ⟨_, h⟩ | ⟨v, h1, h2, c, h3, h4, h5⟩
  · exact absurd h10 (h 10 (by decide))
  · have ev : v = rmin (u &&& andn ca T) s F (andn ca T) := by
      apply Int.le_antisymm
      · rcases rmf_at (m := u &&& andn ca T) (s := s) (nx := F) (S := andn ca T) 10 with g | ⟨c', g1, g2, g3⟩
        · have := h2 10 (by decide) h10
          rw [hv10] at this
          unfold rmin
          rw [g]; exact this
        · have := h2 c' (by omega) ((hb c' g1).mpr g2)
          rw [hv c' g1] at this
          unfold rmin
          rw [g3]; exact this
      · rw [← h5]
        by_cases e : c = 10
        · subst e
          rw [hv10]; exact rmf_le0 10
        · rw [hv c (by omega)]
          exact rmf_lec 10 c (by omega) ((hb c (by omega)).mp h4)
    rw [h1, ev]
theorem us_ca {ra ca : Nat} {z : Nat → Int} {r c : Nat} (hc : c < 10) (h : (us ra ca z r).testBit c = true) : ca.testBit c = true := by
  rw [us_bit hc, Bool.and_eq_true, Bool.and_eq_true] at h
  exact h.2.1
theorem bwf_cw {m T S : Nat} {val : Nat → Int} {b : Nat → Int32} {v : Int} {o : Nat → Bool} {b2 : Nat → Int32} {b0 : Int32} : ∀ n, (∀ c, c < n → (o c = true ↔ alb m T c ∧ val c = v)) → (∀ c, c < n → b2 (cb S c) = b c) → bwf o b2 S b0 n = cw m T val b v n + b0
  | 0, _, _ => by rw [bwf, cw, Int32.zero_add]
  | n + 1, h1, h2 => by
    have ih := bwf_cw (b0 := b0) n (fun c hc => h1 c (by omega)) (fun c hc => h2 c (by omega))
    rw [bwf, cw, ih]
    by_cases g : o n = true
    · rw [if_pos g, if_pos ((h1 n (Nat.lt_succ_self n)).mp g), h2 n (Nat.lt_succ_self n), Int32.add_assoc, Int32.add_assoc, Int32.add_comm b0]
    · rw [if_neg g, if_neg (fun q => g ((h1 n (Nat.lt_succ_self n)).mpr q))]
/-- the reference's tables of all rows are the class's -/
theorem gT_LB {ra ca : Nat} {z : Nat → Int} : ∀ k T, k ≤ 10 → gT (chU ra ca z) (sc z) 10 k T = some (Ls ra ca z k (andn ca T), Bw ra ca z k (andn ca T))
  | 0, T, _ => rfl
  | k + 1, T, h => by
    have ih := fun T => gT_LB (ra := ra) (ca := ca) (z := z) k T (by omega)
    have e9 : 10 - (k + 1) = 9 - k := by omega
    have h1 := rowF_rmin (u := us ra ca z (9 - k)) (ca := ca) (T := T) (s := sc z (9 - k)) (nx := gT (chU ra ca z) (sc z) 10 k) (F := Ls ra ca z k) (B := fun U => Bw ra ca z k (andn ca U)) (fun c hc hb => us_ca hc hb) ih
    have hL : rmin (us ra ca z (9 - k) &&& andn ca T) (sc z (9 - k)) (Ls ra ca z k) (andn ca T) = Ls ra ca z (k + 1) (andn ca T) := rfl
    rw [hL] at h1
    rw [gT, e9]
    show rowF (1024 ||| us ra ca z (9 - k)) _ _ T 11 = _
    rw [h1]
    refine congrArg (fun w => some (Ls ra ca z (k + 1) (andn ca T), w)) ?_
    rw [Bw, bwf_cw (m := 1024 ||| us ra ca z (9 - k)) (T := T) (val := fun c => vof (sc z (9 - k)) c + Ls ra ca z k (andn ca (tof T c))) (b := fun c => Bw ra ca z k (andn ca (tof T c))) (v := Ls ra ca z (k + 1) (andn ca T)) 10 (fun c hc => ?_) (fun c hc => ?_), cw]
    · have h10 : alb (1024 ||| us ra ca z (9 - k)) T 10 := ⟨or1024_10 _, Or.inl rfl⟩
      have hv10 : vof (sc z (9 - k)) 10 + Ls ra ca z k (andn ca (tof T 10)) = Ls ra ca z k (andn ca T) := by
        rw [vof, tof, if_pos rfl, if_pos rfl, Int.zero_add]
      by_cases g : Ls ra ca z k (andn ca T) = Ls ra ca z (k + 1) (andn ca T)
      · rw [if_pos ⟨h10, hv10.trans g⟩, if_pos g]; rfl
      · rw [if_neg (fun q => g (hv10.symm.trans q.2)), if_neg g, Int32.add_zero]
    · rw [opt, show 9 - (9 - k) = k by omega, show 10 - (9 - k) = k + 1 by omega, Bool.and_eq_true, decide_eq_true_eq, Nat.testBit_and, andn_bit, Bool.and_eq_true, Bool.and_eq_true, Bool.not_eq_true']
      show _ ↔ ((1024 ||| us ra ca z (9 - k)).testBit c = true ∧ (c = 10 ∨ T.testBit c = false)) ∧ vof (sc z (9 - k)) c + Ls ra ca z k (andn ca (tof T c)) = _
      rw [vof, tof, if_neg (by omega), if_neg (by omega), andn_sb, or1024 hc]
      exact ⟨fun ⟨⟨a1, _, a3⟩, a4⟩ => ⟨⟨a1, Or.inr a3⟩, a4⟩, fun ⟨⟨a1, a3⟩, a4⟩ => ⟨⟨a1, us_ca hc a1, a3.resolve_left (by omega)⟩, a4⟩⟩
    · show _ = Bw ra ca z k (andn ca (tof T c))
      rw [tof, if_neg (by omega), andn_sb]
/-- rows that have no choice but none -/
theorem gT_none {ch : Nat → Nat} {s : Nat → Nat → Int} {R : Nat} (hR : R ≤ 10) (h : ∀ r, R ≤ r → r < 10 → ch r = 1024) : ∀ k T, k ≤ 10 - R → gT ch s 10 k T = some (0, 1)
  | 0, T, _ => rfl
  | k + 1, T, hk => by
    have ih := fun T => gT_none (s := s) hR h k T (by omega)
    rw [gT, h (10 - (k + 1)) (by omega) (by omega)]
    have hb : ∀ n, n ≤ 10 → rowF 1024 (s (10 - (k + 1))) (gT ch s 10 k) T n = none := fun n => by
      induction n with
      | zero => exact fun _ => rfl
      | succ n ihn =>
        intro hn
        rw [rowF_n (fun q => absurd q.1 (by
          rw [show (1024 : Nat) = 2 ^ 10 by decide, Nat.testBit_two_pow, decide_eq_false (by omega)]; decide))]
        exact ihn (by omega)
    rw [rowF_s (c := 10) ⟨by decide, Or.inl rfl⟩ (q := (0, 1)) (ih _), hb 10 (Nat.le_refl _)]
    rfl
theorem gT_ext {ch : Nat → Nat} {s : Nat → Nat → Int} {R : Nat} (hR : R ≤ 10) (h : ∀ r, R ≤ r → r < 10 → ch r = 1024) : ∀ k T, k ≤ R → gT ch s R k T = gT ch s 10 (10 - R + k) T
  | 0, T, _ => (gT_none hR h (10 - R + 0) T (by omega)).symm
  | k + 1, T, hk => by
    have ih : gT ch s R k = gT ch s 10 (10 - R + k) := funext fun T => gT_ext hR h k T (by omega)
    rw [gT, ih, show 10 - R + (k + 1) = (10 - R + k) + 1 by omega, gT, show 10 - (10 - R + k + 1) = R - (k + 1) by omega]
theorem gopt_ext {ch : Nat → Nat} {s : Nat → Nat → Int} {R r T c : Nat} (hR : R ≤ 10) (h : ∀ r, R ≤ r → r < 10 → ch r = 1024) (hr : r < R) : gopt ch s R r T c = gopt ch s 10 r T c := by
  rw [gopt, gopt, gT_ext hR h _ _ (by omega), gT_ext hR h _ _ (by omega), show 10 - R + (R - (r + 1)) = 10 - (r + 1) by omega, show 10 - R + (R - r) = 10 - r by omega]
theorem gcol_ext {ch : Nat → Nat} {s : Nat → Nat → Int} {R r T : Nat} (hR : R ≤ 10) (h : ∀ r, R ≤ r → r < 10 → ch r = 1024) (hr : r < R) : gcol ch s R r T = gcol ch s 10 r T := by
  rw [gcol, gcol, funext fun c => gopt_ext (s := s) (T := T) (c := c) hR h hr]
theorem gtk_ext {ch : Nat → Nat} {s : Nat → Nat → Int} {R : Nat} (hR : R ≤ 10) (h : ∀ r, R ≤ r → r < 10 → ch r = 1024) : ∀ r, r ≤ R → gtk ch s R r = gtk ch s 10 r
  | 0, _ => rfl
  | r + 1, hr => by rw [gtk, gtk, gtk_ext hR h r (by omega), gcol_ext hR h (by omega)]
theorem us_out {R ra ca : Nat} {z : Nat → Int} {r : Nat} (h : ra < 2 ^ R) (hr : R ≤ r) : us ra ca z r = 0 := by
  apply Nat.eq_of_testBit_eq
  intro j
  rw [Nat.zero_testBit]
  rcases Nat.lt_or_ge j 10 with g | g
  · rw [us_bit g, bt_out h hr, Bool.false_and]
  · exact bt_out (us_lt ra ca z r) g
theorem chU_out {R ra ca : Nat} {z : Nat → Int} {r : Nat} (h : ra < 2 ^ R) (hr : R ≤ r) : chU ra ca z r = 1024 := by
  rw [chU, us_out h hr]; rfl
theorem andn_0 (ca : Nat) : andn ca 0 = ca := by
  apply Nat.eq_of_testBit_eq
  intro j
  rw [andn_bit, Nat.zero_testBit]
  simp
theorem opt_gopt {ra ca : Nat} {z : Nat → Int} {r T c : Nat} (hr : r < 10) (hc : c < 10) : gopt (chU ra ca z) (sc z) 10 r T c = opt ra ca z r c (andn ca T) := by
  rw [Bool.eq_iff_iff, gopt_i, gT_LB _ _ (by omega), gT_LB _ _ (by omega), opt, Bool.and_eq_true, decide_eq_true_eq, Nat.testBit_and, andn_bit, Bool.and_eq_true, Bool.and_eq_true, Bool.not_eq_true', vof, tof, if_neg (by omega), if_neg (by omega), andn_sb, alb, chU_bit hc, show 10 - (r + 1) = 9 - r by omega]
  exact ⟨fun ⟨⟨a1, a2⟩, a, b, a3, a4, a5⟩ => ⟨⟨a1, us_ca hc a1, a2.resolve_left (by omega)⟩, by cases a3; cases a4; exact a5⟩, fun ⟨⟨a1, _, a2⟩, a3⟩ => ⟨⟨a1, Or.inr a2⟩, _, _, rfl, rfl, a3⟩⟩
theorem gcol_kcol {ra ca : Nat} {z : Nat → Int} {r T : Nat} (hr : r < 10) : gcol (chU ra ca z) (sc z) 10 r T = kcol ra ca z r (andn ca T) := by
  have h0 := gcol_ok (r := r) (T := T) hr (gT_LB (ra := ra) (ca := ca) (z := z) (10 - r) T (by omega))
  have h9 : kcol ra ca z r (andn ca T) ≤ 10 := ff_le (fun c => opt ra ca z r c (andn ca T)) 10
  have hk : ff (fun c => gopt (chU ra ca z) (sc z) 10 r T c) 10 = kcol ra ca z r (andn ca T) := by
    rcases Nat.lt_or_ge (kcol ra ca z r (andn ca T)) 10 with g | g
    · have hy : opt ra ca z r (kcol ra ca z r (andn ca T)) (andn ca T) = true := ff_yes (fun c => opt ra ca z r c (andn ca T)) 10 g
      refine ff_is g (fun j hj => ?_) ?_
      · have hn : opt ra ca z r j (andn ca T) = false := ff_no (fun c => opt ra ca z r c (andn ca T)) 10 j hj
        exact (opt_gopt hr (by omega)).trans hn
      · exact (opt_gopt hr g).trans hy
    · have e : kcol ra ca z r (andn ca T) = 10 := Nat.le_antisymm h9 g
      rw [e]
      refine ff_all (fun j hj => ?_)
      have hn : opt ra ca z r j (andn ca T) = false := ff_no (fun c => opt ra ca z r c (andn ca T)) 10 j (show j < kcol ra ca z r (andn ca T) by omega)
      exact (opt_gopt hr hj).trans hn
  have e : gcol (chU ra ca z) (sc z) 10 r T = if ff (fun c => gopt (chU ra ca z) (sc z) 10 r T c) 10 < 10 then ff (fun c => gopt (chU ra ca z) (sc z) 10 r T c) 10 else if gopt (chU ra ca z) (sc z) 10 r T 10 = true then 10 else 10 + 1 := by
    rw [gcol, ff]
  rw [hk] at e
  have h1 := h0.1
  rw [e] at h1
  rw [e]
  by_cases g : kcol ra ca z r (andn ca T) < 10
  · rw [if_pos g]
  · rw [if_neg g] at h1
    rw [if_neg g]
    by_cases g2 : gopt (chU ra ca z) (sc z) 10 r T 10 = true
    · rw [if_pos g2]; omega
    · rw [if_neg g2] at h1; omega
theorem gtk_kfree {ra ca : Nat} {z : Nat → Int} : ∀ r, r ≤ 10 → andn ca (gtk (chU ra ca z) (sc z) 10 r) = kfree ra ca z r
  | 0, _ => andn_0 ca
  | r + 1, h => by
    have ih := gtk_kfree (ra := ra) (ca := ca) (z := z) r (by omega)
    rw [gtk, gcol_kcol (by omega), kfree, ih]
    have h9 : kcol ra ca z r (kfree ra ca z r) ≤ 10 := ff_le (fun c => opt ra ca z r c (kfree ra ca z r)) 10
    by_cases g : kcol ra ca z r (kfree ra ca z r) < 10
    · rw [if_pos g, tof, if_neg (by omega), andn_sb, ih]
    · rw [if_neg g, tof, if_pos (by omega), ih]
