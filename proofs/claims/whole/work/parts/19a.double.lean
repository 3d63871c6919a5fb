/-! ===== doubles: numbers n / 2^i, exactly ===== -/
theorem pw_cut {a b x y : Nat} (h : a * 2 ^ x = b * 2 ^ y) : a * 2 ^ (x - y) = b * 2 ^ (y - x) := by
  rcases Nat.le_total x y with g | g
  · rw [Nat.sub_eq_zero_of_le g, Nat.pow_zero, Nat.mul_one]
    refine Nat.eq_of_mul_eq_mul_right (Nat.two_pow_pos x) ?_
    rw [Nat.mul_assoc, ← Nat.pow_add, Nat.sub_add_cancel g]
    exact h
  · rw [Nat.sub_eq_zero_of_le g, Nat.pow_zero, Nat.mul_one]
    refine Nat.eq_of_mul_eq_mul_right (Nat.two_pow_pos y) ?_
    rw [Nat.mul_assoc, ← Nat.pow_add, Nat.sub_add_cancel g]
    exact h
/-- x is n / 2^i, of sign s -/
def Pd (i : Nat) (s : Bool) (n : Nat) (x : UInt64) : Prop := ∃ (c : Nat) (q : Int), FP.Core.val64 x = .fin s c q ∧ -1074 ≤ q ∧ c * 2 ^ ((q + 1074).toNat + i) = n * 2 ^ 1074
theorem Pd_round {i : Nat} {s : Bool} {n : Nat} {x : UInt64} (hi : i ≤ 100) (hn : n < 2 ^ 53) (h : FP.Core.val64 x = FP.Core.roundRatio FP.Core.b64 s n 1 (-(i : Int))) : Pd i s n x := by
  obtain ⟨c, q, h1, h2⟩ := FP.Core.round_exact (f := FP.Core.b64) FP.Core.good_b64 s (c := n) (q := -(i : Int)) hn (by rw [FP.Core.qmin_b64]; omega) (by show -(i : Int) ≤ 971; omega)
  have h3 : FP.Core.val64 x = .fin s c q := by rw [h]; exact h1
  have hf := FP.Core.val64_fits x
  rw [h3] at hf
  have hq : -1074 ≤ q := hf.2.1
  refine ⟨c, q, h3, hq, ?_⟩
  have h4 : c * 2 ^ (q + 1074).toNat = n * 2 ^ (1074 - i) := by
    have e : c * 2 ^ (q - (-1074)).toNat = n * 2 ^ (-(i : Int) - (-1074)).toNat := h2
    rw [show (q - (-1074)).toNat = (q + 1074).toNat by omega, show (-(i : Int) - (-1074)).toNat = 1074 - i by omega] at e
    exact e
  rw [Nat.pow_add, ← Nat.mul_assoc, h4, Nat.mul_assoc, ← Nat.pow_add, Nat.sub_add_cancel (by omega)]
theorem Pd_mul {i j : Nat} {s t : Bool} {n m : Nat} {x y : UInt64} (hx : Pd i s n x) (hy : Pd j t m y) (hij : i + j ≤ 100) (hnm : n * m < 2 ^ 53) : Pd (i + j) (s != t) (n * m) (FP.dmul x y) := by
  obtain ⟨c, q, h1, h2, h3⟩ := hx
  obtain ⟨d, r, g1, g2, g3⟩ := hy
  refine Pd_round hij hnm ?_
  have e : FP.Core.val64 (FP.dmul x y) = FP.Core.roundRatio FP.Core.b64 (s != t) (c * d) 1 (q + r) := by
    show FP.Core.val64 (FP.Core.dmul x y) = _
    rw [FP.Core.val64_dmul, h1, g1]
    rfl
  rw [e]
  refine FP.Core.roundRatio_congr (by decide) (by decide) ?_
  have h4 : c * d * 2 ^ ((q + 1074).toNat + i + ((r + 1074).toNat + j)) = n * m * 2 ^ (1074 + 1074) := by
    rw [Nat.pow_add, Nat.pow_add 2 1074 1074, Nat.mul_mul_mul_comm, h3, g3, Nat.mul_mul_mul_comm]
  have h5 := pw_cut h4
  rw [Nat.mul_one, Nat.mul_one, show (q + r - -((i + j : Nat) : Int)).toNat = (q + 1074).toNat + i + ((r + 1074).toNat + j) - (1074 + 1074) by omega, show (-((i + j : Nat) : Int) - (q + r)).toNat = 1074 + 1074 - ((q + 1074).toNat + i + ((r + 1074).toNat + j)) by omega]
  exact h5
theorem Pd_i2d (x : Int32) : Pd 0 (decide (x.toInt < 0)) x.toInt.natAbs (FP.i2d x) := by
  have h1 := x.toInt_lt
  have h2 := x.le_toInt
  refine Pd_round (by decide) (by omega) ?_
  show FP.Core.val64 (FP.Core.i2d x) = _
  rw [FP.Core.val64_i2d]
  rfl
theorem Pd_8th : Pd 3 false 1 0x3fc0000000000000 := ⟨2 ^ 52, -55, by decide +kernel, by decide, by decide +kernel⟩
theorem Pd_fin {i : Nat} {s : Bool} {n : Nat} {x : UInt64} (h : Pd i s n x) : FP.Core.val64 x ≠ .nan := by
  obtain ⟨c, q, h1, _, _⟩ := h
  rw [h1]
  exact fun q => by cases q
theorem Pd_n64 {i : Nat} {s : Bool} {n : Nat} {x : UInt64} (h : Pd i s n x) : vf_n64 x := by
  have h1 := (FP.Core.ne_nan x).mp (Pd_fin h)
  unfold vf_n64
  rw [UInt64.le_iff_toNat_le, FP.Core.mask_toNat]
  exact h1
/-- a comparison of numbers of one denominator -/
theorem Pd_zval {i : Nat} {s : Bool} {n : Nat} {x : UInt64} (h : Pd i s n x) : FP.Core.zval FP.Core.b64 (FP.Core.val64 x) * 2 ^ i = FP.Core.signed s n * 2 ^ 1074 := by
  obtain ⟨c, q, h1, h2, h3⟩ := h
  rw [h1]
  show FP.Core.signed s (c * 2 ^ (q - FP.Core.b64.qmin).toNat) * 2 ^ i = _
  rw [FP.Core.qmin_b64, show (q - -1074).toNat = (q + 1074).toNat by omega]
  rw [Nat.pow_add, ← Nat.mul_assoc] at h3
  have h4 : ((c * 2 ^ (q + 1074).toNat : Nat) : Int) * 2 ^ i = (n : Int) * 2 ^ 1074 := by
    have := congrArg (fun z : Nat => (z : Int)) h3
    simpa using this
  cases s
  · exact h4
  · show -((c * 2 ^ (q + 1074).toNat : Nat) : Int) * 2 ^ i = -(n : Int) * 2 ^ 1074
    rw [Int.neg_mul, h4, Int.neg_mul]
theorem Pd_cmp {i : Nat} {s t : Bool} {n m : Nat} {x y : UInt64} (hx : Pd i s n x) (hy : Pd i t m y) : FP.dcmp x y = some (compare (FP.Core.signed s n) (FP.Core.signed t m)) := by
  show FP.Core.dcmp x y = _
  rw [FP.Core.dcmp_zval (Pd_fin hx) (Pd_fin hy)]
  have h1 := Pd_zval hx
  have h2 := Pd_zval hy
  have hp : (0 : Int) < 2 ^ i := Int.pow_pos (by decide)
  have hq : (0 : Int) < 2 ^ 1074 := Int.pow_pos (by decide)
  rw [← FP.Core.compare_mul_pos _ _ _ hp, h1, h2, FP.Core.compare_mul_pos _ _ _ hq]
/-- another denominator -/
theorem Pd_up {i j : Nat} {s : Bool} {n : Nat} {x : UInt64} (h : Pd i s n x) : Pd (i + j) s (n * 2 ^ j) x := by
  obtain ⟨c, q, h1, h2, h3⟩ := h
  refine ⟨c, q, h1, h2, ?_⟩
  rw [← Nat.add_assoc, Nat.pow_add, ← Nat.mul_assoc, h3, Nat.mul_right_comm]
/-- the whole part -/
theorem Pd_d2i {i : Nat} {s : Bool} {n : Nat} {x : UInt64} (h : Pd i s n x) (hn : n < 2 ^ 31) : FP.d2i x = i32 (FP.Core.signed s (n / 2 ^ i)) := by
  obtain ⟨c, q, h1, h2, h3⟩ := h
  show FP.Core.toI (FP.Core.val64 x) = _
  rw [h1]
  show Int32.ofInt (max (-2 ^ 31) (min (2 ^ 31 - 1) (FP.Core.signed s (c * 2 ^ q.toNat / 2 ^ (-q).toNat)))) = _
  have h4 : c * 2 ^ (q.toNat + i) = n * 2 ^ (-q).toNat := by
    have h5 := pw_cut h3
    have e : (q + 1074).toNat + i - 1074 = q.toNat + i ∨ q < 0 := by omega
    rcases Int.lt_or_le q 0 with g | g
    · have h6 : c * 2 ^ ((q + 1074).toNat + i + (-q).toNat) = n * 2 ^ (1074 + (-q).toNat) := by rw [Nat.pow_add, ← Nat.mul_assoc, h3, Nat.pow_add 2 1074, Nat.mul_assoc]
      rw [show (q + 1074).toNat + i + (-q).toNat = i + 1074 by omega] at h6
      have h7 := pw_cut h6
      rw [show i + 1074 - (1074 + (-q).toNat) = i - (-q).toNat by omega, show 1074 + (-q).toNat - (i + 1074) = (-q).toNat - i by omega] at h7
      rw [show q.toNat + i = i by omega]
      rcases Nat.le_total i (-q).toNat with g2 | g2
      · rw [Nat.sub_eq_zero_of_le g2, Nat.pow_zero, Nat.mul_one] at h7
        rw [h7, Nat.mul_assoc, ← Nat.pow_add, Nat.sub_add_cancel g2]
      · rw [Nat.sub_eq_zero_of_le g2, Nat.pow_zero, Nat.mul_one] at h7
        rw [← h7, Nat.mul_assoc, ← Nat.pow_add, Nat.sub_add_cancel g2]
    · rw [show (q + 1074).toNat + i - 1074 = q.toNat + i by omega, show 1074 - ((q + 1074).toNat + i) = 0 by omega, Nat.pow_zero] at h5
      rw [show (-q).toNat = 0 by omega, Nat.pow_zero]
      exact h5
  have h5 : c * 2 ^ q.toNat / 2 ^ (-q).toNat = n / 2 ^ i := by
    rw [Nat.pow_add, ← Nat.mul_assoc] at h4
    rw [← Nat.mul_div_mul_right (c * 2 ^ q.toNat) (2 ^ (-q).toNat) (Nat.two_pow_pos i), h4, Nat.mul_comm (2 ^ (-q).toNat), Nat.mul_div_mul_right _ _ (Nat.two_pow_pos _)]
  rw [h5]
  have h6 : n / 2 ^ i ≤ n := Nat.div_le_self _ _
  have h7 : max (-2 ^ 31) (min (2 ^ 31 - 1) (FP.Core.signed s (n / 2 ^ i))) = FP.Core.signed s (n / 2 ^ i) := by
    generalize n / 2 ^ i = e at h6
    unfold FP.Core.signed
    cases s
    · rw [if_neg (by decide)]; omega
    · rw [if_pos rfl]; omega
  rw [h7]
theorem Pd_d2l {i : Nat} {s : Bool} {n : Nat} {x : UInt64} (h : Pd i s n x) (hn : n < 2 ^ 31) : FP.d2l x = i64 (FP.Core.signed s (n / 2 ^ i)) := by
  obtain ⟨c, q, h1, h2, h3⟩ := h
  show FP.Core.toL (FP.Core.val64 x) = _
  rw [h1]
  show Int64.ofInt (max (-2 ^ 63) (min (2 ^ 63 - 1) (FP.Core.signed s (c * 2 ^ q.toNat / 2 ^ (-q).toNat)))) = _
  have h4 : c * 2 ^ (q.toNat + i) = n * 2 ^ (-q).toNat := by
    have h5 := pw_cut h3
    rcases Int.lt_or_le q 0 with g | g
    · have h6 : c * 2 ^ ((q + 1074).toNat + i + (-q).toNat) = n * 2 ^ (1074 + (-q).toNat) := by rw [Nat.pow_add, ← Nat.mul_assoc, h3, Nat.pow_add 2 1074, Nat.mul_assoc]
      rw [show (q + 1074).toNat + i + (-q).toNat = i + 1074 by omega] at h6
      have h7 := pw_cut h6
      rw [show i + 1074 - (1074 + (-q).toNat) = i - (-q).toNat by omega, show 1074 + (-q).toNat - (i + 1074) = (-q).toNat - i by omega] at h7
      rw [show q.toNat + i = i by omega]
      rcases Nat.le_total i (-q).toNat with g2 | g2
      · rw [Nat.sub_eq_zero_of_le g2, Nat.pow_zero, Nat.mul_one] at h7
        rw [h7, Nat.mul_assoc, ← Nat.pow_add, Nat.sub_add_cancel g2]
      · rw [Nat.sub_eq_zero_of_le g2, Nat.pow_zero, Nat.mul_one] at h7
        rw [← h7, Nat.mul_assoc, ← Nat.pow_add, Nat.sub_add_cancel g2]
    · rw [show (q + 1074).toNat + i - 1074 = q.toNat + i by omega, show 1074 - ((q + 1074).toNat + i) = 0 by omega, Nat.pow_zero] at h5
      rw [show (-q).toNat = 0 by omega, Nat.pow_zero]
      exact h5
  have h5 : c * 2 ^ q.toNat / 2 ^ (-q).toNat = n / 2 ^ i := by
    rw [Nat.pow_add, ← Nat.mul_assoc] at h4
    rw [← Nat.mul_div_mul_right (c * 2 ^ q.toNat) (2 ^ (-q).toNat) (Nat.two_pow_pos i), h4, Nat.mul_comm (2 ^ (-q).toNat), Nat.mul_div_mul_right _ _ (Nat.two_pow_pos _)]
  rw [h5]
  have h6 : n / 2 ^ i ≤ n := Nat.div_le_self _ _
  have h7 : max (-2 ^ 63) (min (2 ^ 63 - 1) (FP.Core.signed s (n / 2 ^ i))) = FP.Core.signed s (n / 2 ^ i) := by
    generalize n / 2 ^ i = e at h6
    unfold FP.Core.signed
    cases s
    · rw [if_neg (by decide)]; omega
    · rw [if_pos rfl]; omega
  rw [h7]
theorem Pd_neg {i : Nat} {s : Bool} {n : Nat} {x : UInt64} (h : Pd i s n x) : Pd i (!s) n (FP.dneg x) := by
  obtain ⟨c, q, h1, h2, h3⟩ := h
  refine ⟨c, q, ?_, h2, h3⟩
  rw [FP.val64_dneg, h1]
  rfl
theorem Pd_sub {i : Nat} {n m : Nat} {x y : UInt64} (hx : Pd i false n x) (hy : Pd i false m y) (hi : i ≤ 100) (hm : m ≤ n) (hn : n < 2 ^ 53) : Pd i false (n - m) (FP.dsub x y) := by
  obtain ⟨c, q, h1, h2, h3⟩ := hx
  obtain ⟨d, r, g1, g2, g3⟩ := hy
  refine Pd_round hi (by omega) ?_
  have e1 : c * 2 ^ (q - min q r).toNat * 2 ^ ((min q r + 1074).toNat + i) = n * 2 ^ 1074 := by
    rw [Nat.mul_assoc, ← Nat.pow_add, show (q - min q r).toNat + ((min q r + 1074).toNat + i) = (q + 1074).toNat + i by omega]
    exact h3
  have e2 : d * 2 ^ (r - min q r).toNat * 2 ^ ((min q r + 1074).toNat + i) = m * 2 ^ 1074 := by
    rw [Nat.mul_assoc, ← Nat.pow_add, show (r - min q r).toNat + ((min q r + 1074).toNat + i) = (r + 1074).toNat + i by omega]
    exact g3
  have e : FP.Core.val64 (FP.dsub x y) = FP.Core.round FP.Core.b64 (.fin (FP.Core.sumSign false true ((c * 2 ^ (q - min q r).toNat : Nat) + -((d * 2 ^ (r - min q r).toNat : Nat) : Int))) ((c * 2 ^ (q - min q r).toNat : Nat) + -((d * 2 ^ (r - min q r).toNat : Nat) : Int)).natAbs (min q r)) := by
    show FP.Core.val64 (FP.Core.dsub x y) = _
    rw [FP.Core.val64_dsub, h1, g1]
    rfl
  rw [e]
  generalize c * 2 ^ (q - min q r).toNat = P at e1
  generalize d * 2 ^ (r - min q r).toNat = Q at e2
  have hPQ : Q ≤ P := by
    refine Nat.le_of_mul_le_mul_right ?_ (Nat.two_pow_pos ((min q r + 1074).toNat + i))
    rw [e1, e2]
    exact Nat.mul_le_mul_right _ hm
  have hs : FP.Core.sumSign false true ((P : Int) + -(Q : Int)) = false := by
    unfold FP.Core.sumSign
    split
    · rfl
    · exact decide_eq_false (by omega)
  rw [hs, show ((P : Int) + -(Q : Int)).natAbs = P - Q by omega]
  refine FP.Core.roundRatio_congr (by decide) (by decide) ?_
  have h5 := pw_cut (a := P - Q) (b := n - m) (x := (min q r + 1074).toNat + i) (y := 1074) (by rw [Nat.sub_mul, Nat.sub_mul, e1, e2])
  rw [Nat.mul_one, Nat.mul_one, show (min q r - -(i : Int)).toNat = (min q r + 1074).toNat + i - 1074 by omega, show (-(i : Int) - min q r).toNat = 1074 - ((min q r + 1074).toNat + i) by omega]
  exact h5
/-- two numbers with no sign: the sum, rounded -/
theorem Pd_addr {i : Nat} {n m : Nat} {x y : UInt64} (hx : Pd i false n x) (hy : Pd i false m y) : FP.Core.val64 (FP.dadd x y) = FP.Core.roundRatio FP.Core.b64 false (n + m) 1 (-(i : Int)) := by
  obtain ⟨c, q, h1, h2, h3⟩ := hx
  obtain ⟨d, r, g1, g2, g3⟩ := hy
  have e1 : c * 2 ^ (q - min q r).toNat * 2 ^ ((min q r + 1074).toNat + i) = n * 2 ^ 1074 := by
    rw [Nat.mul_assoc, ← Nat.pow_add, show (q - min q r).toNat + ((min q r + 1074).toNat + i) = (q + 1074).toNat + i by omega]
    exact h3
  have e2 : d * 2 ^ (r - min q r).toNat * 2 ^ ((min q r + 1074).toNat + i) = m * 2 ^ 1074 := by
    rw [Nat.mul_assoc, ← Nat.pow_add, show (r - min q r).toNat + ((min q r + 1074).toNat + i) = (r + 1074).toNat + i by omega]
    exact g3
  have e : FP.Core.val64 (FP.dadd x y) = FP.Core.round FP.Core.b64 (.fin (FP.Core.sumSign false false ((c * 2 ^ (q - min q r).toNat : Nat) + ((d * 2 ^ (r - min q r).toNat : Nat) : Int))) ((c * 2 ^ (q - min q r).toNat : Nat) + ((d * 2 ^ (r - min q r).toNat : Nat) : Int)).natAbs (min q r)) := by
    show FP.Core.val64 (FP.Core.dadd x y) = _
    rw [FP.Core.val64_dadd, h1, g1]
    rfl
  rw [e]
  generalize c * 2 ^ (q - min q r).toNat = P at e1
  generalize d * 2 ^ (r - min q r).toNat = Q at e2
  have hs : FP.Core.sumSign false false ((P : Int) + (Q : Int)) = false := by
    unfold FP.Core.sumSign
    split
    · rfl
    · exact decide_eq_false (by omega)
  rw [hs, show ((P : Int) + (Q : Int)).natAbs = P + Q by omega]
  refine FP.Core.roundRatio_congr (by decide) (by decide) ?_
  have h5 := pw_cut (a := P + Q) (b := n + m) (x := (min q r + 1074).toNat + i) (y := 1074) (by rw [Nat.add_mul, Nat.add_mul, e1, e2])
  rw [Nat.mul_one, Nat.mul_one, show (min q r - -(i : Int)).toNat = (min q r + 1074).toNat + i - 1074 by omega, show (-(i : Int) - min q r).toNat = 1074 - ((min q r + 1074).toNat + i) by omega]
  exact h5
