/-! ===== small numbers, masks of ten bits, booleans ===== -/
def bI (b : Bool) : Int32 := if b then 1 else 0
theorem bI_t : bI true = 1 := rfl
theorem bI_f : bI false = 0 := rfl
theorem bI_0 {b : Bool} (h : bI b = 0) : b = false := by cases b <;> first | rfl | (exact absurd h (by decide))
theorem bI_1 {b : Bool} (h : ¬ bI b = 0) : b = true := by cases b <;> first | rfl | (exact absurd rfl h)
theorem bI_nar (b : Bool) : narrow .boolean (.int (bI b)) = .int (bI b) := by cases b <;> rfl
theorem bI_fit (b : Bool) : fits .boolean (.int (bI b)) = true := by cases b <;> rfl
theorem bI_vn (b : Bool) : vp_nar .boolean (bI b) = bI b := by cases b <;> rfl
def andn (a b : Nat) : Nat := a ^^^ (a &&& b)
theorem andn_bit (a b j : Nat) : (andn a b).testBit j = (a.testBit j && !b.testBit j) := by
  unfold andn
  rw [Nat.testBit_xor, Nat.testBit_and]
  cases a.testBit j <;> cases b.testBit j <;> rfl
theorem andn_lt {a b n : Nat} (h : a < 2 ^ n) : andn a b < 2 ^ n := Nat.xor_lt_two_pow h (by rw [Nat.and_comm]; exact Nat.and_lt_two_pow _ h)
theorem zand (a b : Nat) : nI a &&& nI b = nI (a &&& b) := by
  apply Int32.toBitVec_inj.1
  show BitVec.ofNat 32 a &&& BitVec.ofNat 32 b = BitVec.ofNat 32 (a &&& b)
  apply BitVec.eq_of_getLsbD_eq
  intro i hi
  simp [hi]
theorem zxor (a b : Nat) : nI a ^^^ nI b = nI (a ^^^ b) := by
  apply Int32.toBitVec_inj.1
  show BitVec.ofNat 32 a ^^^ BitVec.ofNat 32 b = BitVec.ofNat 32 (a ^^^ b)
  apply BitVec.eq_of_getLsbD_eq
  intro i hi
  simp [hi]
theorem zor (a b : Nat) : nI a ||| nI b = nI (a ||| b) := by
  apply Int32.toBitVec_inj.1
  show BitVec.ofNat 32 a ||| BitVec.ofNat 32 b = BitVec.ofNat 32 (a ||| b)
  apply BitVec.eq_of_getLsbD_eq
  intro i hi
  simp [hi]
theorem zandn (a b : Nat) : nI a &&& (nI b ^^^ (-1)) = nI (andn a b) := by
  have h : nI a &&& (nI b ^^^ (-1)) = nI a ^^^ (nI a &&& nI b) := by
    apply Int32.toBitVec_inj.1
    rw [Int32.toBitVec_and, Int32.toBitVec_xor, Int32.toBitVec_xor, Int32.toBitVec_and]
    show _ &&& (_ ^^^ BitVec.allOnes 32) = _
    apply BitVec.eq_of_getLsbD_eq
    intro i hi
    simp only [BitVec.getLsbD_and, BitVec.getLsbD_xor, BitVec.getLsbD_allOnes, hi, decide_true]
    generalize (nI a).toBitVec.getLsbD i = p
    generalize (nI b).toBitVec.getLsbD i = q
    revert p q
    decide
  rw [h, zand, zxor]
  rfl
/-- a bit put in, a bit taken out -/
def sb (S i : Nat) : Nat := S ||| 2 ^ i
def cb (S i : Nat) : Nat := andn S (2 ^ i)
theorem sb_bit (S i j : Nat) : (sb S i).testBit j = (S.testBit j || decide (j = i)) := by
  unfold sb
  rw [Nat.testBit_or, Nat.testBit_two_pow]
  congr 1
  exact decide_eq_decide.mpr ⟨fun h => h.symm, fun h => h.symm⟩
theorem cb_bit (S i j : Nat) : (cb S i).testBit j = (S.testBit j && !decide (j = i)) := by
  unfold cb
  rw [andn_bit, Nat.testBit_two_pow]
  congr 2
  exact decide_eq_decide.mpr ⟨fun h => h.symm, fun h => h.symm⟩
theorem cb_lt {S i n : Nat} (h : S < 2 ^ n) : cb S i < 2 ^ n := andn_lt h
theorem sb_lt {S i n : Nat} (h : S < 2 ^ n) (hi : i < n) : sb S i < 2 ^ n := Nat.or_lt_two_pow h (Nat.pow_lt_pow_right (by omega) hi)
theorem bit_lt {S i n : Nat} (h : S < 2 ^ n) (hb : S.testBit i = true) : i < n := by
  rcases Nat.lt_or_ge i n with q | q
  · exact q
  · rw [Nat.testBit_lt_two_pow (Nat.lt_of_lt_of_le h (Nat.pow_le_pow_right (by omega) q))] at hb
    cases hb
theorem zext {S T n : Nat} (hS : S < 2 ^ n) (hT : T < 2 ^ n) (h : ∀ j, j < n → S.testBit j = T.testBit j) : S = T := by
  apply Nat.eq_of_testBit_eq
  intro j
  rcases Nat.lt_or_ge j n with q | q
  · exact h j q
  · rw [Nat.testBit_lt_two_pow (Nat.lt_of_lt_of_le hS (Nat.pow_le_pow_right (by omega) q)), Nat.testBit_lt_two_pow (Nat.lt_of_lt_of_le hT (Nat.pow_le_pow_right (by omega) q))]
theorem one_shl : ∀ i, i < 31 → (1 : Int32) <<< (nI i &&& 31) = nI (2 ^ i) := by decide +kernel
theorem amt31 : ∀ i, i < 31 → ((nI i &&& 31).toBitVec.smod 32).toNat = i := by decide +kernel
theorem shr_bit {S i : Nat} (hS : S < 2 ^ 31) (hi : i < 31) : ((nI S >>> (nI i &&& 31)) &&& 1) = bI (S.testBit i) := by
  rw [pk_shrN hS _ i (amt31 i hi), pk_andN (n := S / 2 ^ i) (Nat.lt_of_le_of_lt (Nat.div_le_self _ _) (by omega)) (m := 1) 1 (by decide), Nat.testBit_eq_decide_div_mod_eq]
  rcases Nat.mod_two_eq_zero_or_one (S / 2 ^ i) with h | h
  · rw [show S / 2 ^ i % 2 ^ 1 = 0 from h]; rfl
  · rw [show S / 2 ^ i % 2 ^ 1 = 1 from h]; rfl
/-- how many of the first n bits are set -/
def popn : Nat → Nat → Nat
  | 0, _ => 0
  | n + 1, S => popn n S + (if S.testBit n then 1 else 0)
def pop (S : Nat) : Nat := popn 10 S
/-- the mask of a set -/
def mk (p : Nat → Bool) : Nat → Nat
  | 0 => 0
  | n + 1 => if p n then sb (mk p n) n else mk p n
theorem mk_lt (p : Nat → Bool) : ∀ n, mk p n < 2 ^ n
  | 0 => Nat.one_pos
  | n + 1 => by
    have h := mk_lt p n
    have h2 : mk p n < 2 ^ (n + 1) := Nat.lt_trans h (Nat.pow_lt_pow_right (by omega) (by omega))
    unfold mk
    split
    · exact sb_lt h2 (by omega)
    · exact h2
theorem mk_bit (p : Nat → Bool) : ∀ n j, (mk p n).testBit j = (decide (j < n) && p j)
  | 0, j => by simp [mk]
  | n + 1, j => by
    unfold mk
    by_cases h : p n = true
    · rw [if_pos h, sb_bit, mk_bit p n j]
      by_cases e : j = n
      · subst e; simp [h]
      · have : (j < n) = (j < n + 1) := propext ⟨fun q => by omega, fun q => by omega⟩
        simp [e, this]
    · rw [if_neg h, mk_bit p n j]
      by_cases e : j = n
      · subst e; simp [h]
      · have : (j < n) = (j < n + 1) := propext ⟨fun q => by omega, fun q => by omega⟩
        simp [this]
theorem mk_cong {p q : Nat → Bool} : ∀ n, (∀ j, j < n → p j = q j) → mk p n = mk q n
  | 0, _ => rfl
  | n + 1, h => by unfold mk; rw [h n (by omega), mk_cong n (fun j hj => h j (by omega))]
/-! a whole number as an int -/
abbrev i32 (z : Int) : Int32 := Int32.ofInt z
theorem i32_add (a b : Int) : i32 a + i32 b = i32 (a + b) := (Int32.ofInt_add a b).symm
theorem i32_sub (a b : Int) : i32 a - i32 b = i32 (a - b) := (Int32.ofInt_sub a b).symm
theorem i32_mul (a b : Int) : i32 a * i32 b = i32 (a * b) := (Int32.ofInt_mul a b).symm
theorem i32_n (n : Nat) : nI n = i32 (n : Int) := rfl
theorem i32_int {z : Int} (h1 : -2147483648 ≤ z) (h2 : z < 2147483648) : (i32 z).toInt = z := by
  rw [Int32.toInt_ofInt]
  exact Int.bmod_eq_of_le (by simpa using h1) (by simpa using h2)
abbrev ok32 (z : Int) : Prop := -2147483648 ≤ z ∧ z < 2147483648
theorem i32_lt {a b : Int} (ha : ok32 a) (hb : ok32 b) : i32 a < i32 b ↔ a < b := by rw [Int32.lt_iff_toInt_lt, i32_int ha.1 ha.2, i32_int hb.1 hb.2]
theorem i32_le {a b : Int} (ha : ok32 a) (hb : ok32 b) : i32 a ≤ i32 b ↔ a ≤ b := by rw [Int32.le_iff_toInt_le, i32_int ha.1 ha.2, i32_int hb.1 hb.2]
theorem i32_eq {a b : Int} (ha : ok32 a) (hb : ok32 b) : i32 a = i32 b ↔ a = b := ⟨fun h => by
  have := congrArg Int32.toInt h
  rwa [i32_int ha.1 ha.2, i32_int hb.1 hb.2] at this, fun h => by rw [h]⟩
theorem i32_of (x : Int32) : x = i32 x.toInt := (Int32.ofInt_toInt x).symm
theorem i32_min {a b : Int} (ha : ok32 a) (hb : ok32 b) : (if i32 b < i32 a then i32 b else i32 a) = i32 (min a b) := by
  by_cases h : b < a
  · rw [if_pos ((i32_lt hb ha).mpr h), Int.min_eq_right (by omega)]
  · rw [if_neg (fun q => h ((i32_lt hb ha).mp q)), Int.min_eq_left (by omega)]
theorem zix (r c : Nat) : nI r * 10 + nI c = nI (10 * r + c) := by
  rw [show (10 : Int32) = nI 10 from rfl, pk_mul, nI_add, Nat.mul_comm]
theorem zix' (r c : Nat) : 10 * nI r + nI c = nI (10 * r + c) := by
  rw [show (10 : Int32) = nI 10 from rfl, pk_mul, nI_add]
theorem i32_div {a b : Int} (ha : ok32 a) (hb : ok32 b) (hq : ok32 (a.tdiv b)) : i32 a / i32 b = i32 (a.tdiv b) := by
  apply Int32.toInt_inj.mp
  rw [Int32.toInt_div, i32_int ha.1 ha.2, i32_int hb.1 hb.2, i32_int hq.1 hq.2]
  exact Int.bmod_eq_of_le (by simpa using hq.1) (by simpa using hq.2)
abbrev i64 (z : Int) : Int64 := Int64.ofInt z
abbrev ok64 (z : Int) : Prop := -9223372036854775808 ≤ z ∧ z < 9223372036854775808
theorem i64_int {z : Int} (h : ok64 z) : (i64 z).toInt = z := by
  rw [Int64.toInt_ofInt]
  exact Int.bmod_eq_of_le (by simpa using h.1) (by simpa using h.2)
theorem i64_add (a b : Int) : i64 a + i64 b = i64 (a + b) := (Int64.ofInt_add a b).symm
theorem i64_mul (a b : Int) : i64 a * i64 b = i64 (a * b) := (Int64.ofInt_mul a b).symm
theorem i64_eq {a b : Int} (ha : ok64 a) (hb : ok64 b) : i64 a = i64 b ↔ a = b := ⟨fun h => by
  have := congrArg Int64.toInt h
  rwa [i64_int ha, i64_int hb] at this, fun h => by rw [h]⟩
theorem i64_lt {a b : Int} (ha : ok64 a) (hb : ok64 b) : i64 a < i64 b ↔ a < b := by rw [Int64.lt_iff_toInt_lt, i64_int ha, i64_int hb]
theorem i64_le {a b : Int} (ha : ok64 a) (hb : ok64 b) : i64 a ≤ i64 b ↔ a ≤ b := by rw [Int64.le_iff_toInt_le, i64_int ha, i64_int hb]
theorem i32_long {z : Int} (h : ok32 z) : (i32 z).toInt64 = i64 z := by
  apply Int64.toInt_inj.mp
  rw [Int32.toInt_toInt64, i32_int h.1 h.2, i64_int ⟨by have := h.1; omega, by have := h.2; omega⟩]
theorem x_long (x : Int32) : x.toInt64 = i64 x.toInt := by
  apply Int64.toInt_inj.mp
  have h1 := Int32.le_toInt x
  have h2 := Int32.toInt_lt x
  rw [Int32.toInt_toInt64, i64_int ⟨by omega, by omega⟩]
theorem lcmp_v (x y : Int64) : (y < x ∧ lg_cmp x y = 1) ∨ (x = y ∧ lg_cmp x y = 0) ∨ (x < y ∧ lg_cmp x y = -1) := by
  unfold lg_cmp
  by_cases h1 : x > y
  · exact Or.inl ⟨h1, if_pos h1⟩
  · rw [if_neg h1]
    by_cases h2 : x = y
    · exact Or.inr (Or.inl ⟨h2, if_pos h2⟩)
    · refine Or.inr (Or.inr ⟨?_, if_neg h2⟩)
      rw [Int64.lt_iff_toInt_lt]
      have h3 : ¬ y.toInt < x.toInt := fun q => h1 (Int64.lt_iff_toInt_lt.mpr q)
      have h4 : x.toInt ≠ y.toInt := fun q => h2 (Int64.toInt_inj.mp q)
      omega
theorem lcmp_0 {a b : Int} (ha : ok64 a) (hb : ok64 b) : lg_cmp (i64 a) (i64 b) < 0 ↔ a < b := by
  rcases lcmp_v (i64 a) (i64 b) with ⟨h, e⟩ | ⟨h, e⟩ | ⟨h, e⟩ <;> rw [e]
  · have := (i64_lt hb ha).mp h
    exact ⟨fun q => absurd q (by decide), fun q => by omega⟩
  · have := (i64_eq ha hb).mp h
    exact ⟨fun q => absurd q (by decide), fun q => by omega⟩
  · exact ⟨fun _ => (i64_lt ha hb).mp h, fun _ => by decide⟩
theorem lcmp_1 {a b : Int} (ha : ok64 a) (hb : ok64 b) : 0 < lg_cmp (i64 a) (i64 b) ↔ b < a := by
  rcases lcmp_v (i64 a) (i64 b) with ⟨h, e⟩ | ⟨h, e⟩ | ⟨h, e⟩ <;> rw [e]
  · exact ⟨fun _ => (i64_lt hb ha).mp h, fun _ => by decide⟩
  · have := (i64_eq ha hb).mp h
    exact ⟨fun q => absurd q (by decide), fun q => by omega⟩
  · have := (i64_lt ha hb).mp h
    exact ⟨fun q => absurd q (by decide), fun q => by omega⟩
theorem lcmp_e (x y : Int64) : lg_cmp x y = 0 ↔ x = y := by
  rcases lcmp_v x y with ⟨h, e⟩ | ⟨h, e⟩ | ⟨h, e⟩ <;> rw [e]
  · exact ⟨fun q => absurd q (by decide), fun q => absurd h (by rw [q]; exact Int64.lt_irrefl)⟩
  · exact ⟨fun _ => h, fun _ => rfl⟩
  · exact ⟨fun q => absurd q (by decide), fun q => absurd h (by rw [q]; exact Int64.lt_irrefl)⟩
/-- a counter that goes down, one place behind -/
def dn : Nat → Int32
  | 0 => -1
  | n + 1 => nI n
theorem dn_step (n : Nat) : nI n + Int32.ofInt (-1) = dn n := by
  cases n with
  | zero => decide
  | succ n => exact pk_m1 n
theorem swar : ∀ n, n < 1024 → (fun x : Int32 => (fun x : Int32 => (fun x : Int32 => (fun x : Int32 => (fun x : Int32 => x &&& 63) (x + (x.toUInt32 >>> ((16 : Int32).toUInt32 &&& Int32.toUInt32 31)).toInt32)) (x + (x.toUInt32 >>> ((8 : Int32).toUInt32 &&& Int32.toUInt32 31)).toInt32)) ((x + (x.toUInt32 >>> ((4 : Int32).toUInt32 &&& Int32.toUInt32 31)).toInt32) &&& 252645135)) ((x &&& 858993459) + ((x.toUInt32 >>> ((2 : Int32).toUInt32 &&& Int32.toUInt32 31)).toInt32 &&& 858993459))) (nI n - (((nI n).toUInt32 >>> ((1 : Int32).toUInt32 &&& Int32.toUInt32 31)).toInt32 &&& 1431655765)) = nI (pop n) := by decide +kernel
theorem pop_le (S : Nat) : pop S ≤ 10 := by
  have h : ∀ n, popn n S ≤ n := fun n => by
    induction n with
    | zero => exact Nat.le_refl _
    | succ n ih =>
      unfold popn
      split <;> omega
  exact h 10
theorem k500000 : (500000 : Int32) = i32 500000 := by decide +kernel
theorem k1000000 : (1000000 : Int32) = i32 1000000 := by decide +kernel
theorem k100000000 : (100000000 : Int32) = i32 100000000 := by decide +kernel
theorem k20000 : (20000 : Int32) = i32 20000 := by decide +kernel
theorem k10000 : (10000 : Int32) = i32 10000 := by decide +kernel
theorem km10000 : (-10000 : Int32) = i32 (-10000) := by decide +kernel
theorem kL10000 : (10000 : Int64) = i64 10000 := by decide +kernel
theorem kLm10000 : (-10000 : Int64) = i64 (-10000) := by decide +kernel
theorem kL31 : (31 : Int64) = i64 31 := by decide +kernel
def cbl (A S r : Nat) : Bool := decide (andn S A = 0) && decide (pop (andn A S) ≤ r)
theorem nI_z {n : Nat} (h : n < 2 ^ 31) : nI n = 0 ↔ n = 0 := nI_eq (b := 0) h (by decide)
