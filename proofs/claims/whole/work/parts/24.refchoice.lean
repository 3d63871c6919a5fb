/-- a row's choices: its usable columns, and none -/
def chU (ra ca : Nat) (z : Nat → Int) (r : Nat) : Nat := 1024 ||| us ra ca z r
def uP (ra ca : Nat) (z : Nat → Int) (r c : Nat) : Bool := al z (10 * r + c) && (ra.testBit r && ca.testBit c)
theorem us_uP (ra ca : Nat) (z : Nat → Int) (r : Nat) : us ra ca z r = mk (uP ra ca z r) 10 := by
  unfold us
  refine mk_cong 10 (fun c _ => ?_)
  unfold uP al
  by_cases e : z (10 * r + c) = 20000
  · simp [e]
  · simp [e]
theorem mk_ext {p : Nat → Bool} {C : Nat} (h : ∀ c, C ≤ c → p c = false) : ∀ n, C ≤ n → mk p n = mk p C
  | 0, h2 => by rw [show C = 0 by omega]
  | n + 1, h2 => by
    rcases Nat.lt_or_ge n C with g | g
    · rw [show C = n + 1 by omega]
    · rw [mk, h n g, if_neg (by decide), mk_ext h n g]
theorem chU_bit {ra ca r c : Nat} {z : Nat → Int} (hc : c < 10) : (chU ra ca z r).testBit c = (us ra ca z r).testBit c := by
  unfold chU
  rw [Nat.testBit_or, show (1024 : Nat) = 2 ^ 10 by decide, Nat.testBit_two_pow, decide_eq_false (by omega), Bool.false_or]
theorem chU_10 (ra ca : Nat) (z : Nat → Int) (r : Nat) : (chU ra ca z r).testBit 10 = true := by
  unfold chU
  rw [Nat.testBit_or, show (1024 : Nat) = 2 ^ 10 by decide, Nat.testBit_two_pow, decide_eq_true rfl, Bool.true_or]
theorem chU_lt (ra ca : Nat) (z : Nat → Int) (r : Nat) : chU ra ca z r < 2048 := Nat.or_lt_two_pow (n := 11) (by decide) (Nat.lt_trans (us_lt ra ca z r) (by decide))
/-- the choices that the usable pairs leave are as fill wants them -/
theorem chk_us {X Y : St} {A : DA} (h : MInv X A) (hF : Fr (fun k => k = 37 ∨ 42 ≤ k) X Y) {f : Nat → Nat} (hf : ∀ r, r < A.R → Zv Y 51 r = nI (f r)) (hs : ∀ r, r < A.R → f r < 2048 ∧ ∀ c, c < 10 → (f r).testBit c = true → (us A.ra A.ca A.z r).testBit c = true) : chk Y f (sc A.z) A.R A.C := fun r hr => by
  refine ⟨hf r hr, (hs r hr).1, fun c hc hb => ?_⟩
  have h1 := (hs r hr).2 c hc hb
  have hR := h.ok.R
  rw [us_bit hc, Bool.and_eq_true, Bool.and_eq_true, decide_eq_true_eq] at h1
  have hz := h.ok.t.2.2.1 (10 * r + c) (by omega)
  have hlc : c < A.C := Nat.lt_of_not_le (fun q => by rw [bt_out h.ok.t.2.1 q] at h1; exact absurd h1.2.1 (by decide))
  refine ⟨hlc, A.z (10 * r + c), rfl, ?_, ?_⟩
  · exact hz
  · rw [(hF 41 (by omega)).2.1]
    exact h.b.2.2.2.2.2 _ (by omega) (al_i.mpr h1.2.2)
