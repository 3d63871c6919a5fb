/-! ===== sums of ints over places; the number of best ways; what a supposition comes to ===== -/
def sm (f : Nat → Int32) : Nat → Int32
  | 0 => 0
  | n + 1 => sm f n + f n
theorem sm_cong {f g : Nat → Int32} : ∀ n, (∀ i, i < n → f i = g i) → sm f n = sm g n
  | 0, _ => rfl
  | n + 1, h => by unfold sm; rw [sm_cong n (fun i hi => h i (by omega)), h n (by omega)]
/-- one place changed by d -/
theorem sm_put {f g : Nat → Int32} {k : Nat} {d : Int32} (hk : g k = f k + d) (ho : ∀ i, i ≠ k → g i = f i) : ∀ n, k < n → sm g n = sm f n + d
  | 0, h => absurd h (Nat.not_lt_zero k)
  | n + 1, h => by
    unfold sm
    by_cases e : k = n
    · subst e
      rw [hk, sm_cong k (fun i hi => ho i (by omega)), ← Int32.add_assoc]
    · rw [sm_put hk ho n (by omega), ho n (Ne.symm e), Int32.add_assoc, Int32.add_comm d, ← Int32.add_assoc]
/-- how many best ways the last k rows have, of free columns S: by the columns below n of the first of them -/
def bwf (o : Nat → Bool) (b : Nat → Int32) (S : Nat) (b0 : Int32) : Nat → Int32
  | 0 => b0
  | n + 1 => if o n then bwf o b S b0 n + b (cb S n) else bwf o b S b0 n
def Bw (ra ca : Nat) (z : Nat → Int) : Nat → Nat → Int32
  | 0, _ => 1
  | k + 1, S => bwf (fun c => opt ra ca z (9 - k) c S) (Bw ra ca z k) S (if Ls ra ca z k S = Ls ra ca z (k + 1) S then Bw ra ca z k S else 0) 10
/-- the least score with row r0 as supposed, k rows up -/
def Up (ra ca : Nat) (z : Nat → Int) (g : Nat → Int) (r0 : Nat) : Nat → Nat → Int
  | 0, S => g S
  | k + 1, S => rmin (us ra ca z (r0 - (k + 1)) &&& S) (sc z (r0 - (k + 1))) (Up ra ca z g r0 k) S
/-- what a score costs more than the best, if it is full -/
def xco (v f : Int) : Int := if szf v = szf f then v - f else -1
theorem Up_bd {ra ca : Nat} {z : Nat → Int} {g : Nat → Int} {r0 : Nat} (hz : ∀ k, k < 100 → zok (z k)) (hr : r0 ≤ 10) (hg : ∀ S, S < 1024 → cbl ca S r0 = true → bd 110000000 (g S)) (hca : ca < 1024) : ∀ (k S : Nat), k ≤ r0 → S < 1024 → cbl ca S (r0 - k) = true → bd (110000000 + 1100000 * (k : Int)) (Up ra ca z g r0 k S)
  | 0, S, _, hS, hb => by
    have := hg S hS hb
    unfold Up
    omega
  | k + 1, S, h, hS, hb => by
    have e0 : r0 - (k + 1) + 1 = r0 - k := by omega
    have h1 := rmf_bd (m := us ra ca z (r0 - (k + 1)) &&& S) (s := sc z (r0 - (k + 1))) (nx := Up ra ca z g r0 k) (S := S) (B := 110000000 + 1100000 * (k : Int)) (Up_bd hz hr hg hca k S (by omega) hS (by rw [← e0]; exact cbl_mono hb)) (fun c hc hc2 => ⟨sc_bd hz (by omega) hc, Up_bd hz hr hg hca k _ (by omega) (Nat.lt_of_le_of_lt (cb_le S c) hS) (by rw [← e0]; exact cbl_cb hc hb (by rw [Nat.testBit_and] at hc2; simp at hc2; exact hc2.2))⟩) 10 (Nat.le_refl _)
    have e : Up ra ca z g r0 (k + 1) S = rmf (us ra ca z (r0 - (k + 1)) &&& S) (sc z (r0 - (k + 1))) (Up ra ca z g r0 k) S 10 := rfl
    rw [e]
    omega
/-- a digest's steps -/
def dgf (f : Nat → Int) : Nat → Int64 → Int64
  | 0, d => d
  | n + 1, d => dgf f n d * 31 + i64 (f n)
theorem dgf_cong {f g : Nat → Int} : ∀ n d, (∀ i, i < n → f i = g i) → dgf f n d = dgf g n d
  | 0, _, _ => rfl
  | n + 1, d, h => by unfold dgf; rw [dgf_cong n d (fun i hi => h i (by omega)), h n (by omega)]
def cZ (c : Nat) : Int := if c < 10 then (c : Int) else -1
theorem cI_z (c : Nat) : cI c = i32 (cZ c) := by
  unfold cI cZ
  split
  · rfl
  · decide
theorem cZ_ok (c : Nat) : ok32 (cZ c) := by
  unfold cZ
  split <;> omega
