theorem cv_v (op : CmpOp) (a b : Int) : (a < b ∧ Op.cmpValue (some (compare a b)) op = -1) ∨ (a = b ∧ Op.cmpValue (some (compare a b)) op = 0) ∨ (b < a ∧ Op.cmpValue (some (compare a b)) op = 1) := by
  rcases Int.lt_trichotomy a b with h | h | h
  · exact Or.inl ⟨h, by rw [(FP.Core.compare_lt_iff a b).mpr h]; cases op <;> rfl⟩
  · exact Or.inr (Or.inl ⟨h, by rw [(FP.Core.compare_eq_iff a b).mpr h]; cases op <;> rfl⟩)
  · exact Or.inr (Or.inr ⟨h, by rw [(FP.Core.compare_gt_iff a b).mpr h]; cases op <;> rfl⟩)
theorem cv_ge (op : CmpOp) (a b : Int) : 0 ≤ Op.cmpValue (some (compare a b)) op ↔ b ≤ a := by
  rcases cv_v op a b with ⟨h, e⟩ | ⟨h, e⟩ | ⟨h, e⟩ <;> rw [e] <;> constructor <;> first | (intro _; omega) | (intro _; decide) | (intro q; exact absurd q (by decide))
theorem cv_gt (op : CmpOp) (a b : Int) : 0 < Op.cmpValue (some (compare a b)) op ↔ b < a := by
  rcases cv_v op a b with ⟨h, e⟩ | ⟨h, e⟩ | ⟨h, e⟩ <;> rw [e] <;> constructor <;> first | (intro _; omega) | (intro _; decide) | (intro q; exact absurd q (by decide))
theorem cv_eq (op : CmpOp) (a b : Int) : Op.cmpValue (some (compare a b)) op = 0 ↔ a = b := by
  rcases cv_v op a b with ⟨h, e⟩ | ⟨h, e⟩ | ⟨h, e⟩ <;> rw [e] <;> constructor <;> first | (intro _; omega) | (intro _; rfl) | (intro q; exact absurd q (by decide))
theorem Pd_0 (i : Nat) : Pd i false 0 FP.dconst0 := ⟨0, FP.Core.b64.qmin, FP.Core.val64_zero, by rw [FP.Core.qmin_b64]; decide, by rw [Nat.zero_mul, Nat.zero_mul]⟩
theorem Pd_half : Pd 3 false 4 4602678819172646912 := ⟨2 ^ 52, -53, by decide +kernel, by decide, by decide +kernel⟩
/-- n / 8, the nearest whole number -/
def n8 (n : Nat) : Nat := if n % 8 > 4 ∨ (n % 8 = 4 ∧ n / 8 % 2 = 1) then n / 8 + 1 else n / 8
def nz (s : Bool) (n : Nat) : Int := FP.Core.signed s (n8 n)
theorem sg_f (n : Nat) : FP.Core.signed false n = (n : Int) := rfl
theorem sg_t (n : Nat) : FP.Core.signed true n = -(n : Int) := rfl
theorem i32_ng (z : Int) : -(i32 z) = i32 (-z) := (Int32.ofInt_neg z).symm
theorem nz_pos {s : Bool} {n : Nat} (h : 0 ≤ FP.Core.signed s n) : nz s n = (n8 n : Int) := by
  unfold nz
  cases s
  · rfl
  · rw [sg_t] at h
    rw [show n = 0 by omega]; rfl
theorem nz_neg {s : Bool} {n : Nat} (h : FP.Core.signed s n < 0) : nz s n = -(n8 n : Int) := by
  unfold nz
  cases s
  · rw [sg_f] at h; omega
  · rfl
theorem Pd_sub0 {i : Nat} {x y : UInt64} (hx : Pd i true 0 x) (hy : Pd i false 0 y) (hi : i ≤ 100) : Pd i true 0 (FP.dsub x y) := by
  obtain ⟨c, q, h1, h2, h3⟩ := hx
  obtain ⟨d, r, g1, g2, g3⟩ := hy
  have hc : c = 0 := by
    rw [Nat.zero_mul] at h3
    rcases Nat.mul_eq_zero.mp h3 with e | e
    · exact e
    · exact absurd e (Nat.pos_iff_ne_zero.mp (Nat.two_pow_pos _))
  have hd : d = 0 := by
    rw [Nat.zero_mul] at g3
    rcases Nat.mul_eq_zero.mp g3 with e | e
    · exact e
    · exact absurd e (Nat.pos_iff_ne_zero.mp (Nat.two_pow_pos _))
  subst hc
  subst hd
  refine Pd_round hi (by decide) ?_
  show FP.Core.val64 (FP.Core.dsub x y) = _
  rw [FP.Core.val64_dsub, h1, g1]
  show FP.Core.round FP.Core.b64 (.fin (FP.Core.sumSign true true (-((0 * 2 ^ (q - min q r).toNat : Nat) : Int) + -((0 * 2 ^ (r - min q r).toNat : Nat) : Int))) (-((0 * 2 ^ (q - min q r).toNat : Nat) : Int) + -((0 * 2 ^ (r - min q r).toNat : Nat) : Int)).natAbs (min q r)) = _
  rw [Nat.zero_mul, Nat.zero_mul]
  rfl
theorem and1_odd {n : Nat} (h : n < 2 ^ 31) : (nI n &&& 1) = nI (n % 2) := by
  rw [show (1 : Int32) = nI 1 from rfl, zand, Nat.and_one_is_mod]
set_option maxHeartbeats 4000000 in
set_option maxRecDepth 100000 in
theorem lp_X4_nearest {l : Launch} {G : Geo} {J : JT} {JX : JXT} {X : St} (hfl : l.stackTraces = false) {s : Bool} {n : Nat} {x : UInt64} {y : UInt64} {t : Bool} (h : Pd 3 s n x) (hn : n < 268435456) (hy : Pd 3 t n y) (ht : t = true → n = 0) (CE : Cl l RX4 cX4_nearest 7 (some .int) [] G 0 0 0 (kI (fun r9 X' => r9 = i32 (nz s n) ∧ X = X')) kF J JX) : J X 0 13 [(2, .double y), (0, .double x)] [] := by
  have C := CE.b
  have hw : FP.d2i y = nI (n / 8) := by
    rw [Pd_d2i hy (by omega), i32_n]
    cases t
    · rfl
    · rw [ht rfl]; rfl
  have hi : Pd 3 false (n / 8 * 8) (FP.i2d (nI (n / 8))) := by
    have h9 := Pd_up (j := 3) (Pd_i2d (nI (n / 8)))
    rw [nI_toInt (by omega), decide_eq_false (by omega)] at h9
    exact h9
  have hr : Pd 3 t (n % 8) (FP.dsub y (FP.i2d (nI (n / 8)))) := by
    cases t
    · rw [show n % 8 = n - n / 8 * 8 by omega]
      exact Pd_sub hy hi (by decide) (by omega) (by omega)
    · have e := ht rfl
      subst e
      exact Pd_sub0 hy hi (by decide)
  have hcmp : FP.dcmp (FP.dsub y (FP.i2d (nI (n / 8)))) 4602678819172646912 = some (compare ((n % 8 : Nat) : Int) 4) := by
    rw [Pd_cmp hr Pd_half]
    cases t
    · rfl
    · rw [ht rfl]; rfl
  have hcx : FP.dcmp x FP.dconst0 = some (compare (FP.Core.signed s n) 0) := Pd_cmp h (Pd_0 3)
  refine r_dload_n C dX4_nearest_13 rfl rfl ?_
  refine r_d2i C dX4_nearest_14 ?_
  refine r_topi hw ?_
  refine r_istore C dX4_nearest_15 (by decide) ?_
  refine r_dload_n C dX4_nearest_17 rfl rfl ?_
  refine r_iload C dX4_nearest_18 rfl ?_
  refine r_i2d C dX4_nearest_20 ?_
  refine r_dsub C dX4_nearest_21 (Pd_n64 hr) ?_
  refine r_dstore C dX4_nearest_22 (by decide) ?_
  refine r_dload C dX4_nearest_24 rfl ?_
  refine r_ldc2d C dX4_nearest_26 nk_RX4_57 ?_
  refine r_dcmp C dX4_nearest_29 ?_
  refine r_topi (show _ = Op.cmpValue (some (compare ((n % 8 : Nat) : Int) 4)) .l by rw [hcmp]) ?_
  refine r_if_gt (tgt := 49) C dX4_nearest_30 (by decide) (fun c_30 => ?_) (fun c_30 => ?_)
  · -- 49
    have e1 := (cv_gt _ _ _).mp c_30
    have hw9 : n8 n = n / 8 + 1 := by unfold n8; rw [if_pos (by omega)]
    refine r_iinc (v := _) C dX4_nearest_49 rfl (nI_1 _) ?_
    refine r_dload_n C dX4_nearest_52 rfl rfl ?_
    refine r_dconst0 C dX4_nearest_53 ?_
    refine r_dcmp C dX4_nearest_54 ?_
    refine r_topi (show _ = Op.cmpValue (some (compare (FP.Core.signed s n) 0)) .g by rw [hcx]) ?_
    refine r_if_ge (tgt := 64) C dX4_nearest_55 (by decide) (fun c_55 => ?_) (fun c_55 => ?_)
    · -- 64
      have e9 := (cv_ge _ _ _).mp c_55
      refine r_iload C dX4_nearest_64 rfl ?_
      exact r_iret CE rfl rfl dX4_nearest_66 (Nat.le_of_ble_eq_true rfl) ⟨_, rfl, by first | (rw [nz_pos e9, hw9, ← i32_n]; done) | (rw [nz_neg e9, hw9, i32_n, i32_ng]; done), rfl⟩
    · -- 58
      have e9 : FP.Core.signed s n < 0 := Int.not_le.mp (fun q => c_55 ((cv_ge _ _ _).mpr q))
      refine r_iload C dX4_nearest_58 rfl ?_
      refine r_ineg C dX4_nearest_60 ?_
      refine r_goto (tgt := 66) C dX4_nearest_61 (by decide) ?_
      exact r_iret CE rfl rfl dX4_nearest_66 (Nat.le_of_ble_eq_true rfl) ⟨_, rfl, by first | (rw [nz_pos e9, hw9, ← i32_n]; done) | (rw [nz_neg e9, hw9, i32_n, i32_ng]; done), rfl⟩
  · -- 33
    have e1 : ¬ (4 : Int) < ((n % 8 : Nat) : Int) := fun q => c_30 ((cv_gt _ _ _).mpr q)
    refine r_dload C dX4_nearest_33 rfl ?_
    refine r_ldc2d C dX4_nearest_35 nk_RX4_57 ?_
    refine r_dcmp C dX4_nearest_38 ?_
    refine r_topi (show _ = Op.cmpValue (some (compare ((n % 8 : Nat) : Int) 4)) .l by rw [hcmp]) ?_
    refine r_if_ne (tgt := 52) C dX4_nearest_39 (by decide) (fun c_39 => ?_) (fun c_39 => ?_)
    · -- 52
      have e2 : ¬ ((n % 8 : Nat) : Int) = 4 := fun q => c_39 ((cv_eq _ _ _).mpr q)
      have hw9 : n8 n = n / 8 := by unfold n8; rw [if_neg (by omega)]
      refine r_dload_n C dX4_nearest_52 rfl rfl ?_
      refine r_dconst0 C dX4_nearest_53 ?_
      refine r_dcmp C dX4_nearest_54 ?_
      refine r_topi (show _ = Op.cmpValue (some (compare (FP.Core.signed s n) 0)) .g by rw [hcx]) ?_
      refine r_if_ge (tgt := 64) C dX4_nearest_55 (by decide) (fun c_55 => ?_) (fun c_55 => ?_)
      · -- 64
        have e9 := (cv_ge _ _ _).mp c_55
        refine r_iload C dX4_nearest_64 rfl ?_
        exact r_iret CE rfl rfl dX4_nearest_66 (Nat.le_of_ble_eq_true rfl) ⟨_, rfl, by first | (rw [nz_pos e9, hw9, ← i32_n]; done) | (rw [nz_neg e9, hw9, i32_n, i32_ng]; done), rfl⟩
      · -- 58
        have e9 : FP.Core.signed s n < 0 := Int.not_le.mp (fun q => c_55 ((cv_ge _ _ _).mpr q))
        refine r_iload C dX4_nearest_58 rfl ?_
        refine r_ineg C dX4_nearest_60 ?_
        refine r_goto (tgt := 66) C dX4_nearest_61 (by decide) ?_
        exact r_iret CE rfl rfl dX4_nearest_66 (Nat.le_of_ble_eq_true rfl) ⟨_, rfl, by first | (rw [nz_pos e9, hw9, ← i32_n]; done) | (rw [nz_neg e9, hw9, i32_n, i32_ng]; done), rfl⟩
    · -- 42
      have e2 := (cv_eq _ _ _).mp c_39
      refine r_iload C dX4_nearest_42 rfl ?_
      refine r_iconst (v := 1) C dX4_nearest_44 (by decide) ?_
      refine r_iand C dX4_nearest_45 ?_
      refine r_topi (and1_odd (by omega)) ?_
      refine r_if_eq (tgt := 52) C dX4_nearest_46 (by decide) (fun c_46 => ?_) (fun c_46 => ?_)
      · -- 52
        have e3 : n / 8 % 2 = 0 := (nI_z (by omega)).mp c_46
        have hw9 : n8 n = n / 8 := by unfold n8; rw [if_neg (by omega)]
        refine r_dload_n C dX4_nearest_52 rfl rfl ?_
        refine r_dconst0 C dX4_nearest_53 ?_
        refine r_dcmp C dX4_nearest_54 ?_
        refine r_topi (show _ = Op.cmpValue (some (compare (FP.Core.signed s n) 0)) .g by rw [hcx]) ?_
        refine r_if_ge (tgt := 64) C dX4_nearest_55 (by decide) (fun c_55 => ?_) (fun c_55 => ?_)
        · -- 64
          have e9 := (cv_ge _ _ _).mp c_55
          refine r_iload C dX4_nearest_64 rfl ?_
          exact r_iret CE rfl rfl dX4_nearest_66 (Nat.le_of_ble_eq_true rfl) ⟨_, rfl, by first | (rw [nz_pos e9, hw9, ← i32_n]; done) | (rw [nz_neg e9, hw9, i32_n, i32_ng]; done), rfl⟩
        · -- 58
          have e9 : FP.Core.signed s n < 0 := Int.not_le.mp (fun q => c_55 ((cv_ge _ _ _).mpr q))
          refine r_iload C dX4_nearest_58 rfl ?_
          refine r_ineg C dX4_nearest_60 ?_
          refine r_goto (tgt := 66) C dX4_nearest_61 (by decide) ?_
          exact r_iret CE rfl rfl dX4_nearest_66 (Nat.le_of_ble_eq_true rfl) ⟨_, rfl, by first | (rw [nz_pos e9, hw9, ← i32_n]; done) | (rw [nz_neg e9, hw9, i32_n, i32_ng]; done), rfl⟩
      · -- 49
        have e3 : ¬ n / 8 % 2 = 0 := fun q => c_46 ((nI_z (by omega)).mpr q)
        have hw9 : n8 n = n / 8 + 1 := by unfold n8; rw [if_pos (by omega)]
        refine r_iinc (v := _) C dX4_nearest_49 rfl (nI_1 _) ?_
        refine r_dload_n C dX4_nearest_52 rfl rfl ?_
        refine r_dconst0 C dX4_nearest_53 ?_
        refine r_dcmp C dX4_nearest_54 ?_
        refine r_topi (show _ = Op.cmpValue (some (compare (FP.Core.signed s n) 0)) .g by rw [hcx]) ?_
        refine r_if_ge (tgt := 64) C dX4_nearest_55 (by decide) (fun c_55 => ?_) (fun c_55 => ?_)
        · -- 64
          have e9 := (cv_ge _ _ _).mp c_55
          refine r_iload C dX4_nearest_64 rfl ?_
          exact r_iret CE rfl rfl dX4_nearest_66 (Nat.le_of_ble_eq_true rfl) ⟨_, rfl, by first | (rw [nz_pos e9, hw9, ← i32_n]; done) | (rw [nz_neg e9, hw9, i32_n, i32_ng]; done), rfl⟩
        · -- 58
          have e9 : FP.Core.signed s n < 0 := Int.not_le.mp (fun q => c_55 ((cv_ge _ _ _).mpr q))
          refine r_iload C dX4_nearest_58 rfl ?_
          refine r_ineg C dX4_nearest_60 ?_
          refine r_goto (tgt := 66) C dX4_nearest_61 (by decide) ?_
          exact r_iret CE rfl rfl dX4_nearest_66 (Nat.le_of_ble_eq_true rfl) ⟨_, rfl, by first | (rw [nz_pos e9, hw9, ← i32_n]; done) | (rw [nz_neg e9, hw9, i32_n, i32_ng]; done), rfl⟩
set_option maxHeartbeats 4000000 in
set_option maxRecDepth 100000 in
/-- X4_nearest  -/
theorem con_X4_nearest (l : Launch) (hfl : l.stackTraces = false) {s : Bool} {n : Nat} {x : UInt64} (X : St) (h : Pd 3 s n x) (hn : n < 268435456) : Con l yX4_nearest cX4_nearest 7 (some (FieldType.int)) 0 0 0 (fun _ => [.double x]) X (kI (fun r9 X' => r9 = i32 (nz s n) ∧ X = X')) kF := by
  refine con_of (lv := fun _ => [(0, .double x)]) hfl (by decide +kernel) (fun _ => rfl) (fun _ => Nat.le_of_ble_eq_true rfl) ?_
  intro G J JX CE
  have C := CE.b
  have hcx : FP.dcmp x FP.dconst0 = some (compare (FP.Core.signed s n) 0) := Pd_cmp h (Pd_0 3)
  refine r_dload_n C dX4_nearest_0 rfl rfl ?_
  refine r_dconst0 C dX4_nearest_1 ?_
  refine r_dcmp C dX4_nearest_2 ?_
  refine r_topi (show _ = Op.cmpValue (some (compare (FP.Core.signed s n) 0)) .g by rw [hcx]) ?_
  refine r_if_ge (tgt := 11) C dX4_nearest_3 (by decide) (fun c_3 => ?_) (fun c_3 => ?_)
  · -- 11
    have e9 := (cv_ge _ _ _).mp c_3
    refine r_dload_n C dX4_nearest_11 rfl rfl ?_
    refine r_dstore_n C dX4_nearest_12 rfl (by decide) ?_
    first
    | exact r_sub C (lv' := [(2, .double x), (0, .double x)]) ⟨rfl, rfl, trivial⟩ (lp_X4_nearest hfl h hn h (fun q => by subst q; rw [sg_t] at e9; omega) CE)
    | exact r_sub C (lv' := [(2, .double (FP.dneg x)), (0, .double x)]) ⟨rfl, rfl, trivial⟩ (lp_X4_nearest hfl h hn (t := false) (by cases s; exact absurd e9 (by rw [sg_f]; omega); exact Pd_neg h) (fun q => by cases q) CE)
  · -- 6
    have e9 : FP.Core.signed s n < 0 := Int.not_le.mp (fun q => c_3 ((cv_ge _ _ _).mpr q))
    refine r_dload_n C dX4_nearest_6 rfl rfl ?_
    refine r_dneg C dX4_nearest_7 ?_
    refine r_goto (tgt := 12) C dX4_nearest_8 (by decide) ?_
    refine r_dstore_n C dX4_nearest_12 rfl (by decide) ?_
    first
    | exact r_sub C (lv' := [(2, .double x), (0, .double x)]) ⟨rfl, rfl, trivial⟩ (lp_X4_nearest hfl h hn h (fun q => by subst q; rw [sg_t] at e9; omega) CE)
    | exact r_sub C (lv' := [(2, .double (FP.dneg x)), (0, .double x)]) ⟨rfl, rfl, trivial⟩ (lp_X4_nearest hfl h hn (t := false) (by cases s; exact absurd e9 (by rw [sg_f]; omega); exact Pd_neg h) (fun q => by cases q) CE)
