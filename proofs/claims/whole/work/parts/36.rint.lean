/-! ===== Math.rint ===== -/
theorem dn1 : Cond.native ⟨"java/lang/Double", "doubleToRawLongBits", "(D)J"⟩ ∈ lw_all := in_all (i := 966) (by decide +kernel) rfl
theorem dn2 : Cond.static ⟨"java/lang/Double", "doubleToRawLongBits", "(D)J"⟩ ∈ lw_all := in_all (i := 965) (by decide +kernel) rfl
theorem dn3 : Cond.native ⟨"java/lang/Double", "longBitsToDouble", "(J)D"⟩ ∈ lw_all := in_all (i := 971) (by decide +kernel) rfl
theorem dn4 : Cond.static ⟨"java/lang/Double", "longBitsToDouble", "(J)D"⟩ ∈ lw_all := in_all (i := 970) (by decide +kernel) rfl
theorem dn5 : Cond.initialized "java/lang/Double" ∈ lw_all := in_all (i := 59) (by decide +kernel) rfl
section ZR
variable {l : Launch} {own : String} {cc : ByteArray} {nL : Nat} {G : Geo} {fr lo um : Nat} {J : JT} {JX : JXT} {X : St} {u pc : Nat} {lv : List (Nat × Value)} {st : List Value}
theorem r_dabs (C : Cb l own cc nL G fr lo um J JX) {index : Nat} {x : UInt64} (hlk : Cond.methodLink own index yJ9_abs_294c1 ∈ lw_all) (hv : vf_n64 x) (hfr1 : 1 ≤ fr) (hlo1 : 8 + (2 + 11) ≤ lo) (hs8 : (st.map fun v => v.category).sum ≤ 8) (hdg : decode cc pc = .ok (.invokestatic index, 3)) (kk : J X u (pc + 3) lv (.double (x &&& 0x7fffffffffffffff) :: st)) : J X u pc lv (.double x :: st) := by
  obtain ⟨p, e, R, s, m, args, below, meth, c, A, c0, s0, Q, ⟨hx, hb, hml, hown, hts, hK, hNw, hA, hZs, hfl, hfr, hlo, hRc, hRs⟩, rfl, rfl⟩ := C
  intro H locs ls hP hD hS hl T hT Xs
  obtain ⟨v, vm₁, ⟨U', l2, c2, s2⟩, hW₁, X', ⟨hB, hvv⟩, sg⟩ := callS Xs hx (bytes := cJ9_abs_294c1) (maxL := 2) (ret := some .double) hown (hts _ hlk) (hts _ st_J9_abs_294c1) (hts _ ik_RJ9) (hts _ cw_J9_abs_294c1) (by decide +kernel) (Jvm.Free.NT.Abs64.pays (W := 8) (hts _ cw_J9_abs_294c1) (hts _ st_J9_abs_294c1) (by rw [hfr]; exact hfr1) (by rw [hlo]; exact hlo1)) (g := F0 m pc ls (.double x :: st)) rfl (hl.1.trans hml.symm) (argsL := [.double x]) (rest := st) (fun sig h => by
    have h2 := Jvm.Free.NT.mathAbs64_desc
    cases h.symm.trans h2
    rfl) rfl (lv_room hs8) (by rw [hb]; exact hdg) (fun vm₁ _ => ⟨x, rfl, hv⟩)
  cases hB
  have e9 := hvv x ⟨rfl, hv⟩
  subst e9
  obtain ⟨t, a1, b1⟩ := kk H locs ls hP hD hS hl (T.setVm vm₁) hT X'
  exact ⟨t, sg t a1, b1⟩
theorem r_dcps (C : Cb l own cc nL G fr lo um J JX) {index : Nat} {x y : UInt64} (hlk : Cond.methodLink own index yJ9_copySign_eb370 ∈ lw_all) (hv : vf_n64 y) (hfr1 : 1 ≤ fr) (hlo1 : 8 + (4 + 11) ≤ lo) (hs8 : (st.map fun v => v.category).sum ≤ 8) (hdg : decode cc pc = .ok (.invokestatic index, 3)) (kk : J X u (pc + 3) lv (.double (copySign64 x y) :: st)) : J X u pc lv (.double y :: .double x :: st) := by
  obtain ⟨p, e, R, s, m, args, below, meth, c, A, c0, s0, Q, ⟨hx, hb, hml, hown, hts, hK, hNw, hA, hZs, hfl, hfr, hlo, hRc, hRs⟩, rfl, rfl⟩ := C
  have hny : FP.dIsNaN y = false := Jvm.Free.Fl.Abs.dIsNaN_false hv
  intro H locs ls hP hD hS hl T hT Xs
  obtain ⟨v, vm₁, ⟨U', l2, c2, s2⟩, hW₁, X', ⟨hB, hvv⟩, sg⟩ := callS Xs hx (bytes := cJ9_copySign_eb370) (maxL := 4) (ret := some .double) hown (hts _ hlk) (hts _ st_J9_copySign_eb370) (hts _ ik_RJ9) (hts _ cw_J9_copySign_eb370) (by decide +kernel) (Jvm.Free.NT.CopySign64.pays (W := 8) (hts _ cw_J9_copySign_eb370) (hts _ st_J9_copySign_eb370) (by rw [hfr]; exact hfr1) (by rw [hlo]; exact hlo1)) (g := F0 m pc ls (.double y :: .double x :: st)) rfl (hl.1.trans hml.symm) (argsL := [.double x, .double y]) (rest := st) (fun sig h => by
    have h2 := Jvm.Free.NT.mathCopySign64_desc
    cases h.symm.trans h2
    rfl) rfl (lv_room hs8) (by rw [hb]; exact hdg) (fun vm₁ _ => ⟨(x, y), rfl, hny⟩)
  cases hB
  have e9 := hvv (x, y) ⟨rfl, hny⟩
  subst e9
  obtain ⟨t, a1, b1⟩ := kk H locs ls hP hD hS hl (T.setVm vm₁) hT X'
  exact ⟨t, sg t a1, b1⟩
end ZR
theorem decode_cut {n : Nat} {s : Bool} {c : Nat} {q : Int} (h : FP.Core.decode FP.Core.b64 n = .fin s c q) : FP.Core.decode FP.Core.b64 (n % 9223372036854775808) = .fin false c q ∧ decide (n / 9223372036854775808 % 2 = 1) = s := by
  have eT : FP.Core.fieldT FP.Core.b64 (n % 9223372036854775808) = FP.Core.fieldT FP.Core.b64 n := by
    show n % 9223372036854775808 % 4503599627370496 = n % 4503599627370496
    omega
  have eE : FP.Core.fieldE FP.Core.b64 (n % 9223372036854775808) = FP.Core.fieldE FP.Core.b64 n := by
    show n % 9223372036854775808 / 4503599627370496 % 2048 = n / 4503599627370496 % 2048
    omega
  have eS : FP.Core.fieldS FP.Core.b64 (n % 9223372036854775808) = false := by
    show (n % 9223372036854775808 / 4503599627370496 / 2048 % 2 == 1) = false
    rw [show n % 9223372036854775808 / 4503599627370496 / 2048 % 2 = 0 by omega]; rfl
  have eS2 : FP.Core.fieldS FP.Core.b64 n = decide (n / 9223372036854775808 % 2 = 1) := by
    show (n / 4503599627370496 / 2048 % 2 == 1) = _
    rw [show n / 4503599627370496 / 2048 % 2 = n / 9223372036854775808 % 2 by omega]
    rfl
  unfold FP.Core.decode at h ⊢
  rw [eT, eE, eS]
  split at h
  · split at h <;> cases h
  · rename_i g1
    rw [if_neg g1]
    split at h
    · rename_i g2
      rw [if_pos g2]
      cases h
      exact ⟨rfl, eS2.symm⟩
    · rename_i g2
      rw [if_neg g2]
      cases h
      exact ⟨rfl, eS2.symm⟩
theorem cut_bits (x : UInt64) : (x &&& 0x7fffffffffffffff).toNat = x.toNat % 9223372036854775808 := by
  show (x.toBitVec &&& 9223372036854775807#64).toNat = x.toBitVec.toNat % 9223372036854775808
  rw [BitVec.toNat_and, show (9223372036854775807#64).toNat = 2 ^ 63 - 1 by decide, Nat.and_two_pow_sub_one_eq_mod]
theorem Pd_abs {i : Nat} {s : Bool} {n : Nat} {x : UInt64} (h : Pd i s n x) : Pd i false n (x &&& 0x7fffffffffffffff) := by
  obtain ⟨c, q, h1, h2, h3⟩ := h
  refine ⟨c, q, ?_, h2, h3⟩
  show FP.Core.decode FP.Core.b64 _ = _
  rw [cut_bits]
  exact (decode_cut h1).1
theorem Pd_1 : Pd 0 false 1 FP.dconst1 := ⟨2 ^ 52, -52, by decide +kernel, by decide, by decide +kernel⟩
theorem Pd_sgn {i : Nat} {s : Bool} {n : Nat} {x : UInt64} (h : Pd i s n x) : Pd 0 s 1 (copySign64 FP.dconst1 x) := by
  obtain ⟨c, q, h1, h2, h3⟩ := h
  have hs := (decode_cut h1).2
  have hp : Pd 0 false 1 ((FP.dconst1 &&& 0x7fffffffffffffff) ||| 0) := ⟨2 ^ 52, -52, by decide +kernel, by decide, by decide +kernel⟩
  have hm : Pd 0 true 1 ((FP.dconst1 &&& 0x7fffffffffffffff) ||| 0x8000000000000000) := ⟨2 ^ 52, -52, by decide +kernel, by decide, by decide +kernel⟩
  have hlt := x.toNat_lt
  have e : (x >>> 63 == 1) = decide (x.toNat / 9223372036854775808 % 2 = 1) := by
    have e2 : (x >>> 63).toNat = x.toNat / 9223372036854775808 := by
      rw [UInt64.toNat_shiftRight, Nat.shiftRight_eq_div_pow]; rfl
    rw [Bool.eq_iff_iff, beq_iff_eq, decide_eq_true_eq, ← UInt64.toNat_inj, e2]
    show x.toNat / 9223372036854775808 = 1 ↔ _
    omega
  unfold copySign64
  rw [e, ← hs]
  cases g : decide (x.toNat / 9223372036854775808 % 2 = 1)
  · exact hp
  · exact hm
theorem Pd_52 (i : Nat) : Pd i false (2 ^ (52 + i)) 4841369599423283200 := ⟨2 ^ 52, 0, by decide +kernel, by decide, by rw [← Nat.pow_add, ← Nat.pow_add]; exact congrArg (2 ^ ·) (by omega)⟩
/-- 2^52 and some eighths: the eighths are rounded -/
theorem Pd_rnd {n : Nat} {x : UInt64} (hx : Pd 3 false n x) (hn : n ≤ 16000000) : Pd 0 false (2 ^ 52 + n8 n) (FP.dadd 4841369599423283200 x) := by
  have h1 := Pd_addr (Pd_52 3) hx
  have hl : FP.Core.leading (2 ^ (52 + 3) + n) 1 = 55 := by
    have e : (2 ^ (52 + 3) + n).log2 = 55 := (Nat.log2_eq_iff (by omega)).mpr ⟨by omega, by omega⟩
    unfold FP.Core.leading
    rw [e, show (1 : Nat).log2 = 0 by decide +kernel]
    dsimp only
    rw [if_pos (by
      show 1 * 2 ^ 55 ≤ (2 ^ (52 + 3) + n) * 2 ^ 0
      omega)]
    rfl
  have hq : FP.Core.quantum FP.Core.b64 (2 ^ (52 + 3) + n) 1 (-((3 : Nat) : Int)) = 0 := by
    unfold FP.Core.quantum
    rw [hl]
    decide +kernel
  have hr : FP.Core.roundRatio FP.Core.b64 false (2 ^ (52 + 3) + n) 1 (-((3 : Nat) : Int)) = .fin false (2 ^ 52 + n8 n) 0 := by
    unfold FP.Core.roundRatio
    rw [if_neg (by omega), hq]
    unfold FP.Core.roundAt
    have e1 : FP.Core.nearest (FP.Core.unitsNum (2 ^ (52 + 3) + n) (-((3 : Nat) : Int)) 0) (FP.Core.unitsDen 1 (-((3 : Nat) : Int)) 0) = 2 ^ 52 + n8 n := by
      show FP.Core.nearest ((2 ^ (52 + 3) + n) * 2 ^ 0) (1 * 2 ^ 3) = _
      unfold FP.Core.nearest n8
      rw [show (2 ^ (52 + 3) + n) * 2 ^ 0 = 36028797018963968 + n by omega, show 1 * 2 ^ 3 = 8 by decide, show (2 : Nat) ^ 52 = 4503599627370496 by decide]
      by_cases g1 : 2 * ((36028797018963968 + n) % 8) < 8
      · rw [if_pos g1, if_neg (by omega)]; omega
      · rw [if_neg g1]
        by_cases g2 : 8 < 2 * ((36028797018963968 + n) % 8)
        · rw [if_pos g2, if_pos (by omega)]; omega
        · rw [if_neg g2]
          by_cases g3 : n / 8 % 2 = 1
          · rw [if_pos (by omega)]; omega
          · rw [if_neg (by omega)]; omega
    rw [e1]
    unfold FP.Core.settle
    have hn8 := n8_le n
    rw [if_pos (by show 2 ^ 52 + n8 n < 2 ^ 53; omega)]
    unfold FP.Core.bound
    rw [if_pos (by decide +kernel)]
  rw [hr] at h1
  exact ⟨2 ^ 52 + n8 n, 0, h1, by decide, by rw [show ((0 : Int) + 1074).toNat + 0 = 1074 by decide]⟩
set_option maxHeartbeats 4000000 in
set_option maxRecDepth 100000 in
/-- Jxfc994_rint_294c1  -/
theorem con_Jxfc994_rint_294c1 (l : Launch) (hfl : l.stackTraces = false) {n : Nat} {s : Bool} {x : UInt64} (X : St) (h : Pd 3 s n x) (hn : n ≤ 16000000) : Con l yJxfc994_rint_294c1 cJxfc994_rint_294c1 6 (some (FieldType.double)) 2 60 0 (fun _ => [.double x]) X (kD (fun r9 X' => Pd 0 s (n8 n) r9 ∧ X = X')) kF := by
  refine con_of (lv := fun _ => [(0, .double x)]) hfl (by decide +kernel) (fun _ => rfl) (fun _ => Nat.le_of_ble_eq_true rfl) ?_
  intro G J JX CE
  have C := CE.b
  refine r_ldc2d C dJxfc994_rint_294c1_0 nk_RJxfc994_93 ?_
  refine r_dstore_n C dJxfc994_rint_294c1_3 rfl (by decide) ?_
  refine r_dconst1 C dJxfc994_rint_294c1_4 ?_
  refine r_dload_n C dJxfc994_rint_294c1_5 rfl rfl ?_
  refine r_dcps C lk_RJxfc994_95 (Pd_n64 h) (by decide) (by decide) (by decide) dJxfc994_rint_294c1_6 ?_
  have q1 := Pd_sgn h
  refine r_dstore C dJxfc994_rint_294c1_9 (by decide) ?_
  refine r_dload_n C dJxfc994_rint_294c1_11 rfl rfl ?_
  refine r_dabs C lk_RJxfc994_98 (Pd_n64 h) (by decide) (by decide) (by decide) dJxfc994_rint_294c1_12 ?_
  have q2 := Pd_abs h
  have q3 := Pd_rnd q2 hn
  have q4 := Pd_sub q3 (Pd_52 0) (by decide) (by omega) (by have := n8_le n; omega)
  rw [show 2 ^ 52 + n8 n - 2 ^ (52 + 0) = n8 n by omega] at q4
  have q5 := Pd_mul q1 q4 (by decide) (by have := n8_le n; omega)
  rw [Nat.one_mul, show (s != false) = s by cases s <;> rfl] at q5
  refine r_dstore_n C dJxfc994_rint_294c1_15 rfl (by decide) ?_
  refine r_dload_n C dJxfc994_rint_294c1_16 rfl rfl ?_
  refine r_dload_n C dJxfc994_rint_294c1_17 rfl rfl ?_
  refine r_dcmp C dJxfc994_rint_294c1_18 ?_
  rw [Pd_cmp q2 (Pd_52 3)]
  refine r_if_ge (tgt := 28) C dJxfc994_rint_294c1_19 (by decide) (fun c_19 => absurd c_19 ((fun q => by
    rw [cv_ge] at q
    have q : ((2 ^ (52 + 3) : Nat) : Int) ≤ (n : Int) := q
    omega))) (fun c_19 => ?_)
  refine r_dload_n C dJxfc994_rint_294c1_22 rfl rfl ?_
  refine r_dload_n C dJxfc994_rint_294c1_23 rfl rfl ?_
  refine r_dadd C dJxfc994_rint_294c1_24 (Pd_n64 q3) ?_
  refine r_dload_n C dJxfc994_rint_294c1_25 rfl rfl ?_
  refine r_dsub C dJxfc994_rint_294c1_26 (Pd_n64 q4) ?_
  refine r_dstore_n C dJxfc994_rint_294c1_27 rfl (by decide) ?_
  refine r_dload C dJxfc994_rint_294c1_28 rfl ?_
  refine r_dload_n C dJxfc994_rint_294c1_30 rfl rfl ?_
  refine r_dmul C dJxfc994_rint_294c1_31 (Pd_n64 q5) ?_
  exact r_dret CE rfl dJxfc994_rint_294c1_32 (Nat.le_of_ble_eq_true rfl) ⟨_, rfl, q5, rfl⟩
