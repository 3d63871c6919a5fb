/-! ===== the law's loop ===== -/
theorem and31 (x : Int32) : ∃ k, k < 32 ∧ x &&& 31 = nI k := by
  refine ⟨(x &&& 31).toBitVec.toNat, ?_, ?_⟩
  · rw [Int32.toBitVec_and, BitVec.toNat_and]
    exact Nat.lt_of_le_of_lt Nat.and_le_right (by decide)
  · apply Int32.toBitVec_inj.mp
    show _ = BitVec.ofNat 32 _
    rw [BitVec.ofNat_toNat]
    rfl
set_option maxHeartbeats 4000000 in
set_option maxRecDepth 100000 in
theorem law_op {l : Launch} (hfl : l.stackTraces = false) {G : Geo} {b L : Nat} {xs : Nat → Int32} {um : Nat} {J : JT} {JX : JXT} (CL : CbL l G b L xs um J JX) {A : DA} {X : St} {u i : Nat} (hL : L ≤ 2048) (hi : i + 4 ≤ L) (hu : u + 3 ≤ um) (hD : DInv X A) (hM : MInv X A) (kk : ∀ (X' : St) (A' : DA) (u' : Nat), DInv X' A' → MInv X' A' → u' ≤ u + 3 → J X' u' 1743 [(4, .int (nI i)), (3, .ref (G.2.1 36)), (2, .ref (G.2.1 37)), (1, .ref (G.2.1 0)), (0, .ref b)] []) : ∀ k, k < 32 → J X u 39 [(4, .int (nI i)), (3, .ref (G.2.1 36)), (2, .ref (G.2.1 37)), (1, .ref (G.2.1 0)), (0, .ref b)] [.int (nI k)] := by
  intro k hk
  have C := CL.c
  rcases (show k = 0 ∨ k = 1 ∨ k = 2 ∨ k = 3 ∨ k = 4 ∨ k = 5 ∨ k = 6 ∨ k = 7 ∨ k = 8 ∨ k = 9 ∨ k = 10 ∨ k = 11 ∨ k = 12 ∨ k = 13 ∨ k = 14 ∨ k = 15 ∨ k = 16 ∨ k = 17 ∨ k = 18 ∨ k = 19 ∨ k = 20 ∨ k = 21 ∨ k = 22 ∨ k = 23 ∨ k = 24 ∨ k = 25 ∨ k = 26 ∨ k = 27 ∨ k = 28 ∨ k = 29 ∨ k = 30 ∨ k = 31 by omega) with rfl | rfl | rfl | rfl | rfl | rfl | rfl | rfl | rfl | rfl | rfl | rfl | rfl | rfl | rfl | rfl | rfl | rfl | rfl | rfl | rfl | rfl | rfl | rfl | rfl | rfl | rfl | rfl | rfl | rfl | rfl | rfl
  · exact r_tabin C 129 (tgt := 168) dL_law_39 (by decide) (by decide) (by decide) (by decide) (op_0 hfl CL hL hi hu hD hM kk)
  · exact r_tabin C 173 (tgt := 212) dL_law_39 (by decide) (by decide) (by decide) (by decide) (op_1 hfl CL hL hi hu hD hM kk)
  · exact r_tabin C 217 (tgt := 256) dL_law_39 (by decide) (by decide) (by decide) (by decide) (op_2 hfl CL hL hi hu hD hM kk)
  · exact r_tabin C 308 (tgt := 347) dL_law_39 (by decide) (by decide) (by decide) (by decide) (op_3 hfl CL hL hi hu hD hM kk)
  · exact r_tabin C 399 (tgt := 438) dL_law_39 (by decide) (by decide) (by decide) (by decide) (op_4 hfl CL hL hi hu hD hM kk)
  · exact r_tabin C 486 (tgt := 525) dL_law_39 (by decide) (by decide) (by decide) (by decide) (op_5 hfl CL hL hi hu hD hM kk)
  · exact r_tabin C 561 (tgt := 600) dL_law_39 (by decide) (by decide) (by decide) (by decide) (op_6 hfl CL hL hi hu hD hM kk)
  · exact r_tabin C 629 (tgt := 668) dL_law_39 (by decide) (by decide) (by decide) (by decide) (op_7 hfl CL hL hi hu hD hM kk)
  · exact r_tabin C 707 (tgt := 746) dL_law_39 (by decide) (by decide) (by decide) (by decide) (op_8 hfl CL hL hi hu hD hM kk)
  · exact r_tabin C 720 (tgt := 759) dL_law_39 (by decide) (by decide) (by decide) (by decide) (op_9 hfl CL hL hi hu hD hM kk)
  · exact r_tabin C 733 (tgt := 772) dL_law_39 (by decide) (by decide) (by decide) (by decide) (op_10 hfl CL hL hi hu hD hM kk)
  · exact r_tabin C 808 (tgt := 847) dL_law_39 (by decide) (by decide) (by decide) (by decide) (op_11 hfl CL hL hi hu hD hM kk)
  · exact r_tabin C 876 (tgt := 915) dL_law_39 (by decide) (by decide) (by decide) (by decide) (op_12 hfl CL hL hi hu hD hM kk)
  · exact r_tabin C 889 (tgt := 928) dL_law_39 (by decide) (by decide) (by decide) (by decide) (op_13 hfl CL hL hi hu hD hM kk)
  · exact r_tabin C 902 (tgt := 941) dL_law_39 (by decide) (by decide) (by decide) (by decide) (op_14 hfl CL hL hi hu hD hM kk)
  · exact r_tabin C 943 (tgt := 982) dL_law_39 (by decide) (by decide) (by decide) (by decide) (op_15 hfl CL hL hi hu hD hM kk)
  · exact r_tabin C 999 (tgt := 1038) dL_law_39 (by decide) (by decide) (by decide) (by decide) (op_16 hfl CL hL hi hu hD hM kk)
  · exact r_tabin C 1055 (tgt := 1094) dL_law_39 (by decide) (by decide) (by decide) (by decide) (op_17 hfl CL hL hi hu hD hM kk)
  · exact r_tabin C 1068 (tgt := 1107) dL_law_39 (by decide) (by decide) (by decide) (by decide) (op_18 hfl CL hL hi hu hD hM kk)
  · exact r_tabin C 1143 (tgt := 1182) dL_law_39 (by decide) (by decide) (by decide) (by decide) (op_19 hfl CL hL hi hu hD hM kk)
  · exact r_tabin C 1218 (tgt := 1257) dL_law_39 (by decide) (by decide) (by decide) (by decide) (op_20 hfl CL hL hi hu hD hM kk)
  · exact r_tabin C 1286 (tgt := 1325) dL_law_39 (by decide) (by decide) (by decide) (by decide) (op_21 hfl CL hL hi hu hD hM kk)
  · exact r_tabin C 1354 (tgt := 1393) dL_law_39 (by decide) (by decide) (by decide) (by decide) (op_22 hfl CL hL hi hu hD hM kk)
  · exact r_tabin C 1422 (tgt := 1461) dL_law_39 (by decide) (by decide) (by decide) (by decide) (op_23 hfl CL hL hi hu hD hM kk)
  · exact r_tabin C 1478 (tgt := 1517) dL_law_39 (by decide) (by decide) (by decide) (by decide) (op_24 hfl CL hL hi hu hD hM kk)
  · exact r_tabin C 1534 (tgt := 1573) dL_law_39 (by decide) (by decide) (by decide) (by decide) (op_25 hfl CL hL hi hu hD hM kk)
  · exact r_tabin C 1602 (tgt := 1641) dL_law_39 (by decide) (by decide) (by decide) (by decide) (op_26 hfl CL hL hi hu hD hM kk)
  · exact r_tabin C 1646 (tgt := 1685) dL_law_39 (by decide) (by decide) (by decide) (by decide) (op_27 hfl CL hL hi hu hD hM kk)
  · exact r_tabin C 1690 (tgt := 1729) dL_law_39 (by decide) (by decide) (by decide) (by decide) (op_28 hfl CL hL hi hu hD hM kk)
  · exact r_tabout C (tgt := 1743) dL_law_39 (by decide) (by decide) (kk X A u hD hM (by omega))
  · exact r_tabout C (tgt := 1743) dL_law_39 (by decide) (by decide) (kk X A u hD hM (by omega))
  · exact r_tabout C (tgt := 1743) dL_law_39 (by decide) (by decide) (kk X A u hD hM (by omega))
set_option maxHeartbeats 4000000 in
set_option maxRecDepth 100000 in
theorem law_loop {l : Launch} (hfl : l.stackTraces = false) {G : Geo} {b L : Nat} {xs : Nat → Int32} {um : Nat} {J : JT} {JX : JXT} (CL : CbL l G b L xs um J JX) (hL : L ≤ 2048) : ∀ (n i u : Nat) (X : St) (A : DA), L ≤ i + 4 * n + 3 → i ≤ L → u + 3 * n ≤ um → DInv X A → MInv X A → J X u 23 [(4, .int (nI i)), (3, .ref (G.2.1 36)), (2, .ref (G.2.1 37)), (1, .ref (G.2.1 0)), (0, .ref b)] [] := by
  have C := CL.c
  have eL : nI L - 4 = i32 ((L : Int) - 4) := i32_sub (L : Int) 4
  intro n
  induction n with
  | zero =>
    intro i u X A h1 h2 h3 hD hM
    refine r_iload C dL_law_23 rfl ?_
    refine r_aload_n C dL_law_25 rfl rfl ?_
    refine r_slen CL dL_law_26 ?_
    refine r_iconst (v := 4) C dL_law_27 (by decide) ?_
    refine r_isub C dL_law_28 ?_
    refine r_icmp_gt (tgt := 1749) C dL_law_29 (by decide) (fun _ => ?_) (fun c => absurd ?_ c)
    · refine r_iconst (v := 1) C dL_law_1749 (by decide) ?_
      exact r_true CL (by omega) dL_law_1750
    · rw [eL]
      exact (i32_lt (b := (i : Int)) ⟨by omega, by omega⟩ ⟨by omega, by omega⟩).mpr (by omega)
  | succ n ih =>
    intro i u X A h1 h2 h3 hD hM
    refine r_iload C dL_law_23 rfl ?_
    refine r_aload_n C dL_law_25 rfl rfl ?_
    refine r_slen CL dL_law_26 ?_
    refine r_iconst (v := 4) C dL_law_27 (by decide) ?_
    refine r_isub C dL_law_28 ?_
    refine r_icmp_gt (tgt := 1749) C dL_law_29 (by decide) (fun _ => ?_) (fun c => ?_)
    · refine r_iconst (v := 1) C dL_law_1749 (by decide) ?_
      exact r_true CL (by omega) dL_law_1750
    · have hi : i + 4 ≤ L := by
        rw [eL] at c
        have c2 : ¬ ((L : Int) - 4 < (i : Int)) := fun q => c ((i32_lt (b := (i : Int)) ⟨by omega, by omega⟩ ⟨by omega, by omega⟩).mpr q)
        omega
      refine r_aload_n C dL_law_32 rfl rfl ?_
      refine r_iload C dL_law_33 rfl ?_
      refine r_sld CL i rfl (by omega) hL dL_law_35 ?_
      refine r_bipush (v := 31) C dL_law_36 (by decide) ?_
      refine r_iand C dL_law_38 ?_
      obtain ⟨k, hk, ek⟩ := and31 (xs i)
      refine r_topi ek ?_
      refine law_op hfl CL hL hi (by omega) hD hM (fun X' A' u' hD' hM' hu' => ?_) k hk
      refine r_iinc (v := nI (i + 4)) C dL_law_1743 rfl (nI_p i 4) ?_
      refine r_goto (tgt := 23) C dL_law_1746 (by decide) ?_
      exact r_sub C (lv' := [(4, .int (nI (i + 4))), (3, .ref (G.2.1 36)), (2, .ref (G.2.1 37)), (1, .ref (G.2.1 0)), (0, .ref b)]) ⟨rfl, rfl, rfl, rfl, rfl, trivial⟩ (ih (i + 4) u' X' A' (by omega) hi (by omega) hD' hM')
