theorem bitp {m c : Nat} (hm : m < 4096) : nI (m &&& 2 ^ c) = 0 ↔ m.testBit c = false := by
  have h : m &&& 2 ^ c ≤ m := Nat.and_le_left
  rw [nI_z (by omega)]
  constructor
  · intro e
    have h2 := congrArg (fun z => Nat.testBit z c) e
    simpa using h2
  · intro e
    apply Nat.eq_of_testBit_eq
    intro j
    rw [Nat.testBit_and, Nat.testBit_two_pow, Nat.zero_testBit]
    by_cases q : c = j
    · rw [← q, e, Bool.false_and]
    · rw [decide_eq_false q, Bool.and_false]
theorem shl2 : ∀ c, c < 11 → (nI (2 ^ c) <<< ((1 : Int32) &&& 31)) = nI (2 ^ (c + 1)) := by decide +kernel
theorem le1024 : ∀ c, c < 11 → ¬ ((1024 : Int32) < nI (2 ^ c)) := by decide +kernel
theorem z1024 (r T : Nat) : (1024 : Int32) * nI r + nI T = nI (1024 * r + T) := by rw [show (1024 : Int32) = nI 1024 from rfl, pk_mul, nI_add]
set_option maxHeartbeats 4000000 in
set_option maxRecDepth 100000 in
theorem lp_X6_fill_t {l : Launch} {G : Geo} {J : JT} {JX : JXT} {X Y : St} (hfl : l.stackTraces = false) {r T N M k : Nat} {o : OP} {v : Int} {w : Int32} (hr : r < 10) (hT : T < 1024) (hk : k ≤ 10) (hN : N ≠ 1024 * r + T) (hN2 : N < 11264) (hok : okO k o) (hv : kv k v) (hP : PF X Y (1024 * r + T) o) (hw0 : Zv Y 50 N = w) {K9 : Option Value → St → Prop} (CE : Cl l RX6 cX6_fill_ 8 none [] G 3 90 0 K9 kF J JX)
    (hkk : ∀ Y', PF X Y' (1024 * r + T) (addO o v w) → J Y' 0 236 [(7, .int (i32 (csf v))), (6, .int (i32 (szf v))), (5, .int (nI N)), (4, .int (nI M)), (3, .int (nI (1024 * r + T))), (0, .ref (G.2.1 37)), (1, .int (nI r)), (2, .int (nI T))] []) : J Y 0 142 [(7, .int (i32 (csf v))), (6, .int (i32 (szf v))), (5, .int (nI N)), (4, .int (nI M)), (3, .int (nI (1024 * r + T))), (0, .ref (G.2.1 37)), (1, .int (nI r)), (2, .int (nI T))] [] := by
  have C := CE.b
  have hbo := oSi_bd hok hk
  have hbv := oSi_bd (o := some (v, w)) (k := k) (fun p hp => by cases hp; exact hv) hk
  have hbv : -100 ≤ szf v ∧ szf v ≤ 10 ∧ -100000 ≤ csf v ∧ csf v ≤ 100000 := hbv
  refine r_iload C dX6_fill__142 rfl ?_
  refine r_aload_n C dX6_fill__144 rfl rfl ?_
  refine gf_RX6_41 C dX6_fill__145 ?_
  refine r_iload_n C dX6_fill__148 rfl rfl ?_
  refine r_iald C (1024 * r + T) (by decide) rfl rfl (by omega) dX6_fill__149 ?_
  refine r_topi (show _ = i32 (oSi o) by rw [← oS_i]; exact hP.2.2.1) ?_
  refine r_icmp_gt (tgt := 175) C dX6_fill__150 (by decide) (fun c_150 => ?_) (fun c_150 => ?_)
  · -- 175
    have e1 : oSi o < szf v := (i32_lt (by omega) (by omega)).mp c_150
    have ea := addO_lt (w := w) hok hv (by omega) (Or.inl e1)
    refine r_aload_n C dX6_fill__175 rfl rfl ?_
    refine gf_RX6_41 C dX6_fill__176 ?_
    refine r_iload_n C dX6_fill__179 rfl rfl ?_
    refine r_iload C dX6_fill__180 rfl ?_
    refine r_iast C (1024 * r + T) (by decide) rfl rfl (by omega) dX6_fill__182 ?_
    refine r_aload_n C dX6_fill__183 rfl rfl ?_
    refine gf_RX6_44 C dX6_fill__184 ?_
    refine r_iload_n C dX6_fill__187 rfl rfl ?_
    refine r_iload C dX6_fill__188 rfl ?_
    refine r_iast C (1024 * r + T) (by decide) rfl rfl (by omega) dX6_fill__190 ?_
    refine r_aload_n C dX6_fill__191 rfl rfl ?_
    refine gf_RX6_47 C dX6_fill__192 ?_
    refine r_iload_n C dX6_fill__195 rfl rfl ?_
    refine r_iconst (v := 0) C dX6_fill__196 (by decide) ?_
    refine r_iast C (1024 * r + T) (by decide) rfl rfl (by omega) dX6_fill__197 ?_
    refine r_iload C dX6_fill__198 rfl ?_
    refine r_aload_n C dX6_fill__200 rfl rfl ?_
    refine gf_RX6_41 C dX6_fill__201 ?_
    refine r_iload_n C dX6_fill__204 rfl rfl ?_
    refine r_iald C (1024 * r + T) (by decide) rfl rfl (by omega) dX6_fill__205 ?_
    refine r_topi (show _ = i32 (szf v) from (if_pos rfl : upd (Zv Y 48) (1024 * r + T) (i32 (szf v)) (1024 * r + T) = _)) ?_
    refine r_icmp_ne (tgt := 236) C dX6_fill__206 (by decide) (fun c_206 => absurd (rfl) c_206) (fun c_206 => ?_)
    refine r_iload C dX6_fill__209 rfl ?_
    refine r_aload_n C dX6_fill__211 rfl rfl ?_
    refine gf_RX6_44 C dX6_fill__212 ?_
    refine r_iload_n C dX6_fill__215 rfl rfl ?_
    refine r_iald C (1024 * r + T) (by decide) rfl rfl (by omega) dX6_fill__216 ?_
    refine r_topi (show _ = i32 (csf v) from (if_pos rfl : upd (Zv Y 49) (1024 * r + T) (i32 (csf v)) (1024 * r + T) = _)) ?_
    refine r_icmp_ne (tgt := 236) C dX6_fill__217 (by decide) (fun c_217 => absurd (rfl) c_217) (fun c_217 => ?_)
    refine r_aload_n C dX6_fill__220 rfl rfl ?_
    refine gf_RX6_47 C dX6_fill__221 ?_
    refine r_iload_n C dX6_fill__224 rfl rfl ?_
    refine r_dup2 C dX6_fill__225 rfl rfl ?_
    refine r_iald C (1024 * r + T) (by decide) rfl rfl (by omega) dX6_fill__226 ?_
    refine r_topi (show _ = 0 from (if_pos rfl : upd (Zv Y 50) (1024 * r + T) 0 (1024 * r + T) = _)) ?_
    refine r_aload_n C dX6_fill__227 rfl rfl ?_
    refine gf_RX6_47 C dX6_fill__228 ?_
    refine r_iload C dX6_fill__231 rfl ?_
    refine r_iald C (N) (by decide) rfl rfl (by omega) dX6_fill__233 ?_
    refine r_topi (show _ = w from (if_neg hN : upd (Zv Y 50) (1024 * r + T) 0 N = Zv Y 50 N).trans hw0) ?_
    refine r_iadd C dX6_fill__234 ?_
    refine r_iast C (1024 * r + T) (by decide) rfl rfl (by omega) dX6_fill__235 ?_
    have hP2 : PF X (Yv (Yv (Yv (Yv Y 48 (upd (Zv Y 48) (1024 * r + T) (i32 (szf v)))) 49 (upd (Zv Y 49) (1024 * r + T) (i32 (csf v)))) 50 (upd (Zv Y 50) (1024 * r + T) 0)) 50 (upd (upd (Zv Y 50) (1024 * r + T) 0) (1024 * r + T) (0 + w))) (1024 * r + T) (addO o v w) := by
      rw [ea]
      refine ⟨(((hP.1.tr (Fr.v _ ⟨by omega, by omega⟩)).tr (Fr.v _ ⟨by omega, by omega⟩)).tr (Fr.v _ ⟨by omega, by omega⟩)).tr (Fr.v _ ⟨by omega, by omega⟩), fun j hj => ⟨?_, ?_, ?_⟩, ?_, ?_, ?_⟩
      · show upd (Zv Y 48) _ _ j = _
        unfold upd; rw [if_neg hj]; exact (hP.2.1 j hj).1
      · show upd (Zv Y 49) _ _ j = _
        unfold upd; rw [if_neg hj]; exact (hP.2.1 j hj).2.1
      · show upd (upd (Zv Y 50) _ _) _ _ j = _
        unfold upd; rw [if_neg hj, if_neg hj]; exact (hP.2.1 j hj).2.2
      · show upd (Zv Y 48) _ _ _ = i32 (szf v)
        unfold upd; rw [if_pos rfl]
      · show upd (Zv Y 49) _ _ _ = i32 (csf v)
        unfold upd; rw [if_pos rfl]
      · show upd (upd (Zv Y 50) _ _) _ (0 + w) _ = w
        unfold upd; rw [if_pos rfl, Int32.zero_add]
    exact hkk _ hP2
  · -- 153
    have e1 : ¬ oSi o < szf v := fun q => c_150 ((i32_lt (by omega) (by omega)).mpr q)
    refine r_iload C dX6_fill__153 rfl ?_
    refine r_aload_n C dX6_fill__155 rfl rfl ?_
    refine gf_RX6_41 C dX6_fill__156 ?_
    refine r_iload_n C dX6_fill__159 rfl rfl ?_
    refine r_iald C (1024 * r + T) (by decide) rfl rfl (by omega) dX6_fill__160 ?_
    refine r_topi (show _ = i32 (oSi o) by rw [← oS_i]; exact hP.2.2.1) ?_
    refine r_icmp_ne (tgt := 198) C dX6_fill__161 (by decide) (fun c_161 => ?_) (fun c_161 => ?_)
    · -- 198
      have e2 : ¬ szf v = oSi o := fun q => c_161 (by rw [q])
      have nb : ¬ (oSi o < szf v ∨ (szf v = oSi o ∧ csf v < oCi o)) := by omega
      refine r_iload C dX6_fill__198 rfl ?_
      refine r_aload_n C dX6_fill__200 rfl rfl ?_
      refine gf_RX6_41 C dX6_fill__201 ?_
      refine r_iload_n C dX6_fill__204 rfl rfl ?_
      refine r_iald C (1024 * r + T) (by decide) rfl rfl (by omega) dX6_fill__205 ?_
      refine r_topi (show _ = i32 (oSi o) by rw [← oS_i]; exact hP.2.2.1) ?_
      refine r_icmp_ne (tgt := 236) C dX6_fill__206 (by decide) (fun c_206 => ?_) (fun c_206 => ?_)
      · -- 236
        have e4 : ¬ szf v = oSi o := fun q => c_206 (by rw [q])
        have ea := addO_gt (w := w) hok hv (by omega) nb (by omega)
        have hP2 : PF X Y (1024 * r + T) (addO o v w) := by rw [ea]; exact hP
        exact hkk _ hP2
      · -- 209
        have e4 : szf v = oSi o := (i32_eq (by omega) (by omega)).mp c_206
        refine r_iload C dX6_fill__209 rfl ?_
        refine r_aload_n C dX6_fill__211 rfl rfl ?_
        refine gf_RX6_44 C dX6_fill__212 ?_
        refine r_iload_n C dX6_fill__215 rfl rfl ?_
        refine r_iald C (1024 * r + T) (by decide) rfl rfl (by omega) dX6_fill__216 ?_
        refine r_topi (show _ = i32 (oCi o) by rw [← oC_i]; exact hP.2.2.2.1) ?_
        refine r_icmp_ne (tgt := 236) C dX6_fill__217 (by decide) (fun c_217 => ?_) (fun c_217 => ?_)
        · -- 236
          have e5 : ¬ csf v = oCi o := fun q => c_217 (by rw [q])
          have ea := addO_gt (w := w) hok hv (by omega) nb (by omega)
          have hP2 : PF X Y (1024 * r + T) (addO o v w) := by rw [ea]; exact hP
          exact hkk _ hP2
        · -- 220
          have e5 : csf v = oCi o := (i32_eq (by omega) (by omega)).mp c_217
          have ea := addO_eq (w := w) hok hv (by omega) e4 e5
          have hP2 : PF X (Yv Y 50 (upd (Zv Y 50) (1024 * r + T) (oW o + w))) (1024 * r + T) (addO o v w) := by
            refine ⟨hP.1.tr (Fr.v _ ⟨by omega, by omega⟩), fun j hj => ⟨(hP.2.1 j hj).1, (hP.2.1 j hj).2.1, ?_⟩, hP.2.2.1.trans ea.1.symm, hP.2.2.2.1.trans ea.2.1.symm, ?_⟩
            · show upd (Zv Y 50) _ _ j = _
              unfold upd; rw [if_neg hj]; exact (hP.2.1 j hj).2.2
            · show upd (Zv Y 50) _ _ _ = _
              unfold upd; rw [if_pos rfl]; exact ea.2.2.symm
          refine r_aload_n C dX6_fill__220 rfl rfl ?_
          refine gf_RX6_47 C dX6_fill__221 ?_
          refine r_iload_n C dX6_fill__224 rfl rfl ?_
          refine r_dup2 C dX6_fill__225 rfl rfl ?_
          refine r_iald C (1024 * r + T) (by decide) rfl rfl (by omega) dX6_fill__226 ?_
          refine r_topi (show _ = oW o from hP.2.2.2.2) ?_
          refine r_aload_n C dX6_fill__227 rfl rfl ?_
          refine gf_RX6_47 C dX6_fill__228 ?_
          refine r_iload C dX6_fill__231 rfl ?_
          refine r_iald C (N) (by decide) rfl rfl (by omega) dX6_fill__233 ?_
          refine r_topi (show _ = w from hw0) ?_
          refine r_iadd C dX6_fill__234 ?_
          refine r_iast C (1024 * r + T) (by decide) rfl rfl (by omega) dX6_fill__235 ?_
          exact hkk _ hP2
    · -- 164
      have e2 : szf v = oSi o := (i32_eq (by omega) (by omega)).mp c_161
      refine r_iload C dX6_fill__164 rfl ?_
      refine r_aload_n C dX6_fill__166 rfl rfl ?_
      refine gf_RX6_44 C dX6_fill__167 ?_
      refine r_iload_n C dX6_fill__170 rfl rfl ?_
      refine r_iald C (1024 * r + T) (by decide) rfl rfl (by omega) dX6_fill__171 ?_
      refine r_topi (show _ = i32 (oCi o) by rw [← oC_i]; exact hP.2.2.2.1) ?_
      refine r_icmp_ge (tgt := 198) C dX6_fill__172 (by decide) (fun c_172 => ?_) (fun c_172 => ?_)
      · -- 198
        have e3 : ¬ csf v < oCi o := fun q => absurd c_172 (Int32.not_le.mpr ((i32_lt (by omega) (by omega)).mpr q))
        have nb : ¬ (oSi o < szf v ∨ (szf v = oSi o ∧ csf v < oCi o)) := by omega
        refine r_iload C dX6_fill__198 rfl ?_
        refine r_aload_n C dX6_fill__200 rfl rfl ?_
        refine gf_RX6_41 C dX6_fill__201 ?_
        refine r_iload_n C dX6_fill__204 rfl rfl ?_
        refine r_iald C (1024 * r + T) (by decide) rfl rfl (by omega) dX6_fill__205 ?_
        refine r_topi (show _ = i32 (oSi o) by rw [← oS_i]; exact hP.2.2.1) ?_
        refine r_icmp_ne (tgt := 236) C dX6_fill__206 (by decide) (fun c_206 => ?_) (fun c_206 => ?_)
        · -- 236
          have e4 : ¬ szf v = oSi o := fun q => c_206 (by rw [q])
          have ea := addO_gt (w := w) hok hv (by omega) nb (by omega)
          have hP2 : PF X Y (1024 * r + T) (addO o v w) := by rw [ea]; exact hP
          exact hkk _ hP2
        · -- 209
          have e4 : szf v = oSi o := (i32_eq (by omega) (by omega)).mp c_206
          refine r_iload C dX6_fill__209 rfl ?_
          refine r_aload_n C dX6_fill__211 rfl rfl ?_
          refine gf_RX6_44 C dX6_fill__212 ?_
          refine r_iload_n C dX6_fill__215 rfl rfl ?_
          refine r_iald C (1024 * r + T) (by decide) rfl rfl (by omega) dX6_fill__216 ?_
          refine r_topi (show _ = i32 (oCi o) by rw [← oC_i]; exact hP.2.2.2.1) ?_
          refine r_icmp_ne (tgt := 236) C dX6_fill__217 (by decide) (fun c_217 => ?_) (fun c_217 => ?_)
          · -- 236
            have e5 : ¬ csf v = oCi o := fun q => c_217 (by rw [q])
            have ea := addO_gt (w := w) hok hv (by omega) nb (by omega)
            have hP2 : PF X Y (1024 * r + T) (addO o v w) := by rw [ea]; exact hP
            exact hkk _ hP2
          · -- 220
            have e5 : csf v = oCi o := (i32_eq (by omega) (by omega)).mp c_217
            have ea := addO_eq (w := w) hok hv (by omega) e4 e5
            have hP2 : PF X (Yv Y 50 (upd (Zv Y 50) (1024 * r + T) (oW o + w))) (1024 * r + T) (addO o v w) := by
              refine ⟨hP.1.tr (Fr.v _ ⟨by omega, by omega⟩), fun j hj => ⟨(hP.2.1 j hj).1, (hP.2.1 j hj).2.1, ?_⟩, hP.2.2.1.trans ea.1.symm, hP.2.2.2.1.trans ea.2.1.symm, ?_⟩
              · show upd (Zv Y 50) _ _ j = _
                unfold upd; rw [if_neg hj]; exact (hP.2.1 j hj).2.2
              · show upd (Zv Y 50) _ _ _ = _
                unfold upd; rw [if_pos rfl]; exact ea.2.2.symm
            refine r_aload_n C dX6_fill__220 rfl rfl ?_
            refine gf_RX6_47 C dX6_fill__221 ?_
            refine r_iload_n C dX6_fill__224 rfl rfl ?_
            refine r_dup2 C dX6_fill__225 rfl rfl ?_
            refine r_iald C (1024 * r + T) (by decide) rfl rfl (by omega) dX6_fill__226 ?_
            refine r_topi (show _ = oW o from hP.2.2.2.2) ?_
            refine r_aload_n C dX6_fill__227 rfl rfl ?_
            refine gf_RX6_47 C dX6_fill__228 ?_
            refine r_iload C dX6_fill__231 rfl ?_
            refine r_iald C (N) (by decide) rfl rfl (by omega) dX6_fill__233 ?_
            refine r_topi (show _ = w from hw0) ?_
            refine r_iadd C dX6_fill__234 ?_
            refine r_iast C (1024 * r + T) (by decide) rfl rfl (by omega) dX6_fill__235 ?_
            exact hkk _ hP2
      · -- 175
        have e3 : csf v < oCi o := (i32_lt (by omega) (by omega)).mp (Int32.not_le.mp c_172)
        have ea := addO_lt (w := w) hok hv (by omega) (Or.inr ⟨e2, e3⟩)
        refine r_aload_n C dX6_fill__175 rfl rfl ?_
        refine gf_RX6_41 C dX6_fill__176 ?_
        refine r_iload_n C dX6_fill__179 rfl rfl ?_
        refine r_iload C dX6_fill__180 rfl ?_
        refine r_iast C (1024 * r + T) (by decide) rfl rfl (by omega) dX6_fill__182 ?_
        refine r_aload_n C dX6_fill__183 rfl rfl ?_
        refine gf_RX6_44 C dX6_fill__184 ?_
        refine r_iload_n C dX6_fill__187 rfl rfl ?_
        refine r_iload C dX6_fill__188 rfl ?_
        refine r_iast C (1024 * r + T) (by decide) rfl rfl (by omega) dX6_fill__190 ?_
        refine r_aload_n C dX6_fill__191 rfl rfl ?_
        refine gf_RX6_47 C dX6_fill__192 ?_
        refine r_iload_n C dX6_fill__195 rfl rfl ?_
        refine r_iconst (v := 0) C dX6_fill__196 (by decide) ?_
        refine r_iast C (1024 * r + T) (by decide) rfl rfl (by omega) dX6_fill__197 ?_
        refine r_iload C dX6_fill__198 rfl ?_
        refine r_aload_n C dX6_fill__200 rfl rfl ?_
        refine gf_RX6_41 C dX6_fill__201 ?_
        refine r_iload_n C dX6_fill__204 rfl rfl ?_
        refine r_iald C (1024 * r + T) (by decide) rfl rfl (by omega) dX6_fill__205 ?_
        refine r_topi (show _ = i32 (szf v) from (if_pos rfl : upd (Zv Y 48) (1024 * r + T) (i32 (szf v)) (1024 * r + T) = _)) ?_
        refine r_icmp_ne (tgt := 236) C dX6_fill__206 (by decide) (fun c_206 => absurd (rfl) c_206) (fun c_206 => ?_)
        refine r_iload C dX6_fill__209 rfl ?_
        refine r_aload_n C dX6_fill__211 rfl rfl ?_
        refine gf_RX6_44 C dX6_fill__212 ?_
        refine r_iload_n C dX6_fill__215 rfl rfl ?_
        refine r_iald C (1024 * r + T) (by decide) rfl rfl (by omega) dX6_fill__216 ?_
        refine r_topi (show _ = i32 (csf v) from (if_pos rfl : upd (Zv Y 49) (1024 * r + T) (i32 (csf v)) (1024 * r + T) = _)) ?_
        refine r_icmp_ne (tgt := 236) C dX6_fill__217 (by decide) (fun c_217 => absurd (rfl) c_217) (fun c_217 => ?_)
        refine r_aload_n C dX6_fill__220 rfl rfl ?_
        refine gf_RX6_47 C dX6_fill__221 ?_
        refine r_iload_n C dX6_fill__224 rfl rfl ?_
        refine r_dup2 C dX6_fill__225 rfl rfl ?_
        refine r_iald C (1024 * r + T) (by decide) rfl rfl (by omega) dX6_fill__226 ?_
        refine r_topi (show _ = 0 from (if_pos rfl : upd (Zv Y 50) (1024 * r + T) 0 (1024 * r + T) = _)) ?_
        refine r_aload_n C dX6_fill__227 rfl rfl ?_
        refine gf_RX6_47 C dX6_fill__228 ?_
        refine r_iload C dX6_fill__231 rfl ?_
        refine r_iald C (N) (by decide) rfl rfl (by omega) dX6_fill__233 ?_
        refine r_topi (show _ = w from (if_neg hN : upd (Zv Y 50) (1024 * r + T) 0 N = Zv Y 50 N).trans hw0) ?_
        refine r_iadd C dX6_fill__234 ?_
        refine r_iast C (1024 * r + T) (by decide) rfl rfl (by omega) dX6_fill__235 ?_
        have hP2 : PF X (Yv (Yv (Yv (Yv Y 48 (upd (Zv Y 48) (1024 * r + T) (i32 (szf v)))) 49 (upd (Zv Y 49) (1024 * r + T) (i32 (csf v)))) 50 (upd (Zv Y 50) (1024 * r + T) 0)) 50 (upd (upd (Zv Y 50) (1024 * r + T) 0) (1024 * r + T) (0 + w))) (1024 * r + T) (addO o v w) := by
          rw [ea]
          refine ⟨(((hP.1.tr (Fr.v _ ⟨by omega, by omega⟩)).tr (Fr.v _ ⟨by omega, by omega⟩)).tr (Fr.v _ ⟨by omega, by omega⟩)).tr (Fr.v _ ⟨by omega, by omega⟩), fun j hj => ⟨?_, ?_, ?_⟩, ?_, ?_, ?_⟩
          · show upd (Zv Y 48) _ _ j = _
            unfold upd; rw [if_neg hj]; exact (hP.2.1 j hj).1
          · show upd (Zv Y 49) _ _ j = _
            unfold upd; rw [if_neg hj]; exact (hP.2.1 j hj).2.1
          · show upd (upd (Zv Y 50) _ _) _ _ j = _
            unfold upd; rw [if_neg hj, if_neg hj]; exact (hP.2.1 j hj).2.2
          · show upd (Zv Y 48) _ _ _ = i32 (szf v)
            unfold upd; rw [if_pos rfl]
          · show upd (Zv Y 49) _ _ _ = i32 (csf v)
            unfold upd; rw [if_pos rfl]
          · show upd (upd (Zv Y 50) _ _) _ (0 + w) _ = w
            unfold upd; rw [if_pos rfl, Int32.zero_add]
        exact hkk _ hP2
