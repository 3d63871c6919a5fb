theorem nfb {b : Bool} (h : ¬ b = false) : b = true := by
  cases b
  · exact absurd rfl h
  · rfl
theorem bitp {m c : Nat} (hm : m < 4096) : nI (m &&& 2 ^ c) = 0 ↔ m.testBit c = false := by
  have h : m &&& 2 ^ c ≤ m := Nat.and_le_left
  rw [nI_z (by omega)]
  constructor
  · intro e
    have h2 := congrArg (fun z => Nat.testBit z c) e
    simpa using h2
  · intro e
    apply Nat.eq_of_testBit_eq
    intro j
    rw [Nat.testBit_and, Nat.testBit_two_pow, Nat.zero_testBit]
    by_cases q : c = j
    · rw [← q, e, Bool.false_and]
    · rw [decide_eq_false q, Bool.and_false]
theorem shl2 : ∀ c, c < 11 → (nI (2 ^ c) <<< ((1 : Int32) &&& 31)) = nI (2 ^ (c + 1)) := by decide +kernel
theorem le1024 : ∀ c, c < 11 → ¬ ((1024 : Int32) < nI (2 ^ c)) := by decide +kernel
theorem z1024 (r T : Nat) : (1024 : Int32) * nI r + nI T = nI (1024 * r + T) := by rw [show (1024 : Int32) = nI 1024 from rfl, pk_mul, nI_add]
set_option maxHeartbeats 4000000 in
set_option maxRecDepth 100000 in
theorem lp_X6_fill_t {l : Launch} {G : Geo} {J : JT} {JX : JXT} {X Y : St} (hfl : l.stackTraces = false) {r T N M k : Nat} {o : OP} {v : Int} {w : Int32} (hr : r < 10) (hT : T < 1024) (hk : k ≤ 10) (hN : N ≠ 1024 * r + T) (hN2 : N < 11264) (hok : okO k o) (hv : kv k v) (hP : PF X Y (1024 * r + T) o) (hw0 : Zv Y 50 N = w) {K9 : Option Value → St → Prop} (CE : Cl l RX6 cX6_fill_ 8 none [] G 3 90 0 K9 kF J JX)
    (hkk : ∀ Y', PF X Y' (1024 * r + T) (addO o v w) → J Y' 0 236 [(7, .int (i32 (csf v))), (6, .int (i32 (szf v))), (5, .int (nI N)), (4, .int (nI M)), (3, .int (nI (1024 * r + T))), (0, .ref (G.2.1 37)), (1, .int (nI r)), (2, .int (nI T))] []) : J Y 0 142 [(7, .int (i32 (csf v))), (6, .int (i32 (szf v))), (5, .int (nI N)), (4, .int (nI M)), (3, .int (nI (1024 * r + T))), (0, .ref (G.2.1 37)), (1, .int (nI r)), (2, .int (nI T))] [] := by
  have C := CE.b
  have hbo := oSi_bd hok hk
  have hbv := oSi_bd (o := some (v, w)) (k := k) (fun p hp => by cases hp; exact hv) hk
  have hbv : -100 ≤ szf v ∧ szf v ≤ 10 ∧ -200000 ≤ csf v ∧ csf v ≤ 200000 := hbv
  refine r_iload C dX6_fill__142 rfl ?_
  refine r_aload_n C dX6_fill__144 rfl rfl ?_
  refine gf_RX6_41 C dX6_fill__145 ?_
  refine r_iload_n C dX6_fill__148 rfl rfl ?_
  refine r_iald C (1024 * r + T) (by decide) rfl rfl (by omega) dX6_fill__149 ?_
  refine r_topi (show _ = i32 (oSi o) by rw [← oS_i]; exact hP.2.2.1) ?_
  refine r_icmp_gt (tgt := 175) C dX6_fill__150 (by decide) (fun c_150 => ?_) (fun c_150 => ?_)
  · -- 175
    have e1 : oSi o < szf v := (i32_lt (by omega) (by omega)).mp c_150
    have ea := addO_lt (w := w) hok hv (by omega) (Or.inl e1)
    refine r_aload_n C dX6_fill__175 rfl rfl ?_
    refine gf_RX6_41 C dX6_fill__176 ?_
    refine r_iload_n C dX6_fill__179 rfl rfl ?_
    refine r_iload C dX6_fill__180 rfl ?_
    refine r_iast C (1024 * r + T) (by decide) rfl rfl (by omega) dX6_fill__182 ?_
    refine r_aload_n C dX6_fill__183 rfl rfl ?_
    refine gf_RX6_44 C dX6_fill__184 ?_
    refine r_iload_n C dX6_fill__187 rfl rfl ?_
    refine r_iload C dX6_fill__188 rfl ?_
    refine r_iast C (1024 * r + T) (by decide) rfl rfl (by omega) dX6_fill__190 ?_
    refine r_aload_n C dX6_fill__191 rfl rfl ?_
    refine gf_RX6_47 C dX6_fill__192 ?_
    refine r_iload_n C dX6_fill__195 rfl rfl ?_
    refine r_iconst (v := 0) C dX6_fill__196 (by decide) ?_
    refine r_iast C (1024 * r + T) (by decide) rfl rfl (by omega) dX6_fill__197 ?_
    refine r_iload C dX6_fill__198 rfl ?_
    refine r_aload_n C dX6_fill__200 rfl rfl ?_
    refine gf_RX6_41 C dX6_fill__201 ?_
    refine r_iload_n C dX6_fill__204 rfl rfl ?_
    refine r_iald C (1024 * r + T) (by decide) rfl rfl (by omega) dX6_fill__205 ?_
    refine r_topi (show _ = i32 (szf v) from (if_pos rfl : upd (Zv Y 48) (1024 * r + T) (i32 (szf v)) (1024 * r + T) = _)) ?_
    refine r_icmp_ne (tgt := 236) C dX6_fill__206 (by decide) (fun c_206 => absurd (rfl) c_206) (fun c_206 => ?_)
    refine r_iload C dX6_fill__209 rfl ?_
    refine r_aload_n C dX6_fill__211 rfl rfl ?_
    refine gf_RX6_44 C dX6_fill__212 ?_
    refine r_iload_n C dX6_fill__215 rfl rfl ?_
    refine r_iald C (1024 * r + T) (by decide) rfl rfl (by omega) dX6_fill__216 ?_
    refine r_topi (show _ = i32 (csf v) from (if_pos rfl : upd (Zv Y 49) (1024 * r + T) (i32 (csf v)) (1024 * r + T) = _)) ?_
    refine r_icmp_ne (tgt := 236) C dX6_fill__217 (by decide) (fun c_217 => absurd (rfl) c_217) (fun c_217 => ?_)
    refine r_aload_n C dX6_fill__220 rfl rfl ?_
    refine gf_RX6_47 C dX6_fill__221 ?_
    refine r_iload_n C dX6_fill__224 rfl rfl ?_
    refine r_dup2 C dX6_fill__225 rfl rfl ?_
    refine r_iald C (1024 * r + T) (by decide) rfl rfl (by omega) dX6_fill__226 ?_
    refine r_topi (show _ = 0 from (if_pos rfl : upd (Zv Y 50) (1024 * r + T) 0 (1024 * r + T) = _)) ?_
    refine r_aload_n C dX6_fill__227 rfl rfl ?_
    refine gf_RX6_47 C dX6_fill__228 ?_
    refine r_iload C dX6_fill__231 rfl ?_
    refine r_iald C (N) (by decide) rfl rfl (by omega) dX6_fill__233 ?_
    refine r_topi (show _ = w from (if_neg hN : upd (Zv Y 50) (1024 * r + T) 0 N = Zv Y 50 N).trans hw0) ?_
    refine r_iadd C dX6_fill__234 ?_
    refine r_iast C (1024 * r + T) (by decide) rfl rfl (by omega) dX6_fill__235 ?_
    have hP2 : PF X (Yv (Yv (Yv (Yv Y 48 (upd (Zv Y 48) (1024 * r + T) (i32 (szf v)))) 49 (upd (Zv Y 49) (1024 * r + T) (i32 (csf v)))) 50 (upd (Zv Y 50) (1024 * r + T) 0)) 50 (upd (upd (Zv Y 50) (1024 * r + T) 0) (1024 * r + T) (0 + w))) (1024 * r + T) (addO o v w) := by
      rw [ea]
      refine ⟨(((hP.1.tr (Fr.v _ ⟨by omega, by omega⟩)).tr (Fr.v _ ⟨by omega, by omega⟩)).tr (Fr.v _ ⟨by omega, by omega⟩)).tr (Fr.v _ ⟨by omega, by omega⟩), fun j hj => ⟨?_, ?_, ?_⟩, ?_, ?_, ?_⟩
      · show upd (Zv Y 48) _ _ j = _
        unfold upd; rw [if_neg hj]; exact (hP.2.1 j hj).1
      · show upd (Zv Y 49) _ _ j = _
        unfold upd; rw [if_neg hj]; exact (hP.2.1 j hj).2.1
      · show upd (upd (Zv Y 50) _ _) _ _ j = _
        unfold upd; rw [if_neg hj, if_neg hj]; exact (hP.2.1 j hj).2.2
      · show upd (Zv Y 48) _ _ _ = i32 (szf v)
        unfold upd; rw [if_pos rfl]
      · show upd (Zv Y 49) _ _ _ = i32 (csf v)
        unfold upd; rw [if_pos rfl]
      · show upd (upd (Zv Y 50) _ _) _ (0 + w) _ = w
        unfold upd; rw [if_pos rfl, Int32.zero_add]
    exact hkk _ hP2
  · -- 153
    have e1 : ¬ oSi o < szf v := fun q => c_150 ((i32_lt (by omega) (by omega)).mpr q)
    refine r_iload C dX6_fill__153 rfl ?_
    refine r_aload_n C dX6_fill__155 rfl rfl ?_
    refine gf_RX6_41 C dX6_fill__156 ?_
    refine r_iload_n C dX6_fill__159 rfl rfl ?_
    refine r_iald C (1024 * r + T) (by decide) rfl rfl (by omega) dX6_fill__160 ?_
    refine r_topi (show _ = i32 (oSi o) by rw [← oS_i]; exact hP.2.2.1) ?_
    refine r_icmp_ne (tgt := 198) C dX6_fill__161 (by decide) (fun c_161 => ?_) (fun c_161 => ?_)
    · -- 198
      have e2 : ¬ szf v = oSi o := fun q => c_161 (by rw [q])
      have nb : ¬ (oSi o < szf v ∨ (szf v = oSi o ∧ csf v < oCi o)) := by omega
      refine r_iload C dX6_fill__198 rfl ?_
      refine r_aload_n C dX6_fill__200 rfl rfl ?_
      refine gf_RX6_41 C dX6_fill__201 ?_
      refine r_iload_n C dX6_fill__204 rfl rfl ?_
      refine r_iald C (1024 * r + T) (by decide) rfl rfl (by omega) dX6_fill__205 ?_
      refine r_topi (show _ = i32 (oSi o) by rw [← oS_i]; exact hP.2.2.1) ?_
      refine r_icmp_ne (tgt := 236) C dX6_fill__206 (by decide) (fun c_206 => ?_) (fun c_206 => ?_)
      · -- 236
        have e4 : ¬ szf v = oSi o := fun q => c_206 (by rw [q])
        have ea := addO_gt (w := w) hok hv (by omega) nb (by omega)
        have hP2 : PF X Y (1024 * r + T) (addO o v w) := by rw [ea]; exact hP
        exact hkk _ hP2
      · -- 209
        have e4 : szf v = oSi o := (i32_eq (by omega) (by omega)).mp c_206
        refine r_iload C dX6_fill__209 rfl ?_
        refine r_aload_n C dX6_fill__211 rfl rfl ?_
        refine gf_RX6_44 C dX6_fill__212 ?_
        refine r_iload_n C dX6_fill__215 rfl rfl ?_
        refine r_iald C (1024 * r + T) (by decide) rfl rfl (by omega) dX6_fill__216 ?_
        refine r_topi (show _ = i32 (oCi o) by rw [← oC_i]; exact hP.2.2.2.1) ?_
        refine r_icmp_ne (tgt := 236) C dX6_fill__217 (by decide) (fun c_217 => ?_) (fun c_217 => ?_)
        · -- 236
          have e5 : ¬ csf v = oCi o := fun q => c_217 (by rw [q])
          have ea := addO_gt (w := w) hok hv (by omega) nb (by omega)
          have hP2 : PF X Y (1024 * r + T) (addO o v w) := by rw [ea]; exact hP
          exact hkk _ hP2
        · -- 220
          have e5 : csf v = oCi o := (i32_eq (by omega) (by omega)).mp c_217
          have ea := addO_eq (w := w) hok hv (by omega) e4 e5
          have hP2 : PF X (Yv Y 50 (upd (Zv Y 50) (1024 * r + T) (oW o + w))) (1024 * r + T) (addO o v w) := by
            refine ⟨hP.1.tr (Fr.v _ ⟨by omega, by omega⟩), fun j hj => ⟨(hP.2.1 j hj).1, (hP.2.1 j hj).2.1, ?_⟩, hP.2.2.1.trans ea.1.symm, hP.2.2.2.1.trans ea.2.1.symm, ?_⟩
            · show upd (Zv Y 50) _ _ j = _
              unfold upd; rw [if_neg hj]; exact (hP.2.1 j hj).2.2
            · show upd (Zv Y 50) _ _ _ = _
              unfold upd; rw [if_pos rfl]; exact ea.2.2.symm
          refine r_aload_n C dX6_fill__220 rfl rfl ?_
          refine gf_RX6_47 C dX6_fill__221 ?_
          refine r_iload_n C dX6_fill__224 rfl rfl ?_
          refine r_dup2 C dX6_fill__225 rfl rfl ?_
          refine r_iald C (1024 * r + T) (by decide) rfl rfl (by omega) dX6_fill__226 ?_
          refine r_topi (show _ = oW o from hP.2.2.2.2) ?_
          refine r_aload_n C dX6_fill__227 rfl rfl ?_
          refine gf_RX6_47 C dX6_fill__228 ?_
          refine r_iload C dX6_fill__231 rfl ?_
          refine r_iald C (N) (by decide) rfl rfl (by omega) dX6_fill__233 ?_
          refine r_topi (show _ = w from hw0) ?_
          refine r_iadd C dX6_fill__234 ?_
          refine r_iast C (1024 * r + T) (by decide) rfl rfl (by omega) dX6_fill__235 ?_
          exact hkk _ hP2
    · -- 164
      have e2 : szf v = oSi o := (i32_eq (by omega) (by omega)).mp c_161
      refine r_iload C dX6_fill__164 rfl ?_
      refine r_aload_n C dX6_fill__166 rfl rfl ?_
      refine gf_RX6_44 C dX6_fill__167 ?_
      refine r_iload_n C dX6_fill__170 rfl rfl ?_
      refine r_iald C (1024 * r + T) (by decide) rfl rfl (by omega) dX6_fill__171 ?_
      refine r_topi (show _ = i32 (oCi o) by rw [← oC_i]; exact hP.2.2.2.1) ?_
      refine r_icmp_ge (tgt := 198) C dX6_fill__172 (by decide) (fun c_172 => ?_) (fun c_172 => ?_)
      · -- 198
        have e3 : ¬ csf v < oCi o := fun q => absurd c_172 (Int32.not_le.mpr ((i32_lt (by omega) (by omega)).mpr q))
        have nb : ¬ (oSi o < szf v ∨ (szf v = oSi o ∧ csf v < oCi o)) := by omega
        refine r_iload C dX6_fill__198 rfl ?_
        refine r_aload_n C dX6_fill__200 rfl rfl ?_
        refine gf_RX6_41 C dX6_fill__201 ?_
        refine r_iload_n C dX6_fill__204 rfl rfl ?_
        refine r_iald C (1024 * r + T) (by decide) rfl rfl (by omega) dX6_fill__205 ?_
        refine r_topi (show _ = i32 (oSi o) by rw [← oS_i]; exact hP.2.2.1) ?_
        refine r_icmp_ne (tgt := 236) C dX6_fill__206 (by decide) (fun c_206 => ?_) (fun c_206 => ?_)
        · -- 236
          have e4 : ¬ szf v = oSi o := fun q => c_206 (by rw [q])
          have ea := addO_gt (w := w) hok hv (by omega) nb (by omega)
          have hP2 : PF X Y (1024 * r + T) (addO o v w) := by rw [ea]; exact hP
          exact hkk _ hP2
        · -- 209
          have e4 : szf v = oSi o := (i32_eq (by omega) (by omega)).mp c_206
          refine r_iload C dX6_fill__209 rfl ?_
          refine r_aload_n C dX6_fill__211 rfl rfl ?_
          refine gf_RX6_44 C dX6_fill__212 ?_
          refine r_iload_n C dX6_fill__215 rfl rfl ?_
          refine r_iald C (1024 * r + T) (by decide) rfl rfl (by omega) dX6_fill__216 ?_
          refine r_topi (show _ = i32 (oCi o) by rw [← oC_i]; exact hP.2.2.2.1) ?_
          refine r_icmp_ne (tgt := 236) C dX6_fill__217 (by decide) (fun c_217 => ?_) (fun c_217 => ?_)
          · -- 236
            have e5 : ¬ csf v = oCi o := fun q => c_217 (by rw [q])
            have ea := addO_gt (w := w) hok hv (by omega) nb (by omega)
            have hP2 : PF X Y (1024 * r + T) (addO o v w) := by rw [ea]; exact hP
            exact hkk _ hP2
          · -- 220
            have e5 : csf v = oCi o := (i32_eq (by omega) (by omega)).mp c_217
            have ea := addO_eq (w := w) hok hv (by omega) e4 e5
            have hP2 : PF X (Yv Y 50 (upd (Zv Y 50) (1024 * r + T) (oW o + w))) (1024 * r + T) (addO o v w) := by
              refine ⟨hP.1.tr (Fr.v _ ⟨by omega, by omega⟩), fun j hj => ⟨(hP.2.1 j hj).1, (hP.2.1 j hj).2.1, ?_⟩, hP.2.2.1.trans ea.1.symm, hP.2.2.2.1.trans ea.2.1.symm, ?_⟩
              · show upd (Zv Y 50) _ _ j = _
                unfold upd; rw [if_neg hj]; exact (hP.2.1 j hj).2.2
              · show upd (Zv Y 50) _ _ _ = _
                unfold upd; rw [if_pos rfl]; exact ea.2.2.symm
            refine r_aload_n C dX6_fill__220 rfl rfl ?_
            refine gf_RX6_47 C dX6_fill__221 ?_
            refine r_iload_n C dX6_fill__224 rfl rfl ?_
            refine r_dup2 C dX6_fill__225 rfl rfl ?_
            refine r_iald C (1024 * r + T) (by decide) rfl rfl (by omega) dX6_fill__226 ?_
            refine r_topi (show _ = oW o from hP.2.2.2.2) ?_
            refine r_aload_n C dX6_fill__227 rfl rfl ?_
            refine gf_RX6_47 C dX6_fill__228 ?_
            refine r_iload C dX6_fill__231 rfl ?_
            refine r_iald C (N) (by decide) rfl rfl (by omega) dX6_fill__233 ?_
            refine r_topi (show _ = w from hw0) ?_
            refine r_iadd C dX6_fill__234 ?_
            refine r_iast C (1024 * r + T) (by decide) rfl rfl (by omega) dX6_fill__235 ?_
            exact hkk _ hP2
      · -- 175
        have e3 : csf v < oCi o := (i32_lt (by omega) (by omega)).mp (Int32.not_le.mp c_172)
        have ea := addO_lt (w := w) hok hv (by omega) (Or.inr ⟨e2, e3⟩)
        refine r_aload_n C dX6_fill__175 rfl rfl ?_
        refine gf_RX6_41 C dX6_fill__176 ?_
        refine r_iload_n C dX6_fill__179 rfl rfl ?_
        refine r_iload C dX6_fill__180 rfl ?_
        refine r_iast C (1024 * r + T) (by decide) rfl rfl (by omega) dX6_fill__182 ?_
        refine r_aload_n C dX6_fill__183 rfl rfl ?_
        refine gf_RX6_44 C dX6_fill__184 ?_
        refine r_iload_n C dX6_fill__187 rfl rfl ?_
        refine r_iload C dX6_fill__188 rfl ?_
        refine r_iast C (1024 * r + T) (by decide) rfl rfl (by omega) dX6_fill__190 ?_
        refine r_aload_n C dX6_fill__191 rfl rfl ?_
        refine gf_RX6_47 C dX6_fill__192 ?_
        refine r_iload_n C dX6_fill__195 rfl rfl ?_
        refine r_iconst (v := 0) C dX6_fill__196 (by decide) ?_
        refine r_iast C (1024 * r + T) (by decide) rfl rfl (by omega) dX6_fill__197 ?_
        refine r_iload C dX6_fill__198 rfl ?_
        refine r_aload_n C dX6_fill__200 rfl rfl ?_
        refine gf_RX6_41 C dX6_fill__201 ?_
        refine r_iload_n C dX6_fill__204 rfl rfl ?_
        refine r_iald C (1024 * r + T) (by decide) rfl rfl (by omega) dX6_fill__205 ?_
        refine r_topi (show _ = i32 (szf v) from (if_pos rfl : upd (Zv Y 48) (1024 * r + T) (i32 (szf v)) (1024 * r + T) = _)) ?_
        refine r_icmp_ne (tgt := 236) C dX6_fill__206 (by decide) (fun c_206 => absurd (rfl) c_206) (fun c_206 => ?_)
        refine r_iload C dX6_fill__209 rfl ?_
        refine r_aload_n C dX6_fill__211 rfl rfl ?_
        refine gf_RX6_44 C dX6_fill__212 ?_
        refine r_iload_n C dX6_fill__215 rfl rfl ?_
        refine r_iald C (1024 * r + T) (by decide) rfl rfl (by omega) dX6_fill__216 ?_
        refine r_topi (show _ = i32 (csf v) from (if_pos rfl : upd (Zv Y 49) (1024 * r + T) (i32 (csf v)) (1024 * r + T) = _)) ?_
        refine r_icmp_ne (tgt := 236) C dX6_fill__217 (by decide) (fun c_217 => absurd (rfl) c_217) (fun c_217 => ?_)
        refine r_aload_n C dX6_fill__220 rfl rfl ?_
        refine gf_RX6_47 C dX6_fill__221 ?_
        refine r_iload_n C dX6_fill__224 rfl rfl ?_
        refine r_dup2 C dX6_fill__225 rfl rfl ?_
        refine r_iald C (1024 * r + T) (by decide) rfl rfl (by omega) dX6_fill__226 ?_
        refine r_topi (show _ = 0 from (if_pos rfl : upd (Zv Y 50) (1024 * r + T) 0 (1024 * r + T) = _)) ?_
        refine r_aload_n C dX6_fill__227 rfl rfl ?_
        refine gf_RX6_47 C dX6_fill__228 ?_
        refine r_iload C dX6_fill__231 rfl ?_
        refine r_iald C (N) (by decide) rfl rfl (by omega) dX6_fill__233 ?_
        refine r_topi (show _ = w from (if_neg hN : upd (Zv Y 50) (1024 * r + T) 0 N = Zv Y 50 N).trans hw0) ?_
        refine r_iadd C dX6_fill__234 ?_
        refine r_iast C (1024 * r + T) (by decide) rfl rfl (by omega) dX6_fill__235 ?_
        have hP2 : PF X (Yv (Yv (Yv (Yv Y 48 (upd (Zv Y 48) (1024 * r + T) (i32 (szf v)))) 49 (upd (Zv Y 49) (1024 * r + T) (i32 (csf v)))) 50 (upd (Zv Y 50) (1024 * r + T) 0)) 50 (upd (upd (Zv Y 50) (1024 * r + T) 0) (1024 * r + T) (0 + w))) (1024 * r + T) (addO o v w) := by
          rw [ea]
          refine ⟨(((hP.1.tr (Fr.v _ ⟨by omega, by omega⟩)).tr (Fr.v _ ⟨by omega, by omega⟩)).tr (Fr.v _ ⟨by omega, by omega⟩)).tr (Fr.v _ ⟨by omega, by omega⟩), fun j hj => ⟨?_, ?_, ?_⟩, ?_, ?_, ?_⟩
          · show upd (Zv Y 48) _ _ j = _
            unfold upd; rw [if_neg hj]; exact (hP.2.1 j hj).1
          · show upd (Zv Y 49) _ _ j = _
            unfold upd; rw [if_neg hj]; exact (hP.2.1 j hj).2.1
          · show upd (upd (Zv Y 50) _ _) _ _ j = _
            unfold upd; rw [if_neg hj, if_neg hj]; exact (hP.2.1 j hj).2.2
          · show upd (Zv Y 48) _ _ _ = i32 (szf v)
            unfold upd; rw [if_pos rfl]
          · show upd (Zv Y 49) _ _ _ = i32 (csf v)
            unfold upd; rw [if_pos rfl]
          · show upd (upd (Zv Y 50) _ _) _ (0 + w) _ = w
            unfold upd; rw [if_pos rfl, Int32.zero_add]
        exact hkk _ hP2
theorem kv_szf {k : Nat} {p x : Int} (h : kv k p) (hk : k < 10) (hx : -10000 ≤ x ∧ x ≤ 20000) : szf (x - 1000000 + p) = szf p + 1 ∧ csf (x - 1000000 + p) = csf p + x := by
  obtain ⟨s, c, h1, h2, h3, h4, h5, h6, h7⟩ := kv_s h (by omega)
  obtain ⟨s', c', g1, g2, g3, g4, g5, g6, g7⟩ := kv_s (kv_add h hx) (by omega)
  rw [h2, h3, g2, g3]
  omega
set_option maxHeartbeats 4000000 in
set_option maxRecDepth 100000 in
theorem lp_X6_fill {l : Launch} {G : Geo} {J : JT} {JX : JXT} {X : St} (hfl : l.stackTraces = false) {r T m k : Nat} {s : Nat → Int} {nx : Nat → OP} (hr : r < 10) (hT : T < 1024) (hm : m < 2048) (hk : k < 10) (hch : Zv X 51 r = nI m) (hs : ∀ c, c < 10 → m.testBit c = true → ∃ x, s c = x - 1000000 ∧ (-10000 ≤ x ∧ x ≤ 20000) ∧ Zv X 41 (10 * r + c) = i32 x) (hn : ∀ U, okO k (nx U)) (hnT : OHold X (1024 * (r + 1) + T) (nx T)) (hnS : ∀ c, c < 10 → m.testBit c = true → T.testBit c = false → OHold X (1024 * (r + 1) + sb T c) (nx (sb T c))) (CE : Cl l RX6 cX6_fill_ 8 none [] G 3 90 0 (kV (fun X' => PF X X' (1024 * r + T) (rowF m s nx T 11))) kF J JX) :
    ∀ n c (Y : St), c + n = 11 → PF X Y (1024 * r + T) (rowF m s nx T c) → J Y 0 33 [(4, .int (nI (2 ^ c))), (3, .int (nI (1024 * r + T))), (0, .ref (G.2.1 37)), (1, .int (nI r)), (2, .int (nI T))] [] := by
  have C := CE.b
  intro n
  induction n with
  | zero =>
    intro c Y h hP
    have hc : c = 11 := by omega
    subst hc
    refine r_iload C dX6_fill__33 rfl ?_
    refine r_sipush (v := 1024) C dX6_fill__35 (by decide) ?_
    refine r_icmp_gt (tgt := 245) C dX6_fill__38 (by decide) (fun c_38 => ?_) (fun c_38 => absurd ((by decide)) c_38)
    exact r_vret CE rfl dX6_fill__245 (Nat.le_of_ble_eq_true rfl) ⟨rfl, hP⟩
  | succ n ih =>
    intro c Y h hP
    by_cases e10 : c = 10
    · subst e10
      refine r_iload C dX6_fill__33 rfl ?_
      refine r_sipush (v := 1024) C dX6_fill__35 (by decide) ?_
      refine r_icmp_gt (tgt := 245) C dX6_fill__38 (by decide) (fun c_38 => absurd c_38 ((le1024 10 (by omega)))) (fun c_38 => ?_)
      refine r_aload_n C dX6_fill__41 rfl rfl ?_
      refine gf_RX6_50 C dX6_fill__42 ?_
      refine r_iload_n C dX6_fill__45 rfl rfl ?_
      refine r_iald C (r) (by decide) rfl rfl (by omega) dX6_fill__46 ?_
      refine r_topi (show _ = nI m by rw [(hP.1 51 (by omega)).2.1]; exact hch) ?_
      refine r_iload C dX6_fill__47 rfl ?_
      refine r_iand C dX6_fill__49 ?_
      refine r_topi (zand _ _) ?_
      refine r_if_eq (tgt := 236) C dX6_fill__50 (by decide) (fun c_50 => ?_) (fun c_50 => ?_)
      · -- 236
        have em := (bitp (by omega)).mp c_50
        have eo : rowF m s nx T (10 + 1) = rowF m s nx T 10 := by rw [rowF, if_neg (fun q => by rw [em] at q; exact absurd q.1 (by decide))]
        have hP9 : PF X Y (1024 * r + T) (rowF m s nx T (10 + 1)) := by rw [eo]; exact hP
        refine r_iload C dX6_fill__236 rfl ?_
        refine r_iconst (v := 1) C dX6_fill__238 (by decide) ?_
        refine r_ishl C dX6_fill__239 ?_
        refine r_topi (shl2 10 (by omega)) ?_
        refine r_istore C dX6_fill__240 (by decide) ?_
        refine r_goto (tgt := 33) C dX6_fill__242 (by decide) ?_
        refine r_sub C (lv' := [(4, .int (nI (2 ^ (10 + 1)))), (3, .int (nI (1024 * r + T))), (0, .ref (G.2.1 37)), (1, .int (nI r)), (2, .int (nI T))]) ⟨rfl, rfl, rfl, rfl, rfl, trivial⟩ ?_
        exact ih _ _ (by omega) hP9
      · -- 53
        have em : m.testBit 10 = true := nfb (fun q => c_50 ((bitp (by omega)).mpr q))
        refine r_iload_n C dX6_fill__53 rfl rfl ?_
        refine r_iload C dX6_fill__54 rfl ?_
        refine r_iand C dX6_fill__56 ?_
        refine r_topi (zand _ _) ?_
        refine r_if_eq (tgt := 63) C dX6_fill__57 (by decide) (fun c_57 => ?_) (fun c_57 => absurd (((bitp (by omega)).mpr (Nat.testBit_lt_two_pow (by omega)))) c_57)
        have hok := okO_row (T := T) (k := k) (fun c hc hb => by obtain ⟨x, h1, h2, _⟩ := hs c hc hb; exact ⟨x, h1, h2⟩) hn 10 (by omega)
        have hnv := hnT
        have hkn := hn T
        have hbn := oSi_bd hkn (by omega)
        have hbo := oSi_bd hok (by omega)
        refine r_sipush (v := 1024) C dX6_fill__63 (by decide) ?_
        refine r_iload_n C dX6_fill__66 rfl rfl ?_
        refine r_iconst (v := 1) C dX6_fill__67 (by decide) ?_
        refine r_iadd C dX6_fill__68 ?_
        refine r_topi (nI_1 r) ?_
        refine r_imul C dX6_fill__69 ?_
        refine r_iload C dX6_fill__70 rfl ?_
        refine r_sipush (v := 1024) C dX6_fill__72 (by decide) ?_
        refine r_icmp_ne (tgt := 82) C dX6_fill__75 (by decide) (fun c_75 => absurd (rfl) c_75) (fun c_75 => ?_)
        refine r_iload_n C dX6_fill__78 rfl rfl ?_
        refine r_goto (tgt := 86) C dX6_fill__79 (by decide) ?_
        refine r_iadd C dX6_fill__86 ?_
        refine r_topi (z1024 _ _) ?_
        refine r_istore C dX6_fill__87 (by decide) ?_
        refine r_aload_n C dX6_fill__89 rfl rfl ?_
        refine gf_RX6_41 C dX6_fill__90 ?_
        refine r_iload C dX6_fill__93 rfl ?_
        refine r_iald C (1024 * (r + 1) + T) (by decide) rfl rfl (by omega) dX6_fill__95 ?_
        refine r_topi (show _ = i32 (oSi (nx T)) by rw [((hP.2.1 (1024 * (r + 1) + T) (by omega)).1), ← oS_i]; exact hnv.1) ?_
        refine r_if_ge (tgt := 102) C dX6_fill__96 (by decide) (fun c_96 => ?_) (fun c_96 => ?_)
        · -- 102
          obtain ⟨p, hp⟩ := oSi_ge hkn (by omega) ((i32_le (a := 0) (by omega) (by omega)).mp c_96)
          have hkp := hkn p hp
          have eo : rowF m s nx T (10 + 1) = addO (rowF m s nx T 10) (0 + p.1) p.2 := by rw [rowF, if_pos ⟨em, Or.inl rfl⟩, if_pos rfl, if_pos rfl, hp]
          refine r_aload_n C dX6_fill__102 rfl rfl ?_
          refine gf_RX6_41 C dX6_fill__103 ?_
          refine r_iload C dX6_fill__106 rfl ?_
          refine r_iald C (1024 * (r + 1) + T) (by decide) rfl rfl (by omega) dX6_fill__108 ?_
          refine r_topi (show _ = i32 (szf p.1) by rw [((hP.2.1 (1024 * (r + 1) + T) (by omega)).1), hnv.1, hp]; rfl) ?_
          refine r_iload C dX6_fill__109 rfl ?_
          refine r_sipush (v := 1024) C dX6_fill__111 (by decide) ?_
          refine r_icmp_ne (tgt := 121) C dX6_fill__114 (by decide) (fun c_114 => absurd (rfl) c_114) (fun c_114 => ?_)
          refine r_iconst (v := 0) C dX6_fill__117 (by decide) ?_
          refine r_goto (tgt := 122) C dX6_fill__118 (by decide) ?_
          refine r_iadd C dX6_fill__122 ?_
          refine r_topi (show _ = i32 (szf (0 + p.1)) by rw [Int.zero_add]; exact Int32.add_zero _) ?_
          refine r_istore C dX6_fill__123 (by decide) ?_
          refine r_aload_n C dX6_fill__125 rfl rfl ?_
          refine gf_RX6_44 C dX6_fill__126 ?_
          refine r_iload C dX6_fill__129 rfl ?_
          refine r_iald C (1024 * (r + 1) + T) (by decide) rfl rfl (by omega) dX6_fill__131 ?_
          refine r_topi (show _ = i32 (csf p.1) by rw [((hP.2.1 (1024 * (r + 1) + T) (by omega)).2.1), hnv.2.1, hp]; rfl) ?_
          refine r_aload_n C dX6_fill__132 rfl rfl ?_
          refine r_iload_n C dX6_fill__133 rfl rfl ?_
          refine r_iload C dX6_fill__134 rfl ?_
          refine cl_RX6_130 C (con_X6_costOf l hfl _ (c := 10) hr (by omega)) dX6_fill__136 rfl ⟨Nat.le_of_ble_eq_true rfl, Nat.le_of_ble_eq_true rfl⟩ (by omega) (Nat.le_of_ble_eq_true rfl) (fun r_136 X_136 h_136 => ?_)
          obtain ⟨rfl, rfl⟩ := h_136
          refine r_topi (show _ = (0 : Int32) from rfl) ?_
          refine r_iadd C dX6_fill__139 ?_
          refine r_topi (show _ = i32 (csf (0 + p.1)) by rw [Int.zero_add]; exact Int32.add_zero _) ?_
          refine r_istore C dX6_fill__140 (by decide) ?_
          refine r_sub C (lv' := [(7, .int (i32 (csf (0 + p.1)))), (6, .int (i32 (szf (0 + p.1)))), (5, .int (nI (1024 * (r + 1) + T))), (4, .int (nI (2 ^ 10))), (3, .int (nI (1024 * r + T))), (0, .ref (G.2.1 37)), (1, .int (nI r)), (2, .int (nI T))]) ⟨rfl, rfl, rfl, rfl, rfl, rfl, rfl, rfl, trivial⟩ ?_
          refine lp_X6_fill_t hfl hr hT (M := 2 ^ 10) (k := k + 1) (v := (0 + p.1)) (w := p.2) (by omega) (by omega) (by omega) hok (by rw [Int.zero_add]; exact kv_up hkp) hP (by rw [((hP.2.1 (1024 * (r + 1) + T) (by omega)).2.2), hnv.2.2, hp]; rfl) CE ?_
          intro Y9 hP8
          have hP9 : PF X Y9 (1024 * r + T) (rowF m s nx T (10 + 1)) := by rw [eo]; exact hP8
          refine r_iload C dX6_fill__236 rfl ?_
          refine r_iconst (v := 1) C dX6_fill__238 (by decide) ?_
          refine r_ishl C dX6_fill__239 ?_
          refine r_topi (shl2 10 (by omega)) ?_
          refine r_istore C dX6_fill__240 (by decide) ?_
          refine r_goto (tgt := 33) C dX6_fill__242 (by decide) ?_
          refine r_sub C (lv' := [(4, .int (nI (2 ^ (10 + 1)))), (3, .int (nI (1024 * r + T))), (0, .ref (G.2.1 37)), (1, .int (nI r)), (2, .int (nI T))]) ⟨rfl, rfl, rfl, rfl, rfl, trivial⟩ ?_
          exact ih _ _ (by omega) hP9
        · -- 99
          have hp := oSi_lt hkn (by omega) (fun q => c_96 ((i32_le (a := 0) (by omega) (by omega)).mpr q))
          have eo : rowF m s nx T (10 + 1) = rowF m s nx T 10 := by rw [rowF, if_pos ⟨em, Or.inl rfl⟩, if_pos rfl, hp]
          have hP9 : PF X Y (1024 * r + T) (rowF m s nx T (10 + 1)) := by rw [eo]; exact hP
          refine r_goto (tgt := 236) C dX6_fill__99 (by decide) ?_
          refine r_iload C dX6_fill__236 rfl ?_
          refine r_iconst (v := 1) C dX6_fill__238 (by decide) ?_
          refine r_ishl C dX6_fill__239 ?_
          refine r_topi (shl2 10 (by omega)) ?_
          refine r_istore C dX6_fill__240 (by decide) ?_
          refine r_goto (tgt := 33) C dX6_fill__242 (by decide) ?_
          refine r_sub C (lv' := [(4, .int (nI (2 ^ (10 + 1)))), (3, .int (nI (1024 * r + T))), (0, .ref (G.2.1 37)), (1, .int (nI r)), (2, .int (nI T))]) ⟨rfl, rfl, rfl, rfl, rfl, trivial⟩ ?_
          exact ih _ _ (by omega) hP9
    · have h10 : c < 10 := by omega
      refine r_iload C dX6_fill__33 rfl ?_
      refine r_sipush (v := 1024) C dX6_fill__35 (by decide) ?_
      refine r_icmp_gt (tgt := 245) C dX6_fill__38 (by decide) (fun c_38 => absurd c_38 ((le1024 c (by omega)))) (fun c_38 => ?_)
      refine r_aload_n C dX6_fill__41 rfl rfl ?_
      refine gf_RX6_50 C dX6_fill__42 ?_
      refine r_iload_n C dX6_fill__45 rfl rfl ?_
      refine r_iald C (r) (by decide) rfl rfl (by omega) dX6_fill__46 ?_
      refine r_topi (show _ = nI m by rw [(hP.1 51 (by omega)).2.1]; exact hch) ?_
      refine r_iload C dX6_fill__47 rfl ?_
      refine r_iand C dX6_fill__49 ?_
      refine r_topi (zand _ _) ?_
      refine r_if_eq (tgt := 236) C dX6_fill__50 (by decide) (fun c_50 => ?_) (fun c_50 => ?_)
      · -- 236
        have em := (bitp (by omega)).mp c_50
        have eo : rowF m s nx T (c + 1) = rowF m s nx T c := by rw [rowF, if_neg (fun q => by rw [em] at q; exact absurd q.1 (by decide))]
        have hP9 : PF X Y (1024 * r + T) (rowF m s nx T (c + 1)) := by rw [eo]; exact hP
        refine r_iload C dX6_fill__236 rfl ?_
        refine r_iconst (v := 1) C dX6_fill__238 (by decide) ?_
        refine r_ishl C dX6_fill__239 ?_
        refine r_topi (shl2 c (by omega)) ?_
        refine r_istore C dX6_fill__240 (by decide) ?_
        refine r_goto (tgt := 33) C dX6_fill__242 (by decide) ?_
        refine r_sub C (lv' := [(4, .int (nI (2 ^ (c + 1)))), (3, .int (nI (1024 * r + T))), (0, .ref (G.2.1 37)), (1, .int (nI r)), (2, .int (nI T))]) ⟨rfl, rfl, rfl, rfl, rfl, trivial⟩ ?_
        exact ih _ _ (by omega) hP9
      · -- 53
        have em : m.testBit c = true := nfb (fun q => c_50 ((bitp (by omega)).mpr q))
        obtain ⟨x, hx1, hx2, hx3⟩ := hs c h10 em
        refine r_iload_n C dX6_fill__53 rfl rfl ?_
        refine r_iload C dX6_fill__54 rfl ?_
        refine r_iand C dX6_fill__56 ?_
        refine r_topi (zand _ _) ?_
        refine r_if_eq (tgt := 63) C dX6_fill__57 (by decide) (fun c_57 => ?_) (fun c_57 => ?_)
        · -- 63
          have eT := (bitp (by omega)).mp c_57
          have hsb : sb T c < 1024 := sb_lt (n := 10) hT h10
          have hok := okO_row (T := T) (k := k) (fun c hc hb => by obtain ⟨x, h1, h2, _⟩ := hs c hc hb; exact ⟨x, h1, h2⟩) hn c (by omega)
          have hnv := hnS c h10 em eT
          have hkn := hn (sb T c)
          have hbn := oSi_bd hkn (by omega)
          have hbo := oSi_bd hok (by omega)
          refine r_sipush (v := 1024) C dX6_fill__63 (by decide) ?_
          refine r_iload_n C dX6_fill__66 rfl rfl ?_
          refine r_iconst (v := 1) C dX6_fill__67 (by decide) ?_
          refine r_iadd C dX6_fill__68 ?_
          refine r_topi (nI_1 r) ?_
          refine r_imul C dX6_fill__69 ?_
          refine r_iload C dX6_fill__70 rfl ?_
          refine r_sipush (v := 1024) C dX6_fill__72 (by decide) ?_
          refine r_icmp_ne (tgt := 82) C dX6_fill__75 (by decide) (fun c_75 => ?_) (fun c_75 => absurd c_75 ((fun q => absurd ((two10 c (by omega)).mp q) (by omega))))
          refine r_iload_n C dX6_fill__82 rfl rfl ?_
          refine r_iload C dX6_fill__83 rfl ?_
          refine r_ior C dX6_fill__85 ?_
          refine r_topi (zor T (2 ^ c)) ?_
          refine r_iadd C dX6_fill__86 ?_
          refine r_topi (z1024 _ _) ?_
          refine r_istore C dX6_fill__87 (by decide) ?_
          refine r_aload_n C dX6_fill__89 rfl rfl ?_
          refine gf_RX6_41 C dX6_fill__90 ?_
          refine r_iload C dX6_fill__93 rfl ?_
          refine r_iald C (1024 * (r + 1) + (sb T c)) (by decide) rfl rfl (by omega) dX6_fill__95 ?_
          refine r_topi (show _ = i32 (oSi (nx (sb T c))) by rw [((hP.2.1 (1024 * (r + 1) + (sb T c)) (by omega)).1), ← oS_i]; exact hnv.1) ?_
          refine r_if_ge (tgt := 102) C dX6_fill__96 (by decide) (fun c_96 => ?_) (fun c_96 => ?_)
          · -- 102
            obtain ⟨p, hp⟩ := oSi_ge hkn (by omega) ((i32_le (a := 0) (by omega) (by omega)).mp c_96)
            have hkp := hkn p hp
            have eo : rowF m s nx T (c + 1) = addO (rowF m s nx T c) (s c + p.1) p.2 := by rw [rowF, if_pos ⟨em, Or.inr eT⟩, if_neg (by omega), if_neg (by omega), hp]
            refine r_aload_n C dX6_fill__102 rfl rfl ?_
            refine gf_RX6_41 C dX6_fill__103 ?_
            refine r_iload C dX6_fill__106 rfl ?_
            refine r_iald C (1024 * (r + 1) + (sb T c)) (by decide) rfl rfl (by omega) dX6_fill__108 ?_
            refine r_topi (show _ = i32 (szf p.1) by rw [((hP.2.1 (1024 * (r + 1) + (sb T c)) (by omega)).1), hnv.1, hp]; rfl) ?_
            refine r_iload C dX6_fill__109 rfl ?_
            refine r_sipush (v := 1024) C dX6_fill__111 (by decide) ?_
            refine r_icmp_ne (tgt := 121) C dX6_fill__114 (by decide) (fun c_114 => ?_) (fun c_114 => absurd c_114 ((fun q => absurd ((two10 c (by omega)).mp q) (by omega))))
            refine r_iconst (v := 1) C dX6_fill__121 (by decide) ?_
            refine r_iadd C dX6_fill__122 ?_
            refine r_topi (show _ = i32 (szf (s c + p.1)) by rw [hx1, (kv_szf hkp hk hx2).1, ← i32_add]; rfl) ?_
            refine r_istore C dX6_fill__123 (by decide) ?_
            refine r_aload_n C dX6_fill__125 rfl rfl ?_
            refine gf_RX6_44 C dX6_fill__126 ?_
            refine r_iload C dX6_fill__129 rfl ?_
            refine r_iald C (1024 * (r + 1) + (sb T c)) (by decide) rfl rfl (by omega) dX6_fill__131 ?_
            refine r_topi (show _ = i32 (csf p.1) by rw [((hP.2.1 (1024 * (r + 1) + (sb T c)) (by omega)).2.1), hnv.2.1, hp]; rfl) ?_
            refine r_aload_n C dX6_fill__132 rfl rfl ?_
            refine r_iload_n C dX6_fill__133 rfl rfl ?_
            refine r_iload C dX6_fill__134 rfl ?_
            refine cl_RX6_130 C (con_X6_costOf l hfl _ (c := c) hr (by omega)) dX6_fill__136 rfl ⟨Nat.le_of_ble_eq_true rfl, Nat.le_of_ble_eq_true rfl⟩ (by omega) (Nat.le_of_ble_eq_true rfl) (fun r_136 X_136 h_136 => ?_)
            obtain ⟨rfl, rfl⟩ := h_136
            refine r_topi (show _ = i32 x by rw [if_neg (by omega), (hP.1 41 (by omega)).2.1]; exact hx3) ?_
            refine r_iadd C dX6_fill__139 ?_
            refine r_topi (show _ = i32 (csf (s c + p.1)) by rw [hx1, (kv_szf hkp hk hx2).2, ← i32_add]) ?_
            refine r_istore C dX6_fill__140 (by decide) ?_
            refine r_sub C (lv' := [(7, .int (i32 (csf (s c + p.1)))), (6, .int (i32 (szf (s c + p.1)))), (5, .int (nI (1024 * (r + 1) + (sb T c)))), (4, .int (nI (2 ^ c))), (3, .int (nI (1024 * r + T))), (0, .ref (G.2.1 37)), (1, .int (nI r)), (2, .int (nI T))]) ⟨rfl, rfl, rfl, rfl, rfl, rfl, rfl, rfl, trivial⟩ ?_
            refine lp_X6_fill_t hfl hr hT (M := 2 ^ c) (k := k + 1) (v := (s c + p.1)) (w := p.2) (by omega) (by omega) (by omega) hok (by rw [hx1]; exact kv_add hkp hx2) hP (by rw [((hP.2.1 (1024 * (r + 1) + (sb T c)) (by omega)).2.2), hnv.2.2, hp]; rfl) CE ?_
            intro Y9 hP8
            have hP9 : PF X Y9 (1024 * r + T) (rowF m s nx T (c + 1)) := by rw [eo]; exact hP8
            refine r_iload C dX6_fill__236 rfl ?_
            refine r_iconst (v := 1) C dX6_fill__238 (by decide) ?_
            refine r_ishl C dX6_fill__239 ?_
            refine r_topi (shl2 c (by omega)) ?_
            refine r_istore C dX6_fill__240 (by decide) ?_
            refine r_goto (tgt := 33) C dX6_fill__242 (by decide) ?_
            refine r_sub C (lv' := [(4, .int (nI (2 ^ (c + 1)))), (3, .int (nI (1024 * r + T))), (0, .ref (G.2.1 37)), (1, .int (nI r)), (2, .int (nI T))]) ⟨rfl, rfl, rfl, rfl, rfl, trivial⟩ ?_
            exact ih _ _ (by omega) hP9
          · -- 99
            have hp := oSi_lt hkn (by omega) (fun q => c_96 ((i32_le (a := 0) (by omega) (by omega)).mpr q))
            have eo : rowF m s nx T (c + 1) = rowF m s nx T c := by rw [rowF, if_pos ⟨em, Or.inr eT⟩, if_neg (by omega), hp]
            have hP9 : PF X Y (1024 * r + T) (rowF m s nx T (c + 1)) := by rw [eo]; exact hP
            refine r_goto (tgt := 236) C dX6_fill__99 (by decide) ?_
            refine r_iload C dX6_fill__236 rfl ?_
            refine r_iconst (v := 1) C dX6_fill__238 (by decide) ?_
            refine r_ishl C dX6_fill__239 ?_
            refine r_topi (shl2 c (by omega)) ?_
            refine r_istore C dX6_fill__240 (by decide) ?_
            refine r_goto (tgt := 33) C dX6_fill__242 (by decide) ?_
            refine r_sub C (lv' := [(4, .int (nI (2 ^ (c + 1)))), (3, .int (nI (1024 * r + T))), (0, .ref (G.2.1 37)), (1, .int (nI r)), (2, .int (nI T))]) ⟨rfl, rfl, rfl, rfl, rfl, trivial⟩ ?_
            exact ih _ _ (by omega) hP9
        · -- 60
          have eT : T.testBit c = true := nfb (fun q => c_57 ((bitp (by omega)).mpr q))
          have eo : rowF m s nx T (c + 1) = rowF m s nx T c := by rw [rowF, if_neg (fun q => q.2.elim (fun w => by omega) (fun w => by rw [eT] at w; cases w))]
          have hP9 : PF X Y (1024 * r + T) (rowF m s nx T (c + 1)) := by rw [eo]; exact hP
          refine r_goto (tgt := 236) C dX6_fill__60 (by decide) ?_
          refine r_iload C dX6_fill__236 rfl ?_
          refine r_iconst (v := 1) C dX6_fill__238 (by decide) ?_
          refine r_ishl C dX6_fill__239 ?_
          refine r_topi (shl2 c (by omega)) ?_
          refine r_istore C dX6_fill__240 (by decide) ?_
          refine r_goto (tgt := 33) C dX6_fill__242 (by decide) ?_
          refine r_sub C (lv' := [(4, .int (nI (2 ^ (c + 1)))), (3, .int (nI (1024 * r + T))), (0, .ref (G.2.1 37)), (1, .int (nI r)), (2, .int (nI T))]) ⟨rfl, rfl, rfl, rfl, rfl, trivial⟩ ?_
          exact ih _ _ (by omega) hP9

set_option maxHeartbeats 4000000 in
set_option maxRecDepth 100000 in
/-- X6_fill_  -/
theorem con_X6_fill_ (l : Launch) (hfl : l.stackTraces = false) {r T m k : Nat} {s : Nat → Int} {nx : Nat → OP} (X : St) (hr : r < 10) (hT : T < 1024) (hm : m < 2048) (hk : k < 10) (hch : Zv X 51 r = nI m) (hs : ∀ c, c < 10 → m.testBit c = true → ∃ x, s c = x - 1000000 ∧ (-10000 ≤ x ∧ x ≤ 20000) ∧ Zv X 41 (10 * r + c) = i32 x) (hn : ∀ U, okO k (nx U)) (hnT : OHold X (1024 * (r + 1) + T) (nx T)) (hnS : ∀ c, c < 10 → m.testBit c = true → T.testBit c = false → OHold X (1024 * (r + 1) + sb T c) (nx (sb T c))) : Con l yX6_fill_ cX6_fill_ 8 none 3 90 0 (fun G => [.ref (G.2.1 37), .int (nI r), .int (nI T)]) X (kV (fun X' => PF X X' (1024 * r + T) (rowF m s nx T 11))) kF := by
  refine con_of (lv := fun G => [(0, .ref (G.2.1 37)), (1, .int (nI r)), (2, .int (nI T))]) hfl (by decide +kernel) (fun _ => rfl) (fun _ => Nat.le_of_ble_eq_true rfl) ?_
  intro G J JX CE
  have C := CE.b
  refine r_sipush (v := 1024) C dX6_fill__0 (by decide) ?_
  refine r_iload_n C dX6_fill__3 rfl rfl ?_
  refine r_imul C dX6_fill__4 ?_
  refine r_iload_n C dX6_fill__5 rfl rfl ?_
  refine r_iadd C dX6_fill__6 ?_
  refine r_topi (z1024 _ _) ?_
  refine r_istore_n C dX6_fill__7 rfl (by decide) ?_
  refine r_aload_n C dX6_fill__8 rfl rfl ?_
  refine gf_RX6_41 C dX6_fill__9 ?_
  refine r_iload_n C dX6_fill__12 rfl rfl ?_
  refine r_bipush (v := (-100)) C dX6_fill__13 (by decide) ?_
  refine r_iast C (1024 * r + T) (by decide) rfl rfl (by omega) dX6_fill__15 ?_
  refine r_aload_n C dX6_fill__16 rfl rfl ?_
  refine gf_RX6_44 C dX6_fill__17 ?_
  refine r_iload_n C dX6_fill__20 rfl rfl ?_
  refine r_iconst (v := 0) C dX6_fill__21 (by decide) ?_
  refine r_iast C (1024 * r + T) (by decide) rfl rfl (by omega) dX6_fill__22 ?_
  refine r_aload_n C dX6_fill__23 rfl rfl ?_
  refine gf_RX6_47 C dX6_fill__24 ?_
  refine r_iload_n C dX6_fill__27 rfl rfl ?_
  refine r_iconst (v := 0) C dX6_fill__28 (by decide) ?_
  refine r_iast C (1024 * r + T) (by decide) rfl rfl (by omega) dX6_fill__29 ?_
  refine r_iconst (v := 1) C dX6_fill__30 (by decide) ?_
  refine r_istore C dX6_fill__31 (by decide) ?_
  refine r_sub C (lv' := [(4, .int (nI (2 ^ 0))), (3, .int (nI (1024 * r + T))), (0, .ref (G.2.1 37)), (1, .int (nI r)), (2, .int (nI T))]) ⟨rfl, rfl, rfl, rfl, rfl, trivial⟩ ?_
  exact lp_X6_fill hfl hr hT hm hk hch hs hn hnT hnS CE 11 0 _ (by omega) ⟨((Fr.v _ ⟨by omega, by omega⟩).tr (Fr.v _ ⟨by omega, by omega⟩)).tr (Fr.v _ ⟨by omega, by omega⟩), fun j hj => ⟨if_neg hj, if_neg hj, if_neg hj⟩, ⟨if_pos rfl, if_pos rfl, if_pos rfl⟩⟩
