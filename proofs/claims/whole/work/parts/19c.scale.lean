theorem cv_lt (op : CmpOp) (a b : Int) : Op.cmpValue (some (compare a b)) op < 0 ↔ a < b := by
  rcases cv_v op a b with ⟨h, e⟩ | ⟨h, e⟩ | ⟨h, e⟩ <;> rw [e] <;> constructor <;> first | (intro _; omega) | (intro _; decide) | (intro q; exact absurd q (by decide))
theorem cv_le (op : CmpOp) (a b : Int) : Op.cmpValue (some (compare a b)) op ≤ 0 ↔ a ≤ b := by
  rcases cv_v op a b with ⟨h, e⟩ | ⟨h, e⟩ | ⟨h, e⟩ <;> rw [e] <;> constructor <;> first | (intro _; omega) | (intro _; decide) | (intro q; exact absurd q (by decide))
/-- a cost by nf eighths of sign sf, the nearest whole number -/
def stv (sf : Bool) (nf : Nat) (v : Int) : Int := nz (decide (v < 0) != sf) (v.natAbs * nf)
theorem n8_le (n : Nat) : n8 n ≤ n / 8 + 1 := by
  unfold n8
  split <;> omega
theorem cell_le {v : Int} {nf : Nat} (hv : zok v) (hn : nf ≤ 800) : v.natAbs * nf ≤ 16000000 := Nat.le_trans (Nat.mul_le_mul (show v.natAbs ≤ 20000 by omega) hn) (by decide)
theorem stv_bd {sf : Bool} {nf : Nat} {v : Int} (hv : zok v) (hn : nf ≤ 800) : bd 3000000 (stv sf nf v) := by
  have h1 := cell_le hv hn
  have h2 := n8_le (v.natAbs * nf)
  unfold stv nz
  generalize v.natAbs * nf = k at h1 h2
  cases (decide (v < 0) != sf)
  · rw [sg_f]; omega
  · rw [sg_t]; omega
theorem Pd_cell {sf : Bool} {nf : Nat} {v : Int} {f : UInt64} (hv : zok v) (hf : Pd 3 sf nf f) (hn : nf ≤ 800) : Pd 3 (decide (v < 0) != sf) (v.natAbs * nf) (FP.dmul (FP.i2d (i32 v)) f) := by
  have h1 := Pd_i2d (i32 v)
  rw [i32_int (by omega) (by omega)] at h1
  have h2 := cell_le hv hn
  exact Pd_mul h1 hf (by decide) (by omega)
/-- the first n rows' costs of column c stay in range -/
def stok (z : Nat → Int) (c : Nat) (sf : Bool) (nf : Nat) : Nat → Bool
  | 0 => true
  | n + 1 => stok z c sf nf n && (decide (z (10 * n + c) = 20000) || inC (stv sf nf (z (10 * n + c))))
theorem stok_stop {z : Nat → Int} {c : Nat} {sf : Bool} {nf r : Nat} (h : z (10 * r + c) ≠ 20000) (h2 : inC (stv sf nf (z (10 * r + c))) = false) : ∀ n, r < n → stok z c sf nf n = false
  | 0, q => absurd q (Nat.not_lt_zero r)
  | n + 1, q => by
    unfold stok
    by_cases e : r = n
    · subst e
      rw [h2, decide_eq_false h]
      simp
    · rw [stok_stop h h2 n (by omega)]
      rfl
theorem stok_at {z : Nat → Int} {c : Nat} {sf : Bool} {nf : Nat} : ∀ n, stok z c sf nf n = true → ∀ r, r < n → z (10 * r + c) = 20000 ∨ inC (stv sf nf (z (10 * r + c))) = true
  | 0, _, r, hr => absurd hr (Nat.not_lt_zero r)
  | n + 1, h, r, hr => by
    unfold stok at h
    rw [Bool.and_eq_true, Bool.or_eq_true, decide_eq_true_eq] at h
    rcases Nat.lt_or_ge r n with g | g
    · exact stok_at n h.1 r g
    · rw [show r = n by omega]; exact h.2
def stz (z : Nat → Int) (c : Nat) (sf : Bool) (nf : Nat) : Nat → Int := fun k => if k % 10 = c ∧ z k ≠ 20000 then stv sf nf (z k) else z k
/-- how many of the first n rows' costs change -/
def chg (z : Nat → Int) (c : Nat) (sf : Bool) (nf : Nat) : Nat → Nat
  | 0 => 0
  | n + 1 => if z (10 * n + c) = 20000 ∨ stv sf nf (z (10 * n + c)) = z (10 * n + c) then chg z c sf nf n else chg z c sf nf n + 1
theorem stz_tok {R C a b c : Nat} {z : Nat → Int} {sf : Bool} {nf : Nat} (h : tok R C a b z) (hs : stok z c sf nf 10 = true) : tok R C a b (stz z c sf nf) := by
  refine ⟨h.1, h.2.1, fun k hk => ?_, fun k hk q => ?_⟩
  · unfold stz
    split
    · rename_i g
      rcases stok_at 10 hs (k / 10) (by omega) with e | e
      · rw [show 10 * (k / 10) + c = k by omega] at e
        exact absurd e g.2
      · rw [show 10 * (k / 10) + c = k by omega] at e
        have := inC_i e
        omega
    · exact h.2.2.1 k hk
  · unfold stz
    rw [if_neg (fun g => g.2 (h.2.2.2 k hk q))]
    exact h.2.2.2 k hk q
theorem Pd_100 : Pd 3 false 800 4636737291354636288 := ⟨7036874417766400, -46, by decide +kernel, by decide, by decide +kernel⟩
theorem Pd_m100 : Pd 3 true 800 13860109328209412096 := ⟨7036874417766400, -46, by decide +kernel, by decide, by decide +kernel⟩
def inF (sf : Bool) (nf : Nat) : Bool := decide (nf ≤ 800)
theorem ddiv_n64 {s t : Bool} {n m : Nat} {x y : UInt64} (hx : Pd 0 s n x) (hy : Pd 0 t m y) (hm : m ≠ 0) : vf_n64 (FP.ddiv x y) := by
  obtain ⟨c, q, h1, h2, h3⟩ := hx
  obtain ⟨d, r, g1, g2, g3⟩ := hy
  have hd : d ≠ 0 := fun e => by
    rw [e, Nat.zero_mul] at g3
    rcases Nat.mul_eq_zero.mp g3.symm with e | e
    · exact hm e
    · exact absurd e (Nat.pos_iff_ne_zero.mp (Nat.two_pow_pos _))
  have e : FP.Core.val64 (FP.ddiv x y) ≠ .nan := by
    show FP.Core.val64 (FP.Core.ddiv x y) ≠ .nan
    rw [FP.Core.val64_ddiv, h1, g1]
    show (if d = 0 then (if c = 0 then FP.Core.Datum.nan else .inf (s != t)) else FP.Core.roundRatio FP.Core.b64 (s != t) c d (q - r)) ≠ .nan
    rw [if_neg hd]
    exact FP.Core.roundRatio_ne_nan _ _ _ _ _
  have h9 := (FP.Core.ne_nan _).mp e
  unfold vf_n64
  rw [UInt64.le_iff_toNat_le, FP.Core.mask_toNat]
  exact h9
set_option maxHeartbeats 4000000 in
set_option maxRecDepth 100000 in
theorem lp_X4_canStretchColumn {l : Launch} {G : Geo} {J : JT} {JX : JXT} {X : St} (hfl : l.stackTraces = false) {c nf : Nat} {sf : Bool} {z : Nat → Int} {f : UInt64} (hc : c < 10) (hz : ∀ k, k < 100 → Zv X 2 k = i32 (z k) ∧ zok (z k)) (hf : Pd 3 sf nf f) (hn : nf ≤ 800) (CE : Cl l RX4 cX4_canStretchColumn 6 (some .boolean) [] G 2 60 0 (kI (fun r9 X' => r9 = bI (stok z c sf nf 10) ∧ X = X')) kF J JX) :
    ∀ n r, r + n = 10 → stok z c sf nf r = true → J X 0 3 [(4, .int (nI r)), (0, .ref (G.2.1 1)), (1, .int (nI c)), (2, .double f)] [] := by
  have C := CE.b
  intro n
  induction n with
  | zero =>
    intro r h hs
    have hr : r = 10 := by omega
    subst hr
    refine r_iload C dX4_canStretchColumn_3 rfl ?_
    refine r_bipush (v := 10) C dX4_canStretchColumn_5 (by decide) ?_
    refine r_icmp_ge (tgt := 50) C dX4_canStretchColumn_7 (by decide) (fun c_7 => ?_) (fun c_7 => absurd ((by decide)) c_7)
    refine r_iconst (v := 1) C dX4_canStretchColumn_50 (by decide) ?_
    exact r_iret CE rfl rfl dX4_canStretchColumn_51 (Nat.le_of_ble_eq_true rfl) ⟨_, rfl, by rw [hs]; rfl, rfl⟩
  | succ n ih =>
    intro r h hs
    have hlt : r < 10 := by omega
    have hzc := hz (10 * r + c) (by omega)
    have hm := Pd_cell hzc.2 hf hn
    have hb := stv_bd (sf := sf) hzc.2 hn
    refine r_iload C dX4_canStretchColumn_3 rfl ?_
    refine r_bipush (v := 10) C dX4_canStretchColumn_5 (by decide) ?_
    refine r_icmp_ge (tgt := 50) C dX4_canStretchColumn_7 (by decide) (fun c_7 => absurd c_7 ((nI_ge (a := r) (b := 10) (by omega) (by decide)))) (fun c_7 => ?_)
    refine r_aload_n C dX4_canStretchColumn_10 rfl rfl ?_
    refine r_iload C dX4_canStretchColumn_11 rfl ?_
    refine r_iload_n C dX4_canStretchColumn_13 rfl rfl ?_
    refine cl_RX4_42 C (con_X4_cell l hfl _ hlt hc) dX4_canStretchColumn_14 rfl ⟨Nat.le_of_ble_eq_true rfl, Nat.le_of_ble_eq_true rfl⟩ (by omega) (Nat.le_of_ble_eq_true rfl) (fun r_14 X_14 h_14 => ?_)
    obtain ⟨rfl, rfl⟩ := h_14
    refine r_topi hzc.1 ?_
    refine r_istore C dX4_canStretchColumn_17 (by decide) ?_
    refine r_iload C dX4_canStretchColumn_19 rfl ?_
    refine r_sipush (v := 20000) C dX4_canStretchColumn_21 (by decide) ?_
    refine r_icmp_eq (tgt := 44) C dX4_canStretchColumn_24 (by decide) (fun c_24 => ?_) (fun c_24 => ?_)
    · -- 44
      have e := (i20000 hzc.2).mp c_24
      have hs9 : stok z c sf nf (r + 1) = true := by unfold stok; rw [hs, decide_eq_true e]; rfl
      refine r_iinc (v := _) C dX4_canStretchColumn_44 rfl (nI_1 r) ?_
      refine r_goto (tgt := 3) C dX4_canStretchColumn_47 (by decide) ?_
      refine r_sub C (lv' := [(4, .int (nI (r + 1))), (0, .ref (G.2.1 1)), (1, .int (nI c)), (2, .double f)]) ⟨rfl, rfl, rfl, rfl, trivial⟩ ?_
      exact ih (r + 1) (by omega) hs9
    · -- 27
      have e := fun q => c_24 ((i20000 hzc.2).mpr q)
      refine r_iload C dX4_canStretchColumn_27 rfl ?_
      refine r_i2d C dX4_canStretchColumn_29 ?_
      refine r_dload_n C dX4_canStretchColumn_30 rfl rfl ?_
      refine r_dmul C dX4_canStretchColumn_31 (Pd_n64 hm) ?_
      refine cl_RX4_53 C (con_X4_nearest l hfl _ hm (by have := cell_le hzc.2 hn; omega)) dX4_canStretchColumn_32 rfl ⟨Nat.le_of_ble_eq_true rfl, Nat.le_of_ble_eq_true rfl⟩ (by omega) (Nat.le_of_ble_eq_true rfl) (fun r_32 X_32 h_32 => ?_)
      obtain ⟨rfl, rfl⟩ := h_32
      refine r_topi (show _ = i32 (stv sf nf (z (10 * r + c))) from rfl) ?_
      refine r_i2l C dX4_canStretchColumn_35 ?_
      refine r_topl (i32_long (by omega)) ?_
      refine cl_RX4_49 C (con_X5_isCost l hfl _ (by omega)) dX4_canStretchColumn_36 rfl ⟨Nat.le_of_ble_eq_true rfl, Nat.le_of_ble_eq_true rfl⟩ (by omega) (Nat.le_of_ble_eq_true rfl) (fun r_36 X_36 h_36 => ?_)
      obtain ⟨rfl, rfl⟩ := h_36
      refine r_if_ne (tgt := 44) C dX4_canStretchColumn_39 (by decide) (fun c_39 => ?_) (fun c_39 => ?_)
      · -- 44
        have hs9 : stok z c sf nf (r + 1) = true := by unfold stok; rw [hs, bI_1 c_39]; simp
        refine r_iinc (v := _) C dX4_canStretchColumn_44 rfl (nI_1 r) ?_
        refine r_goto (tgt := 3) C dX4_canStretchColumn_47 (by decide) ?_
        refine r_sub C (lv' := [(4, .int (nI (r + 1))), (0, .ref (G.2.1 1)), (1, .int (nI c)), (2, .double f)]) ⟨rfl, rfl, rfl, rfl, trivial⟩ ?_
        exact ih (r + 1) (by omega) hs9
      · -- 42
        refine r_iconst (v := 0) C dX4_canStretchColumn_42 (by decide) ?_
        exact r_iret CE rfl rfl dX4_canStretchColumn_43 (Nat.le_of_ble_eq_true rfl) ⟨_, rfl, by rw [stok_stop e (bI_0 c_39) 10 hlt]; rfl, rfl⟩

set_option maxHeartbeats 4000000 in
set_option maxRecDepth 100000 in
/-- X4_canStretchColumn  -/
theorem con_X4_canStretchColumn (l : Launch) (hfl : l.stackTraces = false) {c nf : Nat} {sf : Bool} {z : Nat → Int} {f : UInt64} (X : St) (hc : c < 10) (hz : ∀ k, k < 100 → Zv X 2 k = i32 (z k) ∧ zok (z k)) (hf : Pd 3 sf nf f) (hn : nf ≤ 800) : Con l yX4_canStretchColumn cX4_canStretchColumn 6 (some (FieldType.boolean)) 2 60 0 (fun G => [.ref (G.2.1 1), .int (nI c), .double f]) X (kI (fun r9 X' => r9 = bI (stok z c sf nf 10) ∧ X = X')) kF := by
  refine con_of (lv := fun G => [(0, .ref (G.2.1 1)), (1, .int (nI c)), (2, .double f)]) hfl (by decide +kernel) (fun _ => rfl) (fun _ => Nat.le_of_ble_eq_true rfl) ?_
  intro G J JX CE
  have C := CE.b
  refine r_iconst (v := 0) C dX4_canStretchColumn_0 (by decide) ?_
  refine r_istore C dX4_canStretchColumn_1 (by decide) ?_
  refine r_sub C (lv' := [(4, .int (nI 0)), (0, .ref (G.2.1 1)), (1, .int (nI c)), (2, .double f)]) ⟨rfl, rfl, rfl, rfl, trivial⟩ ?_
  exact lp_X4_canStretchColumn hfl hc hz hf hn CE 10 0 (by omega) rfl
set_option maxHeartbeats 4000000 in
set_option maxRecDepth 100000 in
theorem lp_X4_stretchColumn {l : Launch} {G : Geo} {J : JT} {JX : JXT} {X : St} (hfl : l.stackTraces = false) {c nf : Nat} {sf : Bool} {z : Nat → Int} {f : UInt64} (hc : c < 10) (hz : ∀ k, k < 100 → Zv X 2 k = i32 (z k) ∧ zok (z k)) (hf : Pd 3 sf nf f) (hn : nf ≤ 800) (CE : Cl l RX4 cX4_stretchColumn 7 (some .int) [] G 2 60 0 (kI (fun r9 X' => r9 = nI (chg z c sf nf 10) ∧ ∃ g, Yv X 2 g = X' ∧ ∀ k, k < 100 → g k = i32 (stz z c sf nf k))) kF J JX) :
    ∀ n r (g : Nat → Int32), r + n = 10 → (∀ k, k < 100 → g k = if k % 10 = c ∧ k / 10 < r then i32 (stz z c sf nf k) else i32 (z k)) → J (Yv X 2 g) 0 6 [(4, .int (nI (chg z c sf nf r))), (5, .int (nI r)), (0, .ref (G.2.1 1)), (1, .int (nI c)), (2, .double f)] [] := by
  have C := CE.b
  intro n
  induction n with
  | zero =>
    intro r g h hg
    have hr : r = 10 := by omega
    subst hr
    refine r_iload C dX4_stretchColumn_6 rfl ?_
    refine r_bipush (v := 10) C dX4_stretchColumn_8 (by decide) ?_
    refine r_icmp_ge (tgt := 72) C dX4_stretchColumn_10 (by decide) (fun c_10 => ?_) (fun c_10 => absurd ((by decide)) c_10)
    refine r_iload C dX4_stretchColumn_72 rfl ?_
    exact r_iret CE rfl rfl dX4_stretchColumn_74 (Nat.le_of_ble_eq_true rfl) ⟨_, rfl, rfl, g, rfl, fun k hk => by
      rw [hg k hk]
      by_cases e : k % 10 = c
      · rw [if_pos ⟨e, by omega⟩]
      · rw [if_neg (fun q => e q.1)]
        unfold stz
        rw [if_neg (fun q => e q.1)]⟩
  | succ n ih =>
    intro r g h hg
    have hlt : r < 10 := by omega
    have hzc := hz (10 * r + c) (by omega)
    have hm := Pd_cell hzc.2 hf hn
    have hb := stv_bd (sf := sf) hzc.2 hn
    have hgc : g (10 * r + c) = i32 (z (10 * r + c)) := by rw [hg _ (by omega), if_neg (by omega)]
    refine r_iload C dX4_stretchColumn_6 rfl ?_
    refine r_bipush (v := 10) C dX4_stretchColumn_8 (by decide) ?_
    refine r_icmp_ge (tgt := 72) C dX4_stretchColumn_10 (by decide) (fun c_10 => absurd c_10 ((nI_ge (a := r) (b := 10) (by omega) (by decide)))) (fun c_10 => ?_)
    refine r_aload_n C dX4_stretchColumn_13 rfl rfl ?_
    refine r_iload C dX4_stretchColumn_14 rfl ?_
    refine r_iload_n C dX4_stretchColumn_16 rfl rfl ?_
    refine cl_RX4_42 C (con_X4_cell l hfl _ hlt hc) dX4_stretchColumn_17 rfl ⟨Nat.le_of_ble_eq_true rfl, Nat.le_of_ble_eq_true rfl⟩ (by omega) (Nat.le_of_ble_eq_true rfl) (fun r_17 X_17 h_17 => ?_)
    obtain ⟨rfl, rfl⟩ := h_17
    refine r_topi (show _ = i32 (z (10 * r + c)) from hgc) ?_
    refine r_istore C dX4_stretchColumn_20 (by decide) ?_
    refine r_iload C dX4_stretchColumn_22 rfl ?_
    refine r_sipush (v := 20000) C dX4_stretchColumn_24 (by decide) ?_
    refine r_icmp_eq (tgt := 66) C dX4_stretchColumn_27 (by decide) (fun c_27 => ?_) (fun c_27 => ?_)
    · -- 66
      have e := (i20000 hzc.2).mp c_27
      have ea : chg z c sf nf (r + 1) = chg z c sf nf r := by rw [chg, if_pos (Or.inl e)]
      have es : z (10 * r + c) ≠ 20000 → stv sf nf (z (10 * r + c)) = z (10 * r + c) := fun q => absurd e q
      have hf9 : ∀ k, k < 100 → g k = if k % 10 = c ∧ k / 10 < r + 1 then i32 (stz z c sf nf k) else i32 (z k) := fun k hk => by
        rw [hg k hk]
        by_cases e2 : k = 10 * r + c
        · rw [if_neg (by omega), if_pos (by omega)]
          unfold stz
          rw [e2]
          split
          · rename_i q
            rw [es q.2]
          · rfl
        · by_cases e3 : k % 10 = c ∧ k / 10 < r
          · rw [if_pos e3, if_pos (by omega)]
          · rw [if_neg e3, if_neg (by omega)]
      refine r_iinc (v := _) C dX4_stretchColumn_66 rfl (nI_1 r) ?_
      refine r_goto (tgt := 6) C dX4_stretchColumn_69 (by decide) ?_
      refine r_sub C (lv' := [(4, .int (nI (chg z c sf nf (r + 1)))), (5, .int (nI (r + 1))), (0, .ref (G.2.1 1)), (1, .int (nI c)), (2, .double f)]) ⟨by first | rfl | (rw [ea]; rfl), rfl, rfl, rfl, rfl, trivial⟩ ?_
      exact ih (r + 1) _ (by omega) hf9
    · -- 30
      have e := fun q => c_27 ((i20000 hzc.2).mpr q)
      refine r_iload C dX4_stretchColumn_30 rfl ?_
      refine r_i2d C dX4_stretchColumn_32 ?_
      refine r_dload_n C dX4_stretchColumn_33 rfl rfl ?_
      refine r_dmul C dX4_stretchColumn_34 (Pd_n64 hm) ?_
      refine cl_RX4_53 C (con_X4_nearest l hfl _ hm (by have := cell_le hzc.2 hn; omega)) dX4_stretchColumn_35 rfl ⟨Nat.le_of_ble_eq_true rfl, Nat.le_of_ble_eq_true rfl⟩ (by omega) (Nat.le_of_ble_eq_true rfl) (fun r_35 X_35 h_35 => ?_)
      obtain ⟨rfl, rfl⟩ := h_35
      refine r_topi (show _ = i32 (stv sf nf (z (10 * r + c))) from rfl) ?_
      refine r_iload C dX4_stretchColumn_38 rfl ?_
      refine r_icmp_eq (tgt := 66) C dX4_stretchColumn_40 (by decide) (fun c_40 => ?_) (fun c_40 => ?_)
      · -- 66
        have e5 : stv sf nf (z (10 * r + c)) = z (10 * r + c) := (i32_eq (by omega) (by omega)).mp c_40
        have ea : chg z c sf nf (r + 1) = chg z c sf nf r := by rw [chg, if_pos (Or.inr e5)]
        have es : z (10 * r + c) ≠ 20000 → stv sf nf (z (10 * r + c)) = z (10 * r + c) := fun _ => e5
        have hf9 : ∀ k, k < 100 → g k = if k % 10 = c ∧ k / 10 < r + 1 then i32 (stz z c sf nf k) else i32 (z k) := fun k hk => by
          rw [hg k hk]
          by_cases e2 : k = 10 * r + c
          · rw [if_neg (by omega), if_pos (by omega)]
            unfold stz
            rw [e2]
            split
            · rename_i q
              rw [es q.2]
            · rfl
          · by_cases e3 : k % 10 = c ∧ k / 10 < r
            · rw [if_pos e3, if_pos (by omega)]
            · rw [if_neg e3, if_neg (by omega)]
        refine r_iinc (v := _) C dX4_stretchColumn_66 rfl (nI_1 r) ?_
        refine r_goto (tgt := 6) C dX4_stretchColumn_69 (by decide) ?_
        refine r_sub C (lv' := [(4, .int (nI (chg z c sf nf (r + 1)))), (5, .int (nI (r + 1))), (0, .ref (G.2.1 1)), (1, .int (nI c)), (2, .double f)]) ⟨by first | rfl | (rw [ea]; rfl), rfl, rfl, rfl, rfl, trivial⟩ ?_
        exact ih (r + 1) _ (by omega) hf9
      · -- 43
        have e5 : ¬ stv sf nf (z (10 * r + c)) = z (10 * r + c) := fun q => c_40 (by rw [q])
        have ea : chg z c sf nf (r + 1) = chg z c sf nf r + 1 := by rw [chg, if_neg (fun q => q.elim e e5)]
        refine r_aload_n C dX4_stretchColumn_43 rfl rfl ?_
        refine gf_RX4_9 C dX4_stretchColumn_44 ?_
        refine r_iload C dX4_stretchColumn_47 rfl ?_
        refine r_bipush (v := 10) C dX4_stretchColumn_49 (by decide) ?_
        refine r_imul C dX4_stretchColumn_51 ?_
        refine r_iload_n C dX4_stretchColumn_52 rfl rfl ?_
        refine r_iadd C dX4_stretchColumn_53 ?_
        refine r_iload C dX4_stretchColumn_54 rfl ?_
        refine r_i2d C dX4_stretchColumn_56 ?_
        refine r_dload_n C dX4_stretchColumn_57 rfl rfl ?_
        refine r_dmul C dX4_stretchColumn_58 (Pd_n64 hm) ?_
        refine cl_RX4_53 C (con_X4_nearest l hfl _ hm (by have := cell_le hzc.2 hn; omega)) dX4_stretchColumn_59 rfl ⟨Nat.le_of_ble_eq_true rfl, Nat.le_of_ble_eq_true rfl⟩ (by omega) (Nat.le_of_ble_eq_true rfl) (fun r_59 X_59 h_59 => ?_)
        obtain ⟨rfl, rfl⟩ := h_59
        refine r_topi (show _ = i32 (stv sf nf (z (10 * r + c))) from rfl) ?_
        refine r_iast C (10 * r + c) (by decide) rfl (zix r c) (by omega) dX4_stretchColumn_62 ?_
        refine r_st (Yv_Yv X 2 g _) ?_
        have hf9 : ∀ k, k < 100 → upd (Zv (Yv X 2 g) 2) (10 * r + c) (i32 (stv sf nf (z (10 * r + c)))) k = if k % 10 = c ∧ k / 10 < r + 1 then i32 (stz z c sf nf k) else i32 (z k) := fun k hk => by
          unfold upd
          by_cases e2 : k = 10 * r + c
          · rw [if_pos e2, if_pos (by omega), e2]
            unfold stz
            rw [if_pos ⟨by omega, e⟩]
          · rw [if_neg e2, Zv_Yv, if_pos rfl, hg k hk]
            by_cases e3 : k % 10 = c ∧ k / 10 < r
            · rw [if_pos e3, if_pos (by omega)]
            · rw [if_neg e3, if_neg (by omega)]
        refine r_iinc (v := _) C dX4_stretchColumn_63 rfl (show _ = nI (chg z c sf nf (r + 1)) by rw [ea]; exact nI_1 _) ?_
        refine r_iinc (v := _) C dX4_stretchColumn_66 rfl (nI_1 r) ?_
        refine r_goto (tgt := 6) C dX4_stretchColumn_69 (by decide) ?_
        refine r_sub C (lv' := [(4, .int (nI (chg z c sf nf (r + 1)))), (5, .int (nI (r + 1))), (0, .ref (G.2.1 1)), (1, .int (nI c)), (2, .double f)]) ⟨by first | rfl | (rw [ea]; rfl), rfl, rfl, rfl, rfl, trivial⟩ ?_
        exact ih (r + 1) _ (by omega) hf9

set_option maxHeartbeats 4000000 in
set_option maxRecDepth 100000 in
/-- X4_stretchColumn  -/
theorem con_X4_stretchColumn (l : Launch) (hfl : l.stackTraces = false) {c nf : Nat} {sf : Bool} {z : Nat → Int} {f : UInt64} (X : St) (hc : c < 10) (hz : ∀ k, k < 100 → Zv X 2 k = i32 (z k) ∧ zok (z k)) (hf : Pd 3 sf nf f) (hn : nf ≤ 800) : Con l yX4_stretchColumn cX4_stretchColumn 7 (some (FieldType.int)) 2 60 0 (fun G => [.ref (G.2.1 1), .int (nI c), .double f]) X (kI (fun r9 X' => r9 = nI (chg z c sf nf 10) ∧ ∃ g, Yv X 2 g = X' ∧ ∀ k, k < 100 → g k = i32 (stz z c sf nf k))) kF := by
  refine con_of (lv := fun G => [(0, .ref (G.2.1 1)), (1, .int (nI c)), (2, .double f)]) hfl (by decide +kernel) (fun _ => rfl) (fun _ => Nat.le_of_ble_eq_true rfl) ?_
  intro G J JX CE
  have C := CE.b
  refine r_iconst (v := 0) C dX4_stretchColumn_0 (by decide) ?_
  refine r_istore C dX4_stretchColumn_1 (by decide) ?_
  refine r_iconst (v := 0) C dX4_stretchColumn_3 (by decide) ?_
  refine r_istore C dX4_stretchColumn_4 (by decide) ?_
  refine r_sub C (lv' := [(4, .int (nI (chg z c sf nf 0))), (5, .int (nI 0)), (0, .ref (G.2.1 1)), (1, .int (nI c)), (2, .double f)]) ⟨rfl, rfl, rfl, rfl, rfl, trivial⟩ ?_
  refine r_st (Yv_id X 2).symm ?_
  exact lp_X4_stretchColumn hfl hc hz hf hn CE 10 0 _ (by omega) (fun k hk => by rw [if_neg (by omega)]; exact (hz k hk).1)
set_option maxHeartbeats 4000000 in
set_option maxRecDepth 100000 in
/-- X5_scaleColumn  -/
theorem con_X5_scaleColumn (l : Launch) (hfl : l.stackTraces = false) {A : DA} {x : Int32} {sf : Bool} {nf : Nat} {f : UInt64} (X : St) (hD : DInv X A) (hf : Pd 3 sf nf f) : Con l yX5_scaleColumn cX5_scaleColumn 4 (some (FieldType.int)) 8 140 2 (fun G => [.ref (G.2.1 0), .int x, .double f]) X (kI (fun r9 X' => ∃ c, c < A.C ∧ x = nI c ∧ nf ≤ 800 ∧ stok A.z c sf nf 10 = true ∧ r9 = nI (chg A.z c sf nf 10) ∧ DInv X' (A.tab A.R A.C A.ra A.ca (stz A.z c sf nf)) ∧ Fr Dp X X')) (fun E X' => (E = "java/lang/IndexOutOfBoundsException" ∧ X = X' ∧ inI x A.C = false) ∨ (E = "java/lang/IllegalArgumentException" ∧ X = X' ∧ inI x A.C = true ∧ ¬ nf ≤ 800) ∨ (E = "java/lang/ArithmeticException" ∧ X = X' ∧ inI x A.C = true ∧ nf ≤ 800 ∧ ∀ c, c < 10 → x = nI c → stok A.z c sf nf 10 = false)) := by
  refine con_of (lv := fun G => [(0, .ref (G.2.1 0)), (1, .int x), (2, .double f)]) hfl (by decide +kernel) (fun _ => rfl) (fun _ => Nat.le_of_ble_eq_true rfl) ?_
  intro G J JX CE
  have C := CE.b
  have hc1 : FP.dcmp f 13860109328209412096 = some (compare (FP.Core.signed sf nf) (-800)) := Pd_cmp hf Pd_m100
  have hc2 : FP.dcmp f 4636737291354636288 = some (compare (FP.Core.signed sf nf) 800) := Pd_cmp hf Pd_100
  refine r_aload_n C dX5_scaleColumn_0 rfl rfl ?_
  refine r_iload_n C dX5_scaleColumn_1 rfl rfl ?_
  refine cl_RX5_79 C (con_X5_requireColumn l hfl _ hD.C hD.ok.C) dX5_scaleColumn_2 rfl ⟨Nat.le_of_ble_eq_true rfl, Nat.le_of_ble_eq_true rfl⟩ (by omega) (Nat.le_of_ble_eq_true rfl) (fun E_2 X_2 x_2 => ?_) (fun X_2 h_2 => ?_)
  · -- thrown
    obtain ⟨rfl, rfl, h9⟩ := x_2
    exact r_out CE rfl (Nat.le_of_ble_eq_true rfl) (Or.inl ⟨rfl, rfl, h9⟩)
  obtain ⟨rfl, h2⟩ := h_2
  obtain ⟨c, hr, rfl⟩ := inI_t h2
  have hR10 := hD.ok.R
  have hC10 := hD.ok.C
  refine r_dload_n C dX5_scaleColumn_5 rfl rfl ?_
  refine r_ldc2d C dX5_scaleColumn_6 nk_RX5_114 ?_
  refine r_dcmp C dX5_scaleColumn_9 ?_
  refine r_topi (show _ = Op.cmpValue (some (compare (FP.Core.signed sf nf) (-800))) .l by rw [hc1]) ?_
  refine r_if_lt (tgt := 21) C dX5_scaleColumn_10 (by decide) (fun c_10 => ?_) (fun c_10 => ?_)
  · -- 21
    have e1 := (cv_lt _ _ _).mp c_10
    have hq : ¬ nf ≤ 800 := by
      cases sf
      · rw [sg_f] at e1; omega
      · rw [sg_t] at e1; omega
    exact r_throw CE rfl (by decide +kernel) (by decide +kernel) ck_RX5_93 ik_Qjava_lang_IllegalArgumentException sk_RX5_118 (xa_97) dX5_scaleColumn_21 dX5_scaleColumn_24 dX5_scaleColumn_25 dX5_scaleColumn_27 dX5_scaleColumn_30 (by decide) (Nat.le_of_ble_eq_true rfl) (Nat.le_of_ble_eq_true rfl) (Or.inr (Or.inl ⟨rfl, rfl, h2, hq⟩))
  · -- 13
    have e1 : ¬ FP.Core.signed sf nf < -800 := fun q => c_10 ((cv_lt _ _ _).mpr q)
    refine r_dload_n C dX5_scaleColumn_13 rfl rfl ?_
    refine r_ldc2d C dX5_scaleColumn_14 nk_RX5_116 ?_
    refine r_dcmp C dX5_scaleColumn_17 ?_
    refine r_topi (show _ = Op.cmpValue (some (compare (FP.Core.signed sf nf) 800)) .g by rw [hc2]) ?_
    refine r_if_le (tgt := 31) C dX5_scaleColumn_18 (by decide) (fun c_18 => ?_) (fun c_18 => ?_)
    · -- 31
      have e2 := (cv_le _ _ _).mp c_18
      have hq : nf ≤ 800 := by
        cases sf
        · rw [sg_f] at e2; omega
        · rw [sg_t] at e1; omega
      refine r_aload_n C dX5_scaleColumn_31 rfl rfl ?_
      refine gf_RX5_12 C dX5_scaleColumn_32 ?_
      refine r_iload_n C dX5_scaleColumn_35 rfl rfl ?_
      refine r_dload_n C dX5_scaleColumn_36 rfl rfl ?_
      refine cl_RX5_120 C (con_X4_canStretchColumn l hfl _ (c := c) (z := A.z) (by omega) hD.tb.2.2.2.2 hf hq) dX5_scaleColumn_37 rfl ⟨Nat.le_of_ble_eq_true rfl, Nat.le_of_ble_eq_true rfl⟩ (by omega) (Nat.le_of_ble_eq_true rfl) (fun r_37 X_37 h_37 => ?_)
      obtain ⟨rfl, rfl⟩ := h_37
      refine r_if_ne (tgt := 53) C dX5_scaleColumn_40 (by decide) (fun c_40 => ?_) (fun c_40 => ?_)
      · -- 53
        have hv := bI_1 c_40
        refine r_aload_n C dX5_scaleColumn_53 rfl rfl ?_
        refine r_iconst (v := 0) C dX5_scaleColumn_54 (by decide) ?_
        refine pf_RX5_48 C rfl rfl dX5_scaleColumn_55 ?_
        refine r_aload_n C dX5_scaleColumn_58 rfl rfl ?_
        refine gf_RX5_12 C dX5_scaleColumn_59 ?_
        refine r_iload_n C dX5_scaleColumn_62 rfl rfl ?_
        refine r_dload_n C dX5_scaleColumn_63 rfl rfl ?_
        refine cl_RX5_124 C (con_X4_stretchColumn l hfl _ (c := c) (z := A.z) (by omega) hD.tb.2.2.2.2 hf hq) dX5_scaleColumn_64 rfl ⟨Nat.le_of_ble_eq_true rfl, Nat.le_of_ble_eq_true rfl⟩ (by omega) (Nat.le_of_ble_eq_true rfl) (fun r_64 X_64 h_64 => ?_)
        obtain ⟨rfl, g, rfl, hg⟩ := h_64
        have hF := (Fr.m (X := X) (P := fun k => k ≤ 2) (k := 0) (j := 4) 0 (Nat.le_of_ble_eq_true rfl)).tr (Fr.v (k := 2) g (Nat.le_of_ble_eq_true rfl))
        exact r_iret CE rfl rfl dX5_scaleColumn_67 (Nat.le_of_ble_eq_true rfl) ⟨_, rfl, c, hr, rfl, hq, hv, rfl, hD.tab hF hD.R hD.C hD.tb.1 hD.tb.2.1 hg rfl (hD.ok.tb (stz_tok hD.ok.t hv)), hF.p2⟩
      · -- 43
        have hv := bI_0 c_40
        exact r_throw CE rfl (by decide +kernel) (by decide +kernel) ck_RX5_105 ik_Qjava_lang_ArithmeticException sk_RX5_107 (xa_109) dX5_scaleColumn_43 dX5_scaleColumn_46 dX5_scaleColumn_47 dX5_scaleColumn_49 dX5_scaleColumn_52 (by decide) (Nat.le_of_ble_eq_true rfl) (Nat.le_of_ble_eq_true rfl) (Or.inr (Or.inr ⟨rfl, rfl, h2, hq, fun c9 hc9 e9 => by rw [← (nI_eq (by omega) (by omega)).mp e9]; exact hv⟩))
    · -- 21
      have e2 : ¬ FP.Core.signed sf nf ≤ 800 := fun q => c_18 ((cv_le _ _ _).mpr q)
      have hq : ¬ nf ≤ 800 := by
        cases sf
        · rw [sg_f] at e2; omega
        · rw [sg_t] at e2; omega
      exact r_throw CE rfl (by decide +kernel) (by decide +kernel) ck_RX5_93 ik_Qjava_lang_IllegalArgumentException sk_RX5_118 (xa_97) dX5_scaleColumn_21 dX5_scaleColumn_24 dX5_scaleColumn_25 dX5_scaleColumn_27 dX5_scaleColumn_30 (by decide) (Nat.le_of_ble_eq_true rfl) (Nat.le_of_ble_eq_true rfl) (Or.inr (Or.inl ⟨rfl, rfl, h2, hq⟩))
set_option maxHeartbeats 4000000 in
set_option maxRecDepth 100000 in
/-- X5_meanCost  -/
theorem con_X5_meanCost (l : Launch) (hfl : l.stackTraces = false) {A : DA} (X : St) (hD : DInv X A) : Con l yX5_meanCost cX5_meanCost 3 (some (FieldType.double)) 7 210 0 (fun G => [.ref (G.2.1 0)]) X (kD (fun r9 X' => r9 = (if szf (Ls A.ra A.ca A.z 10 A.ca) = 0 then FP.dconst0 else FP.ddiv (FP.i2d (i32 (csf (Ls A.ra A.ca A.z 10 A.ca)))) (FP.i2d (i32 (szf (Ls A.ra A.ca A.z 10 A.ca))))) ∧ DInv X' A ∧ Fr Dp X X')) kF := by
  refine con_of (lv := fun G => [(0, .ref (G.2.1 0))]) hfl (by decide +kernel) (fun _ => rfl) (fun _ => Nat.le_of_ble_eq_true rfl) ?_
  intro G J JX CE
  have C := CE.b
  have hLb := Ls_bd (ra := A.ra) (ca := A.ca) hD.zs 10 A.ca (by omega)
  have ho := szf_ok (z := (Ls A.ra A.ca A.z 10 A.ca)) (by omega)
  refine r_aload_n C dX5_meanCost_0 rfl rfl ?_
  refine cl_solved C (con_X5_solved l hfl _ _ hD) dX5_meanCost_1 ⟨Nat.le_of_ble_eq_true rfl, Nat.le_of_ble_eq_true rfl⟩ (by omega) (Nat.le_of_ble_eq_true rfl) (fun X_1 h_1 => ?_)
  obtain ⟨hK, hD2, hF⟩ := h_1
  refine gf_RX5_140 C dX5_meanCost_4 ?_
  refine r_topi hK.2.1 ?_
  refine r_istore_n C dX5_meanCost_7 rfl (by decide) ?_
  refine r_iload_n C dX5_meanCost_8 rfl rfl ?_
  refine cl_RX5_143 C (con_X3_sizeOf l hfl _ (z := (Ls A.ra A.ca A.z 10 A.ca)) (by omega)) dX5_meanCost_9 rfl ⟨Nat.le_of_ble_eq_true rfl, Nat.le_of_ble_eq_true rfl⟩ (by omega) (Nat.le_of_ble_eq_true rfl) (fun r_9 X_9 h_9 => ?_)
  obtain ⟨rfl, rfl⟩ := h_9
  refine r_istore_n C dX5_meanCost_12 rfl (by decide) ?_
  refine r_iload_n C dX5_meanCost_13 rfl rfl ?_
  refine r_if_ne (tgt := 19) C dX5_meanCost_14 (by decide) (fun c_14 => ?_) (fun c_14 => ?_)
  · -- 19
    have e1 : ¬ szf (Ls A.ra A.ca A.z 10 A.ca) = 0 := fun q => c_14 (by rw [q]; rfl)
    have hn := ddiv_n64 (Pd_i2d (i32 (csf (Ls A.ra A.ca A.z 10 A.ca)))) (Pd_i2d (i32 (szf (Ls A.ra A.ca A.z 10 A.ca)))) (by rw [i32_int ho.1 ho.2]; omega)
    refine r_iload_n C dX5_meanCost_19 rfl rfl ?_
    refine cl_RX5_147 C (con_X3_costOf l hfl _ (z := (Ls A.ra A.ca A.z 10 A.ca)) (by omega)) dX5_meanCost_20 rfl ⟨Nat.le_of_ble_eq_true rfl, Nat.le_of_ble_eq_true rfl⟩ (by omega) (Nat.le_of_ble_eq_true rfl) (fun r_20 X_20 h_20 => ?_)
    obtain ⟨rfl, rfl⟩ := h_20
    refine r_i2d C dX5_meanCost_23 ?_
    refine r_iload_n C dX5_meanCost_24 rfl rfl ?_
    refine r_i2d C dX5_meanCost_25 ?_
    refine r_ddiv C dX5_meanCost_26 hn ?_
    exact r_dret CE rfl dX5_meanCost_27 (Nat.le_of_ble_eq_true rfl) ⟨_, rfl, by rw [if_neg e1], hD2, hF⟩
  · -- 17
    have e1 : szf (Ls A.ra A.ca A.z 10 A.ca) = 0 := (i32_eq (b := 0) ho (by omega)).mp c_14
    refine r_dconst0 C dX5_meanCost_17 ?_
    exact r_dret CE rfl dX5_meanCost_18 (Nat.le_of_ble_eq_true rfl) ⟨_, rfl, by rw [if_pos e1], hD2, hF⟩
