def xW (ra ca : Nat) (z : Nat → Int) (r c : Nat) : Int := xco (Up ra ca z (gWi ra ca z r c) r r ca) (Ls ra ca z 10 ca)
def xO (ra ca : Nat) (z : Nat → Int) (r c : Nat) : Int := xco (Up ra ca z (gWo ra ca z r (cb (us ra ca z r) c)) r r ca) (Ls ra ca z 10 ca)
theorem xco_bd {v f : Int} (h1 : bd 121000000 v) (h2 : bd 11000000 f) : bd 140000000 (xco v f) := by
  unfold xco
  split <;> omega
theorem gWi_bd {ra ca r c : Nat} {z : Nat → Int} (hz : ∀ k, k < 100 → zok (z k)) (hr : r < 10) (hc : c < 10) (S : Nat) : bd 110000000 (gWi ra ca z r c S) := by
  unfold gWi
  have h1 := sc_bd hz hr hc
  have h2 := Ls_bd (ra := ra) (ca := ca) hz (9 - r) (cb S c) (by omega)
  split <;> omega
theorem gWo_bd {ra ca r m : Nat} {z : Nat → Int} (hz : ∀ k, k < 100 → zok (z k)) (hr : r < 10) (S : Nat) : bd 110000000 (gWo ra ca z r m S) := by
  unfold gWo rmin
  have h := rmf_bd (m := m &&& S) (s := sc z r) (nx := Ls ra ca z (9 - r)) (S := S) (B := 20000000) (by have := Ls_bd (ra := ra) (ca := ca) hz (9 - r) S (by omega); omega) (fun c hc _ => ⟨sc_bd hz hr hc, by have := Ls_bd (ra := ra) (ca := ca) hz (9 - r) (cb S c) (by omega); omega⟩) 10 (Nat.le_refl _)
  omega
theorem xW_bd {ra ca r c : Nat} {z : Nat → Int} (hz : ∀ k, k < 100 → zok (z k)) (hr : r < 10) (hc : c < 10) (hca : ca < 1024) : bd 140000000 (xW ra ca z r c) := by
  have h1 := Up_bd (ra := ra) (r0 := r) hz (by omega) (fun S _ _ => gWi_bd (ra := ra) (ca := ca) hz hr hc S) hca r ca (Nat.le_refl _) hca (cbl_self ca _)
  have h2 := Ls_bd (ra := ra) (ca := ca) hz 10 ca (by omega)
  exact xco_bd (by omega) (by omega)
theorem xO_bd {ra ca r c : Nat} {z : Nat → Int} (hz : ∀ k, k < 100 → zok (z k)) (hr : r < 10) (hca : ca < 1024) : bd 140000000 (xO ra ca z r c) := by
  have h1 := Up_bd (ra := ra) (r0 := r) hz (by omega) (fun S _ _ => gWo_bd (ra := ra) (ca := ca) (m := cb (us ra ca z r) c) hz hr S) hca r ca (Nat.le_refl _) hca (cbl_self ca _)
  have h2 := Ls_bd (ra := ra) (ca := ca) hz 10 ca (by omega)
  exact xco_bd (by omega) (by omega)
theorem DInv.zs {X : St} {A : DA} (h : DInv X A) : ∀ k, k < 100 → zok (A.z k) := fun k hk => (h.tb.2.2.2.2 k hk).2
theorem DInv.put {X : St} {A : DA} (h : DInv X A) {k : Nat} (f : Nat → Int32) (hk : k = 10 ∨ k = 11) : DInv (Yv X k f) A := h.fr (P := fun i => i = k) (Fr.v f rfl) (fun i _ h1 h2 q => by omega)
theorem Fr.dv {X Y : St} (h : Fr Dp X Y) {k : Nat} (f : Nat → Int32) (hk : k < 36) : Fr Dp X (Yv Y k f) := h.tr (Fr.v f hk)
/-- the row of a column, the rows from 10 - n on -/
def rof (ra ca : Nat) (z : Nat → Int) (c : Int32) : Nat → Int32
  | 0 => -1
  | n + 1 => if cI (kcol ra ca z (9 - n) (kfree ra ca z (9 - n))) = c then nI (9 - n) else rof ra ca z c n
def gcf (x w o : Int) : Int := if w = -1 then -20000 else if o = -1 then 10000 else if x + o - w < -10000 then -20000 else min (x + o - w) 10000
theorem i32_m1 : (-1 : Int32) = i32 (-1) := by decide
/-- the column of a path's row -/
def clf (p r : Nat) : Int32 := if p / 16 ^ (9 - r) % 16 = 15 then -1 else nI (p / 16 ^ (9 - r) % 16)
theorem shr16 {p r : Nat} (hp : p < 1125899906842624) (hr : r < 10) : ((i64 (p : Int) >>> (((4 : Int32) * ((9 : Int32) - nI r)).toInt64 &&& 63)).toInt32 &&& 15) = nI (p / 16 ^ (9 - r) % 16) := by
  have hs : ∀ r, r < 10 → ((((4 : Int32) * ((9 : Int32) - nI r)).toInt64 &&& 63).toBitVec.smod 64).toNat = 4 * (9 - r) := by decide +kernel
  have e16 : 16 ^ (9 - r) = 2 ^ (4 * (9 - r)) := by rw [show (16 : Nat) = 2 ^ 4 by decide, ← Nat.pow_mul]
  have hm : (BitVec.ofNat 64 p).msb = false := by
    rw [BitVec.msb_eq_false_iff_two_mul_lt, BitVec.toNat_ofNat, Nat.mod_eq_of_lt (by omega)]
    omega
  have h1 : (i64 (p : Int) >>> (((4 : Int32) * ((9 : Int32) - nI r)).toInt64 &&& 63)) = i64 ((p / 16 ^ (9 - r) : Nat) : Int) := by
    apply Int64.toBitVec_inj.mp
    rw [Int64.toBitVec_shiftRight, i64_bv, i64_bv, BitVec.sshiftRight_eq', hs r hr, BitVec.sshiftRight_eq_of_msb_false hm]
    apply BitVec.eq_of_toNat_eq
    rw [BitVec.toNat_ushiftRight, BitVec.toNat_ofNat, BitVec.toNat_ofNat, Nat.mod_eq_of_lt (show p < 2 ^ 64 by omega), Nat.mod_eq_of_lt (show p / 16 ^ (9 - r) < 2 ^ 64 from Nat.lt_of_le_of_lt (Nat.div_le_self _ _) (by omega)), Nat.shiftRight_eq_div_pow, e16]
  rw [h1]
  apply Int32.toBitVec_inj.mp
  rw [Int32.toBitVec_and, Int64.toBitVec_toInt32, i64_bv, show (nI (p / 16 ^ (9 - r) % 16)).toBitVec = BitVec.ofNat 32 (p / 16 ^ (9 - r) % 16) from rfl, show (15 : Int32).toBitVec = 15#32 by decide]
  apply BitVec.eq_of_toNat_eq
  rw [BitVec.toNat_and, BitVec.signExtend_eq_setWidth_of_le _ (by decide), BitVec.toNat_setWidth, BitVec.toNat_ofNat, BitVec.toNat_ofNat, BitVec.toNat_ofNat, show 15 % 2 ^ 32 = 2 ^ 4 - 1 by decide, Nat.and_two_pow_sub_one_eq_mod, Nat.mod_mod_of_dvd _ (by decide : 2 ^ 4 ∣ 2 ^ 32), Nat.mod_mod_of_dvd _ (by decide : 2 ^ 4 ∣ 2 ^ 64)]
  exact (Nat.mod_eq_of_lt (Nat.lt_of_lt_of_le (Nat.mod_lt _ (by decide)) (by decide))).symm
theorem DInv.lis {X Y : St} {A : DA} {L : List BE} (h : DInv X A) (hF : Fr Qr X Y) (hfg : fgo (Zf Y 25 0) (Zf Y 25 1)) (hB : BH Y (Zf Y 25 0) L) : DInv Y (A.lis L) := by
  refine ⟨?_, ?_, TbZ_fr h.tb hF (by omega) (by omega), ?_, ?_, hfg, hB, ?_, ?_, h.ok⟩
  · rw [(hF 1 (by omega)).1 1]; exact h.R
  · rw [(hF 1 (by omega)).1 2]; exact h.C
  · rw [(hF 3 (by omega)).1 3]; exact h.n
  · intro i x hx
    rw [(hF 4 (by omega)).2.1, (hF 5 (by omega)).2.1, (hF 6 (by omega)).2.1]
    exact h.l i x hx
  · intro S hS
    rw [(hF 24 (by omega)).2.1]; exact h.w S hS
  · rw [(hF 0 (by omega)).1 4]
    rcases h.s with h9 | ⟨h8, h9⟩
    · exact Or.inl h9
    · exact Or.inr ⟨h8, SvK_fr h9 hF (fun k hk _ _ q => by omega)⟩
set_option maxHeartbeats 4000000 in
set_option maxRecDepth 100000 in
/-- X5_size  -/
theorem con_X5_size (l : Launch) (hfl : l.stackTraces = false) {A : DA} (X : St) (hD : DInv X A) : Con l yX5_size cX5_size 1 (some (FieldType.int)) 7 210 0 (fun G => [.ref (G.2.1 0)]) X (kI (fun r9 X' => r9 = i32 (szf (Ls A.ra A.ca A.z 10 A.ca)) ∧ DInv X' A ∧ Fr Dp X X')) kF := by
  refine con_of (lv := fun G => [(0, .ref (G.2.1 0))]) hfl (by decide +kernel) (fun _ => rfl) (fun _ => Nat.le_of_ble_eq_true rfl) ?_
  intro G J JX CE
  have C := CE.b
  have hLb := Ls_bd (ra := A.ra) (ca := A.ca) hD.zs 10 A.ca (by omega)
  refine r_aload_n C dX5_size_0 rfl rfl ?_
  refine cl_solved C (con_X5_solved l hfl _ _ hD) dX5_size_1 ⟨Nat.le_of_ble_eq_true rfl, Nat.le_of_ble_eq_true rfl⟩ (by omega) (Nat.le_of_ble_eq_true rfl) (fun X_1 h_1 => ?_)
  obtain ⟨hK, hD2, hF⟩ := h_1
  refine gf_RX5_140 C dX5_size_4 ?_
  refine r_topi hK.2.1 ?_
  refine cl_RX5_143 C (con_X3_sizeOf l hfl _ (z := (Ls A.ra A.ca A.z 10 A.ca)) (by omega)) dX5_size_7 rfl ⟨Nat.le_of_ble_eq_true rfl, Nat.le_of_ble_eq_true rfl⟩ (by omega) (Nat.le_of_ble_eq_true rfl) (fun r_7 X_7 h_7 => ?_)
  obtain ⟨rfl, rfl⟩ := h_7
  exact r_iret CE rfl rfl dX5_size_10 (Nat.le_of_ble_eq_true rfl) ⟨_, rfl, rfl, hD2, hF⟩
set_option maxHeartbeats 4000000 in
set_option maxRecDepth 100000 in
/-- X5_total  -/
theorem con_X5_total (l : Launch) (hfl : l.stackTraces = false) {A : DA} (X : St) (hD : DInv X A) : Con l yX5_total cX5_total 1 (some (FieldType.int)) 7 210 0 (fun G => [.ref (G.2.1 0)]) X (kI (fun r9 X' => r9 = i32 (csf (Ls A.ra A.ca A.z 10 A.ca)) ∧ DInv X' A ∧ Fr Dp X X')) kF := by
  refine con_of (lv := fun G => [(0, .ref (G.2.1 0))]) hfl (by decide +kernel) (fun _ => rfl) (fun _ => Nat.le_of_ble_eq_true rfl) ?_
  intro G J JX CE
  have C := CE.b
  have hLb := Ls_bd (ra := A.ra) (ca := A.ca) hD.zs 10 A.ca (by omega)
  refine r_aload_n C dX5_total_0 rfl rfl ?_
  refine cl_solved C (con_X5_solved l hfl _ _ hD) dX5_total_1 ⟨Nat.le_of_ble_eq_true rfl, Nat.le_of_ble_eq_true rfl⟩ (by omega) (Nat.le_of_ble_eq_true rfl) (fun X_1 h_1 => ?_)
  obtain ⟨hK, hD2, hF⟩ := h_1
  refine gf_RX5_140 C dX5_total_4 ?_
  refine r_topi hK.2.1 ?_
  refine cl_RX5_147 C (con_X3_costOf l hfl _ (z := (Ls A.ra A.ca A.z 10 A.ca)) (by omega)) dX5_total_7 rfl ⟨Nat.le_of_ble_eq_true rfl, Nat.le_of_ble_eq_true rfl⟩ (by omega) (Nat.le_of_ble_eq_true rfl) (fun r_7 X_7 h_7 => ?_)
  obtain ⟨rfl, rfl⟩ := h_7
  exact r_iret CE rfl rfl dX5_total_10 (Nat.le_of_ble_eq_true rfl) ⟨_, rfl, rfl, hD2, hF⟩
set_option maxHeartbeats 4000000 in
set_option maxRecDepth 100000 in
/-- X5_optimalCount  -/
theorem con_X5_optimalCount (l : Launch) (hfl : l.stackTraces = false) {A : DA} (X : St) (hD : DInv X A) : Con l yX5_optimalCount cX5_optimalCount 1 (some (FieldType.int)) 7 210 0 (fun G => [.ref (G.2.1 0)]) X (kI (fun r9 X' => r9 = Bw A.ra A.ca A.z 10 A.ca ∧ DInv X' A ∧ Fr Dp X X')) kF := by
  refine con_of (lv := fun G => [(0, .ref (G.2.1 0))]) hfl (by decide +kernel) (fun _ => rfl) (fun _ => Nat.le_of_ble_eq_true rfl) ?_
  intro G J JX CE
  have C := CE.b
  refine r_aload_n C dX5_optimalCount_0 rfl rfl ?_
  refine cl_solved C (con_X5_solved l hfl _ _ hD) dX5_optimalCount_1 ⟨Nat.le_of_ble_eq_true rfl, Nat.le_of_ble_eq_true rfl⟩ (by omega) (Nat.le_of_ble_eq_true rfl) (fun X_1 h_1 => ?_)
  obtain ⟨hK, hD2, hF⟩ := h_1
  refine cl_RX5_154 C (con_X3_countOptimal l hfl _ hK) dX5_optimalCount_4 rfl ⟨Nat.le_of_ble_eq_true rfl, Nat.le_of_ble_eq_true rfl⟩ (by omega) (Nat.le_of_ble_eq_true rfl) (fun r_4 X_4 h_4 => ?_)
  obtain ⟨rfl, f, rfl⟩ := h_4
  exact r_iret CE rfl rfl dX5_optimalCount_7 (Nat.le_of_ble_eq_true rfl) ⟨_, rfl, rfl, hD2.put f (Or.inr rfl), hF.dv f (by decide)⟩
set_option maxHeartbeats 4000000 in
set_option maxRecDepth 100000 in
/-- X5_columnOf  -/
theorem con_X5_columnOf (l : Launch) (hfl : l.stackTraces = false) {A : DA} {x : Int32} (X : St) (hD : DInv X A) : Con l yX5_columnOf cX5_columnOf 2 (some (FieldType.int)) 7 210 1 (fun G => [.ref (G.2.1 0), .int x]) X (kI (fun r9 X' => ∃ r, r < A.R ∧ x = nI r ∧ r9 = cI (kcol A.ra A.ca A.z r (kfree A.ra A.ca A.z r)) ∧ DInv X' A ∧ Fr Dp X X')) (fun E X' => E = "java/lang/IndexOutOfBoundsException" ∧ X = X' ∧ inI x A.R = false) := by
  refine con_of (lv := fun G => [(0, .ref (G.2.1 0)), (1, .int x)]) hfl (by decide +kernel) (fun _ => rfl) (fun _ => Nat.le_of_ble_eq_true rfl) ?_
  intro G J JX CE
  have C := CE.b
  refine r_aload_n C dX5_columnOf_0 rfl rfl ?_
  refine r_iload_n C dX5_columnOf_1 rfl rfl ?_
  refine cl_RX5_64 C (con_X5_requireRow l hfl _ hD.R hD.ok.R) dX5_columnOf_2 rfl ⟨Nat.le_of_ble_eq_true rfl, Nat.le_of_ble_eq_true rfl⟩ (by omega) (Nat.le_of_ble_eq_true rfl) (fun E_2 X_2 x_2 => ?_) (fun X_2 h_2 => ?_)
  · -- thrown
    obtain ⟨rfl, rfl, h9⟩ := x_2
    exact r_out CE rfl (Nat.le_of_ble_eq_true rfl) ⟨rfl, rfl, h9⟩
  obtain ⟨rfl, h2⟩ := h_2
  obtain ⟨r, hr, rfl⟩ := inI_t h2
  have hR10 := hD.ok.R
  have hC10 := hD.ok.C
  refine r_aload_n C dX5_columnOf_5 rfl rfl ?_
  refine cl_solved C (con_X5_solved l hfl _ _ hD) dX5_columnOf_6 ⟨Nat.le_of_ble_eq_true rfl, Nat.le_of_ble_eq_true rfl⟩ (by omega) (Nat.le_of_ble_eq_true rfl) (fun X_6 h_6 => ?_)
  obtain ⟨hK, hD2, hF⟩ := h_6
  refine gf_RX5_150 C dX5_columnOf_9 ?_
  refine r_iload_n C dX5_columnOf_12 rfl rfl ?_
  refine r_iald C (r) (by decide) rfl rfl (by omega) dX5_columnOf_13 ?_
  refine r_topi (hK.2.2 r (by omega)) ?_
  exact r_iret CE rfl rfl dX5_columnOf_14 (Nat.le_of_ble_eq_true rfl) ⟨_, rfl, r, hr, rfl, rfl, hD2, hF⟩
set_option maxHeartbeats 4000000 in
set_option maxRecDepth 100000 in
theorem lp_X5_rowOf {l : Launch} {G : Geo} {J : JT} {JX : JXT} {X Y : St} (hfl : l.stackTraces = false) {A : DA} {x : Int32} (hK : SvK Y A.ra A.ca A.z) (hx : inI x A.C = true) (hD2 : DInv Y A) (hF : Fr Dp X Y) (CE : Cl l RX5 cX5_rowOf 4 (some .int) [] G 7 210 1 (kI (fun r9 X' => inI x A.C = true ∧ r9 = rof A.ra A.ca A.z x 10 ∧ DInv X' A ∧ Fr Dp X X')) (fun E X' => E = "java/lang/IndexOutOfBoundsException" ∧ X = X' ∧ inI x A.C = false) J JX) :
    ∀ n r, r + n = 10 → rof A.ra A.ca A.z x n = rof A.ra A.ca A.z x 10 → J Y 1 15 [(3, .int (nI r)), (2, .ref (G.2.1 12)), (0, .ref (G.2.1 0)), (1, .int x)] [] := by
  have C := CE.b
  intro n
  induction n with
  | zero =>
    intro r h he
    have hc : r = 10 := by omega
    subst hc
    refine r_iload_n C dX5_rowOf_15 rfl rfl ?_
    refine r_bipush (v := 10) C dX5_rowOf_16 (by decide) ?_
    refine r_icmp_ge (tgt := 36) C dX5_rowOf_18 (by decide) (fun c_18 => ?_) (fun c_18 => absurd ((by decide)) c_18)
    refine r_iconst (v := (-1)) C dX5_rowOf_36 (by decide) ?_
    exact r_iret CE rfl rfl dX5_rowOf_37 (Nat.le_of_ble_eq_true rfl) ⟨_, rfl, hx, he, hD2, hF⟩
  | succ n ih =>
    intro r h he
    have hr : r < 10 := by omega
    have e9 : 9 - n = r := by omega
    refine r_iload_n C dX5_rowOf_15 rfl rfl ?_
    refine r_bipush (v := 10) C dX5_rowOf_16 (by decide) ?_
    refine r_icmp_ge (tgt := 36) C dX5_rowOf_18 (by decide) (fun c_18 => absurd c_18 ((nI_ge (a := r) (b := 10) (by omega) (by decide)))) (fun c_18 => ?_)
    refine r_aload_n C dX5_rowOf_21 rfl rfl ?_
    refine r_iload_n C dX5_rowOf_22 rfl rfl ?_
    refine r_iald C (r) (by decide) rfl rfl hr dX5_rowOf_23 ?_
    refine r_topi (hK.2.2 r hr) ?_
    refine r_iload_n C dX5_rowOf_24 rfl rfl ?_
    refine r_icmp_ne (tgt := 30) C dX5_rowOf_25 (by decide) (fun c_25 => ?_) (fun c_25 => ?_)
    · -- 30
      have e1 : rof A.ra A.ca A.z x (n + 1) = rof A.ra A.ca A.z x n := by rw [rof, e9, if_neg c_25]
      refine r_iinc (v := _) C dX5_rowOf_30 rfl (nI_1 r) ?_
      refine r_goto (tgt := 15) C dX5_rowOf_33 (by decide) ?_
      refine r_sub C (lv' := [(3, .int (nI (r + 1))), (2, .ref (G.2.1 12)), (0, .ref (G.2.1 0)), (1, .int x)]) ⟨rfl, rfl, rfl, rfl, trivial⟩ ?_
      exact ih (r + 1) (by omega) (by rw [← e1]; exact he)
    · -- 28
      have e1 : rof A.ra A.ca A.z x (n + 1) = nI r := by rw [rof, e9, if_pos c_25]
      refine r_iload_n C dX5_rowOf_28 rfl rfl ?_
      exact r_iret CE rfl rfl dX5_rowOf_29 (Nat.le_of_ble_eq_true rfl) ⟨_, rfl, hx, by rw [← he, e1], hD2, hF⟩

set_option maxHeartbeats 4000000 in
set_option maxRecDepth 100000 in
/-- X5_rowOf  -/
theorem con_X5_rowOf (l : Launch) (hfl : l.stackTraces = false) {A : DA} {x : Int32} (X : St) (hD : DInv X A) : Con l yX5_rowOf cX5_rowOf 4 (some (FieldType.int)) 7 210 1 (fun G => [.ref (G.2.1 0), .int x]) X (kI (fun r9 X' => inI x A.C = true ∧ r9 = rof A.ra A.ca A.z x 10 ∧ DInv X' A ∧ Fr Dp X X')) (fun E X' => E = "java/lang/IndexOutOfBoundsException" ∧ X = X' ∧ inI x A.C = false) := by
  refine con_of (lv := fun G => [(0, .ref (G.2.1 0)), (1, .int x)]) hfl (by decide +kernel) (fun _ => rfl) (fun _ => Nat.le_of_ble_eq_true rfl) ?_
  intro G J JX CE
  have C := CE.b
  refine r_aload_n C dX5_rowOf_0 rfl rfl ?_
  refine r_iload_n C dX5_rowOf_1 rfl rfl ?_
  refine cl_RX5_79 C (con_X5_requireColumn l hfl _ hD.C hD.ok.C) dX5_rowOf_2 rfl ⟨Nat.le_of_ble_eq_true rfl, Nat.le_of_ble_eq_true rfl⟩ (by omega) (Nat.le_of_ble_eq_true rfl) (fun E_2 X_2 x_2 => ?_) (fun X_2 h_2 => ?_)
  · -- thrown
    obtain ⟨rfl, rfl, h9⟩ := x_2
    exact r_out CE rfl (Nat.le_of_ble_eq_true rfl) ⟨rfl, rfl, h9⟩
  obtain ⟨rfl, hx⟩ := h_2
  refine r_aload_n C dX5_rowOf_5 rfl rfl ?_
  refine cl_solved C (con_X5_solved l hfl _ _ hD) dX5_rowOf_6 ⟨Nat.le_of_ble_eq_true rfl, Nat.le_of_ble_eq_true rfl⟩ (by omega) (Nat.le_of_ble_eq_true rfl) (fun X_6 h_6 => ?_)
  obtain ⟨hK, hD2, hF⟩ := h_6
  refine gf_RX5_150 C dX5_rowOf_9 ?_
  refine r_astore_n C dX5_rowOf_12 rfl (by decide) ?_
  refine r_iconst (v := 0) C dX5_rowOf_13 (by decide) ?_
  refine r_istore_n C dX5_rowOf_14 rfl (by decide) ?_
  refine r_sub C (lv' := [(3, .int (nI 0)), (2, .ref (G.2.1 12)), (0, .ref (G.2.1 0)), (1, .int x)]) ⟨rfl, rfl, rfl, rfl, trivial⟩ ?_
  exact lp_X5_rowOf hfl hK hx hD2 hF CE 10 0 rfl rfl
set_option maxHeartbeats 4000000 in
set_option maxRecDepth 100000 in
/-- X5_isPossible  -/
theorem con_X5_isPossible (l : Launch) (hfl : l.stackTraces = false) {A : DA} {x y : Int32} (X : St) (hD : DInv X A) : Con l yX5_isPossible cX5_isPossible 3 (some (FieldType.boolean)) 8 210 2 (fun G => [.ref (G.2.1 0), .int x, .int y]) X (kI (fun r9 X' => ∃ r c, r < A.R ∧ c < A.C ∧ x = nI r ∧ y = nI c ∧ r9 = bI ((us A.ra A.ca A.z r).testBit c && decide (xW A.ra A.ca A.z r c = 0)) ∧ DInv X' A ∧ Fr Dp X X')) (fun E X' => E = "java/lang/IndexOutOfBoundsException" ∧ X = X' ∧ (inI x A.R && inI y A.C) = false) := by
  refine con_of (lv := fun G => [(0, .ref (G.2.1 0)), (1, .int x), (2, .int y)]) hfl (by decide +kernel) (fun _ => rfl) (fun _ => Nat.le_of_ble_eq_true rfl) ?_
  intro G J JX CE
  have C := CE.b
  refine r_aload_n C dX5_isPossible_0 rfl rfl ?_
  refine r_iload_n C dX5_isPossible_1 rfl rfl ?_
  refine r_iload_n C dX5_isPossible_2 rfl rfl ?_
  refine cl_RX5_85 C (con_X5_requirePair l hfl _ hD.R hD.ok.R hD.C hD.ok.C) dX5_isPossible_3 rfl ⟨Nat.le_of_ble_eq_true rfl, Nat.le_of_ble_eq_true rfl⟩ (by omega) (Nat.le_of_ble_eq_true rfl) (fun E_3 X_3 x_3 => ?_) (fun X_3 h_3 => ?_)
  · -- thrown
    obtain ⟨rfl, rfl, h9⟩ := x_3
    exact r_out CE rfl (Nat.le_of_ble_eq_true rfl) ⟨rfl, rfl, h9⟩
  obtain ⟨rfl, h2, h3⟩ := h_3
  obtain ⟨r, hr, rfl⟩ := inI_t h2
  obtain ⟨c, hc, rfl⟩ := inI_t h3
  have hR10 := hD.ok.R
  have hC10 := hD.ok.C
  have hz := hD.tb.2.2.2.2 (10 * r + c) (by omega)
  have hbW := xW_bd hD.zs (ra := A.ra) (r := r) (c := c) (by omega) (by omega) hD.tb.2.2.2.1
  have hbO := xO_bd hD.zs (ra := A.ra) (r := r) (c := c) (by omega) hD.tb.2.2.2.1
  refine r_aload_n C dX5_isPossible_6 rfl rfl ?_
  refine gf_RX5_12 C dX5_isPossible_7 ?_
  refine r_iload_n C dX5_isPossible_10 rfl rfl ?_
  refine r_iload_n C dX5_isPossible_11 rfl rfl ?_
  refine cl_RX5_157 C (con_X4_isUsable l hfl _ (r := r) (c := c) (ra := A.ra) (ca := A.ca) (by omega) (by omega) hD.tb.1 hD.tb.2.1 hD.tb.2.2.1 hD.tb.2.2.2.1) dX5_isPossible_12 rfl ⟨Nat.le_of_ble_eq_true rfl, Nat.le_of_ble_eq_true rfl⟩ (by omega) (Nat.le_of_ble_eq_true rfl) (fun r_12 X_12 h_12 => ?_)
  obtain ⟨rfl, rfl⟩ := h_12
  have hu := usb_z (ra := A.ra) (ca := A.ca) hD.tb.2.2.2.2 (r := r) (c := c) (by omega) (by omega)
  rw [hu]
  refine r_if_eq (tgt := 34) C dX5_isPossible_15 (by decide) (fun c_15 => ?_) (fun c_15 => ?_)
  · -- 34
    have e1 := bI_0 c_15
    have e2 := hD
    have e3 := Fr.rf (X := X) (P := Dp)
    refine r_iconst (v := 0) C dX5_isPossible_34 (by decide) ?_
    exact r_iret CE rfl rfl dX5_isPossible_35 (Nat.le_of_ble_eq_true rfl) ⟨_, rfl, r, c, hr, hc, rfl, rfl, by first | (rw [e1]; rfl) | (rw [e1, decide_eq_false e4]; rfl) | (rw [e1, decide_eq_true e4]; rfl), e2, e3⟩
  · -- 18
    have e1 := bI_1 c_15
    refine r_aload_n C dX5_isPossible_18 rfl rfl ?_
    refine cl_solved C (con_X5_solved l hfl _ _ hD) dX5_isPossible_19 ⟨Nat.le_of_ble_eq_true rfl, Nat.le_of_ble_eq_true rfl⟩ (by omega) (Nat.le_of_ble_eq_true rfl) (fun X_19 h_19 => ?_)
    obtain ⟨hK, hD2, hF⟩ := h_19
    refine r_iload_n C dX5_isPossible_22 rfl rfl ?_
    refine r_iload_n C dX5_isPossible_23 rfl rfl ?_
    refine cl_RX5_160 C (con_X3_extraCostWith l hfl _ (r := r) (c := c) hK (by omega) (by omega)) dX5_isPossible_24 rfl ⟨Nat.le_of_ble_eq_true rfl, Nat.le_of_ble_eq_true rfl⟩ (by omega) (Nat.le_of_ble_eq_true rfl) (fun r_24 X_24 h_24 => ?_)
    obtain ⟨rfl, f, rfl⟩ := h_24
    refine r_topi (show _ = i32 (xW A.ra A.ca A.z r c) from rfl) ?_
    refine r_if_ne (tgt := 34) C dX5_isPossible_27 (by decide) (fun c_27 => ?_) (fun c_27 => ?_)
    · -- 34
      have e4 : ¬ xW A.ra A.ca A.z r c = 0 := fun q => c_27 (by rw [q]; rfl)
      have e2 := hD2.put f (Or.inl rfl)
      have e3 := hF.dv f (k := 10) (by decide)
      refine r_iconst (v := 0) C dX5_isPossible_34 (by decide) ?_
      exact r_iret CE rfl rfl dX5_isPossible_35 (Nat.le_of_ble_eq_true rfl) ⟨_, rfl, r, c, hr, hc, rfl, rfl, by first | (rw [e1]; rfl) | (rw [e1, decide_eq_false e4]; rfl) | (rw [e1, decide_eq_true e4]; rfl), e2, e3⟩
    · -- 30
      have e4 : xW A.ra A.ca A.z r c = 0 := (i32_eq (b := 0) (by omega) (by omega)).mp c_27
      have e2 := hD2.put f (Or.inl rfl)
      have e3 := hF.dv f (k := 10) (by decide)
      refine r_iconst (v := 1) C dX5_isPossible_30 (by decide) ?_
      refine r_goto (tgt := 35) C dX5_isPossible_31 (by decide) ?_
      exact r_iret CE rfl rfl dX5_isPossible_35 (Nat.le_of_ble_eq_true rfl) ⟨_, rfl, r, c, hr, hc, rfl, rfl, by first | (rw [e1]; rfl) | (rw [e1, decide_eq_false e4]; rfl) | (rw [e1, decide_eq_true e4]; rfl), e2, e3⟩
set_option maxHeartbeats 4000000 in
set_option maxRecDepth 100000 in
/-- X5_isCertain  -/
theorem con_X5_isCertain (l : Launch) (hfl : l.stackTraces = false) {A : DA} {x y : Int32} (X : St) (hD : DInv X A) : Con l yX5_isCertain cX5_isCertain 3 (some (FieldType.boolean)) 8 210 2 (fun G => [.ref (G.2.1 0), .int x, .int y]) X (kI (fun r9 X' => ∃ r c, r < A.R ∧ c < A.C ∧ x = nI r ∧ y = nI c ∧ r9 = bI (!decide (xO A.ra A.ca A.z r c = 0)) ∧ DInv X' A ∧ Fr Dp X X')) (fun E X' => E = "java/lang/IndexOutOfBoundsException" ∧ X = X' ∧ (inI x A.R && inI y A.C) = false) := by
  refine con_of (lv := fun G => [(0, .ref (G.2.1 0)), (1, .int x), (2, .int y)]) hfl (by decide +kernel) (fun _ => rfl) (fun _ => Nat.le_of_ble_eq_true rfl) ?_
  intro G J JX CE
  have C := CE.b
  refine r_aload_n C dX5_isCertain_0 rfl rfl ?_
  refine r_iload_n C dX5_isCertain_1 rfl rfl ?_
  refine r_iload_n C dX5_isCertain_2 rfl rfl ?_
  refine cl_RX5_85 C (con_X5_requirePair l hfl _ hD.R hD.ok.R hD.C hD.ok.C) dX5_isCertain_3 rfl ⟨Nat.le_of_ble_eq_true rfl, Nat.le_of_ble_eq_true rfl⟩ (by omega) (Nat.le_of_ble_eq_true rfl) (fun E_3 X_3 x_3 => ?_) (fun X_3 h_3 => ?_)
  · -- thrown
    obtain ⟨rfl, rfl, h9⟩ := x_3
    exact r_out CE rfl (Nat.le_of_ble_eq_true rfl) ⟨rfl, rfl, h9⟩
  obtain ⟨rfl, h2, h3⟩ := h_3
  obtain ⟨r, hr, rfl⟩ := inI_t h2
  obtain ⟨c, hc, rfl⟩ := inI_t h3
  have hR10 := hD.ok.R
  have hC10 := hD.ok.C
  have hz := hD.tb.2.2.2.2 (10 * r + c) (by omega)
  have hbW := xW_bd hD.zs (ra := A.ra) (r := r) (c := c) (by omega) (by omega) hD.tb.2.2.2.1
  have hbO := xO_bd hD.zs (ra := A.ra) (r := r) (c := c) (by omega) hD.tb.2.2.2.1
  refine r_aload_n C dX5_isCertain_6 rfl rfl ?_
  refine cl_solved C (con_X5_solved l hfl _ _ hD) dX5_isCertain_7 ⟨Nat.le_of_ble_eq_true rfl, Nat.le_of_ble_eq_true rfl⟩ (by omega) (Nat.le_of_ble_eq_true rfl) (fun X_7 h_7 => ?_)
  obtain ⟨hK, hD2, hF⟩ := h_7
  refine r_iload_n C dX5_isCertain_10 rfl rfl ?_
  refine r_iload_n C dX5_isCertain_11 rfl rfl ?_
  refine cl_RX5_163 C (con_X3_extraCostWithout l hfl _ (r := r) (c := c) hK (by omega) (by omega)) dX5_isCertain_12 rfl ⟨Nat.le_of_ble_eq_true rfl, Nat.le_of_ble_eq_true rfl⟩ (by omega) (Nat.le_of_ble_eq_true rfl) (fun r_12 X_12 h_12 => ?_)
  obtain ⟨rfl, f, rfl⟩ := h_12
  refine r_topi (show _ = i32 (xO A.ra A.ca A.z r c) from rfl) ?_
  refine r_if_eq (tgt := 22) C dX5_isCertain_15 (by decide) (fun c_15 => ?_) (fun c_15 => ?_)
  · -- 22
    have e4 : xO A.ra A.ca A.z r c = 0 := (i32_eq (b := 0) (by omega) (by omega)).mp c_15
    refine r_iconst (v := 0) C dX5_isCertain_22 (by decide) ?_
    exact r_iret CE rfl rfl dX5_isCertain_23 (Nat.le_of_ble_eq_true rfl) ⟨_, rfl, r, c, hr, hc, rfl, rfl, by first | (rw [decide_eq_false e4]; rfl) | (rw [decide_eq_true e4]; rfl), hD2.put f (Or.inl rfl), hF.dv f (by decide)⟩
  · -- 18
    have e4 : ¬ xO A.ra A.ca A.z r c = 0 := fun q => c_15 (by rw [q]; rfl)
    refine r_iconst (v := 1) C dX5_isCertain_18 (by decide) ?_
    refine r_goto (tgt := 23) C dX5_isCertain_19 (by decide) ?_
    exact r_iret CE rfl rfl dX5_isCertain_23 (Nat.le_of_ble_eq_true rfl) ⟨_, rfl, r, c, hr, hc, rfl, rfl, by first | (rw [decide_eq_false e4]; rfl) | (rw [decide_eq_true e4]; rfl), hD2.put f (Or.inl rfl), hF.dv f (by decide)⟩
set_option maxHeartbeats 4000000 in
set_option maxRecDepth 100000 in
/-- X5_loss  -/
theorem con_X5_loss (l : Launch) (hfl : l.stackTraces = false) {A : DA} {x y : Int32} (X : St) (hD : DInv X A) : Con l yX5_loss cX5_loss 3 (some (FieldType.int)) 8 210 2 (fun G => [.ref (G.2.1 0), .int x, .int y]) X (kI (fun r9 X' => ∃ r c, r < A.R ∧ c < A.C ∧ x = nI r ∧ y = nI c ∧ r9 = i32 (xO A.ra A.ca A.z r c) ∧ DInv X' A ∧ Fr Dp X X')) (fun E X' => E = "java/lang/IndexOutOfBoundsException" ∧ X = X' ∧ (inI x A.R && inI y A.C) = false) := by
  refine con_of (lv := fun G => [(0, .ref (G.2.1 0)), (1, .int x), (2, .int y)]) hfl (by decide +kernel) (fun _ => rfl) (fun _ => Nat.le_of_ble_eq_true rfl) ?_
  intro G J JX CE
  have C := CE.b
  refine r_aload_n C dX5_loss_0 rfl rfl ?_
  refine r_iload_n C dX5_loss_1 rfl rfl ?_
  refine r_iload_n C dX5_loss_2 rfl rfl ?_
  refine cl_RX5_85 C (con_X5_requirePair l hfl _ hD.R hD.ok.R hD.C hD.ok.C) dX5_loss_3 rfl ⟨Nat.le_of_ble_eq_true rfl, Nat.le_of_ble_eq_true rfl⟩ (by omega) (Nat.le_of_ble_eq_true rfl) (fun E_3 X_3 x_3 => ?_) (fun X_3 h_3 => ?_)
  · -- thrown
    obtain ⟨rfl, rfl, h9⟩ := x_3
    exact r_out CE rfl (Nat.le_of_ble_eq_true rfl) ⟨rfl, rfl, h9⟩
  obtain ⟨rfl, h2, h3⟩ := h_3
  obtain ⟨r, hr, rfl⟩ := inI_t h2
  obtain ⟨c, hc, rfl⟩ := inI_t h3
  have hR10 := hD.ok.R
  have hC10 := hD.ok.C
  have hz := hD.tb.2.2.2.2 (10 * r + c) (by omega)
  have hbW := xW_bd hD.zs (ra := A.ra) (r := r) (c := c) (by omega) (by omega) hD.tb.2.2.2.1
  have hbO := xO_bd hD.zs (ra := A.ra) (r := r) (c := c) (by omega) hD.tb.2.2.2.1
  refine r_aload_n C dX5_loss_6 rfl rfl ?_
  refine cl_solved C (con_X5_solved l hfl _ _ hD) dX5_loss_7 ⟨Nat.le_of_ble_eq_true rfl, Nat.le_of_ble_eq_true rfl⟩ (by omega) (Nat.le_of_ble_eq_true rfl) (fun X_7 h_7 => ?_)
  obtain ⟨hK, hD2, hF⟩ := h_7
  refine r_iload_n C dX5_loss_10 rfl rfl ?_
  refine r_iload_n C dX5_loss_11 rfl rfl ?_
  refine cl_RX5_163 C (con_X3_extraCostWithout l hfl _ (r := r) (c := c) hK (by omega) (by omega)) dX5_loss_12 rfl ⟨Nat.le_of_ble_eq_true rfl, Nat.le_of_ble_eq_true rfl⟩ (by omega) (Nat.le_of_ble_eq_true rfl) (fun r_12 X_12 h_12 => ?_)
  obtain ⟨rfl, f, rfl⟩ := h_12
  refine r_topi (show _ = i32 (xO A.ra A.ca A.z r c) from rfl) ?_
  exact r_iret CE rfl rfl dX5_loss_15 (Nat.le_of_ble_eq_true rfl) ⟨_, rfl, r, c, hr, hc, rfl, rfl, rfl, hD2.put f (Or.inl rfl), hF.dv f (by decide)⟩
set_option maxHeartbeats 4000000 in
set_option maxRecDepth 100000 in
/-- X5_regret  -/
theorem con_X5_regret (l : Launch) (hfl : l.stackTraces = false) {A : DA} {x y : Int32} (X : St) (hD : DInv X A) : Con l yX5_regret cX5_regret 3 (some (FieldType.int)) 9 210 3 (fun G => [.ref (G.2.1 0), .int x, .int y]) X (kI (fun r9 X' => ∃ r c, r < A.R ∧ c < A.C ∧ x = nI r ∧ y = nI c ∧ (us A.ra A.ca A.z r).testBit c = true ∧ r9 = i32 (xW A.ra A.ca A.z r c) ∧ DInv X' A ∧ Fr Dp X X')) (fun E X' => (E = "java/lang/IndexOutOfBoundsException" ∧ X = X' ∧ (inI x A.R && inI y A.C) = false) ∨ (E = "java/util/NoSuchElementException" ∧ X = X' ∧ inI x A.R = true ∧ inI y A.C = true ∧ ∀ r c, x = nI r → y = nI c → r < 10 → c < 10 → (us A.ra A.ca A.z r).testBit c = false)) := by
  refine con_of (lv := fun G => [(0, .ref (G.2.1 0)), (1, .int x), (2, .int y)]) hfl (by decide +kernel) (fun _ => rfl) (fun _ => Nat.le_of_ble_eq_true rfl) ?_
  intro G J JX CE
  have C := CE.b
  refine r_aload_n C dX5_regret_0 rfl rfl ?_
  refine r_iload_n C dX5_regret_1 rfl rfl ?_
  refine r_iload_n C dX5_regret_2 rfl rfl ?_
  refine cl_RX5_166 C (con_X5_requireUsable l hfl _ hD.R hD.ok.R hD.C hD.ok.C hD.tb) dX5_regret_3 rfl ⟨Nat.le_of_ble_eq_true rfl, Nat.le_of_ble_eq_true rfl⟩ (by omega) (Nat.le_of_ble_eq_true rfl) (fun E_3 X_3 x_3 => ?_) (fun X_3 h_3 => ?_)
  · -- thrown
    exact r_out CE rfl (Nat.le_of_ble_eq_true rfl) x_3
  obtain ⟨rfl, h2, h3, h4⟩ := h_3
  obtain ⟨r, hr, rfl⟩ := inI_t h2
  obtain ⟨c, hc, rfl⟩ := inI_t h3
  have hR10 := hD.ok.R
  have hC10 := hD.ok.C
  have hu := h4 r c rfl rfl (by omega) (by omega)
  have hbW := xW_bd hD.zs (ra := A.ra) (r := r) (c := c) (by omega) (by omega) hD.tb.2.2.2.1
  have hbO := xO_bd hD.zs (ra := A.ra) (r := r) (c := c) (by omega) hD.tb.2.2.2.1
  refine r_aload_n C dX5_regret_6 rfl rfl ?_
  refine cl_solved C (con_X5_solved l hfl _ _ hD) dX5_regret_7 ⟨Nat.le_of_ble_eq_true rfl, Nat.le_of_ble_eq_true rfl⟩ (by omega) (Nat.le_of_ble_eq_true rfl) (fun X_7 h_7 => ?_)
  obtain ⟨hK, hD2, hF⟩ := h_7
  refine r_iload_n C dX5_regret_10 rfl rfl ?_
  refine r_iload_n C dX5_regret_11 rfl rfl ?_
  refine cl_RX5_160 C (con_X3_extraCostWith l hfl _ (r := r) (c := c) hK (by omega) (by omega)) dX5_regret_12 rfl ⟨Nat.le_of_ble_eq_true rfl, Nat.le_of_ble_eq_true rfl⟩ (by omega) (Nat.le_of_ble_eq_true rfl) (fun r_12 X_12 h_12 => ?_)
  obtain ⟨rfl, f, rfl⟩ := h_12
  refine r_topi (show _ = i32 (xW A.ra A.ca A.z r c) from rfl) ?_
  exact r_iret CE rfl rfl dX5_regret_15 (Nat.le_of_ble_eq_true rfl) ⟨_, rfl, r, c, hr, hc, rfl, rfl, hu, rfl, hD2.put f (Or.inl rfl), hF.dv f (by decide)⟩
set_option maxHeartbeats 4000000 in
set_option maxRecDepth 100000 in
/-- X5_greatestCost  -/
theorem con_X5_greatestCost (l : Launch) (hfl : l.stackTraces = false) {A : DA} {x y : Int32} (X : St) (hD : DInv X A) : Con l yX5_greatestCost cX5_greatestCost 6 (some (FieldType.int)) 9 210 3 (fun G => [.ref (G.2.1 0), .int x, .int y]) X (kI (fun r9 X' => ∃ r c, r < A.R ∧ c < A.C ∧ x = nI r ∧ y = nI c ∧ (us A.ra A.ca A.z r).testBit c = true ∧ r9 = i32 (gcf (A.z (10 * r + c)) (xW A.ra A.ca A.z r c) (xO A.ra A.ca A.z r c)) ∧ DInv X' A ∧ Fr Dp X X')) (fun E X' => (E = "java/lang/IndexOutOfBoundsException" ∧ X = X' ∧ (inI x A.R && inI y A.C) = false) ∨ (E = "java/util/NoSuchElementException" ∧ X = X' ∧ inI x A.R = true ∧ inI y A.C = true ∧ ∀ r c, x = nI r → y = nI c → r < 10 → c < 10 → (us A.ra A.ca A.z r).testBit c = false)) := by
  refine con_of (lv := fun G => [(0, .ref (G.2.1 0)), (1, .int x), (2, .int y)]) hfl (by decide +kernel) (fun _ => rfl) (fun _ => Nat.le_of_ble_eq_true rfl) ?_
  intro G J JX CE
  have C := CE.b
  refine r_aload_n C dX5_greatestCost_0 rfl rfl ?_
  refine r_iload_n C dX5_greatestCost_1 rfl rfl ?_
  refine r_iload_n C dX5_greatestCost_2 rfl rfl ?_
  refine cl_RX5_166 C (con_X5_requireUsable l hfl _ hD.R hD.ok.R hD.C hD.ok.C hD.tb) dX5_greatestCost_3 rfl ⟨Nat.le_of_ble_eq_true rfl, Nat.le_of_ble_eq_true rfl⟩ (by omega) (Nat.le_of_ble_eq_true rfl) (fun E_3 X_3 x_3 => ?_) (fun X_3 h_3 => ?_)
  · -- thrown
    exact r_out CE rfl (Nat.le_of_ble_eq_true rfl) x_3
  obtain ⟨rfl, h2, h3, h4⟩ := h_3
  obtain ⟨r, hr, rfl⟩ := inI_t h2
  obtain ⟨c, hc, rfl⟩ := inI_t h3
  have hR10 := hD.ok.R
  have hC10 := hD.ok.C
  have hu := h4 r c rfl rfl (by omega) (by omega)
  have hbW := xW_bd hD.zs (ra := A.ra) (r := r) (c := c) (by omega) (by omega) hD.tb.2.2.2.1
  have hbO := xO_bd hD.zs (ra := A.ra) (r := r) (c := c) (by omega) hD.tb.2.2.2.1
  refine r_aload_n C dX5_greatestCost_6 rfl rfl ?_
  refine cl_solved C (con_X5_solved l hfl _ _ hD) dX5_greatestCost_7 ⟨Nat.le_of_ble_eq_true rfl, Nat.le_of_ble_eq_true rfl⟩ (by omega) (Nat.le_of_ble_eq_true rfl) (fun X_7 h_7 => ?_)
  obtain ⟨hK, hD2, hF⟩ := h_7
  refine r_iload_n C dX5_greatestCost_10 rfl rfl ?_
  refine r_iload_n C dX5_greatestCost_11 rfl rfl ?_
  refine cl_RX5_160 C (con_X3_extraCostWith l hfl _ (r := r) (c := c) hK (by omega) (by omega)) dX5_greatestCost_12 rfl ⟨Nat.le_of_ble_eq_true rfl, Nat.le_of_ble_eq_true rfl⟩ (by omega) (Nat.le_of_ble_eq_true rfl) (fun r_12 X_12 h_12 => ?_)
  obtain ⟨rfl, f, rfl⟩ := h_12
  refine r_topi (show _ = i32 (xW A.ra A.ca A.z r c) from rfl) ?_
  refine r_istore_n C dX5_greatestCost_15 rfl (by decide) ?_
  refine r_iload_n C dX5_greatestCost_16 rfl rfl ?_
  refine r_iconst (v := (-1)) C dX5_greatestCost_17 (by decide) ?_
  refine r_icmp_ne (tgt := 25) C dX5_greatestCost_18 (by decide) (fun c_18 => ?_) (fun c_18 => ?_)
  · -- 25
    have e1 : ¬ xW A.ra A.ca A.z r c = -1 := fun q => c_18 (by rw [q]; rfl)
    have hD3 := hD2.put f (k := 10) (Or.inl rfl)
    have hF3 := hF.dv f (k := 10) (by decide)
    refine r_aload_n C dX5_greatestCost_25 rfl rfl ?_
    refine cl_solved C (con_X5_solved l hfl _ _ hD3) dX5_greatestCost_26 ⟨Nat.le_of_ble_eq_true rfl, Nat.le_of_ble_eq_true rfl⟩ (by omega) (Nat.le_of_ble_eq_true rfl) (fun X_26 h_26 => ?_)
    obtain ⟨hK, hD4, hF4⟩ := h_26
    refine r_iload_n C dX5_greatestCost_29 rfl rfl ?_
    refine r_iload_n C dX5_greatestCost_30 rfl rfl ?_
    refine cl_RX5_163 C (con_X3_extraCostWithout l hfl _ (r := r) (c := c) hK (by omega) (by omega)) dX5_greatestCost_31 rfl ⟨Nat.le_of_ble_eq_true rfl, Nat.le_of_ble_eq_true rfl⟩ (by omega) (Nat.le_of_ble_eq_true rfl) (fun r_31 X_31 h_31 => ?_)
    obtain ⟨rfl, f2, rfl⟩ := h_31
    refine r_topi (show _ = i32 (xO A.ra A.ca A.z r c) from rfl) ?_
    refine r_istore C dX5_greatestCost_34 (by decide) ?_
    refine r_iload C dX5_greatestCost_36 rfl ?_
    refine r_iconst (v := (-1)) C dX5_greatestCost_38 (by decide) ?_
    refine r_icmp_ne (tgt := 46) C dX5_greatestCost_39 (by decide) (fun c_39 => ?_) (fun c_39 => ?_)
    · -- 46
      have e2 : ¬ xO A.ra A.ca A.z r c = -1 := fun q => c_39 (by rw [q]; rfl)
      have hD5 := hD4.put f2 (k := 10) (Or.inl rfl)
      have hF5 := hF3.tr (hF4.dv f2 (k := 10) (by decide))
      have hz := hD5.tb.2.2.2.2 (10 * r + c) (by omega)
      refine r_aload_n C dX5_greatestCost_46 rfl rfl ?_
      refine gf_RX5_12 C dX5_greatestCost_47 ?_
      refine r_iload_n C dX5_greatestCost_50 rfl rfl ?_
      refine r_iload_n C dX5_greatestCost_51 rfl rfl ?_
      refine cl_RX5_128 C (con_X4_cell l hfl _ (r := r) (c := c) (by omega) (by omega)) dX5_greatestCost_52 rfl ⟨Nat.le_of_ble_eq_true rfl, Nat.le_of_ble_eq_true rfl⟩ (by omega) (Nat.le_of_ble_eq_true rfl) (fun r_52 X_52 h_52 => ?_)
      obtain ⟨rfl, rfl⟩ := h_52
      refine r_topi hz.1 ?_
      refine r_iload C dX5_greatestCost_55 rfl ?_
      refine r_iadd C dX5_greatestCost_57 ?_
      refine r_topi (i32_add _ _) ?_
      refine r_iload_n C dX5_greatestCost_58 rfl rfl ?_
      refine r_isub C dX5_greatestCost_59 ?_
      refine r_topi (i32_sub _ _) ?_
      refine r_istore C dX5_greatestCost_60 (by decide) ?_
      refine r_iload C dX5_greatestCost_62 rfl ?_
      refine r_sipush (v := (-10000)) C dX5_greatestCost_64 (by decide) ?_
      refine r_topi km10000 ?_
      refine r_icmp_ge (tgt := 76) C dX5_greatestCost_67 (by decide) (fun c_67 => ?_) (fun c_67 => ?_)
      · -- 76
        have e3 : ¬ A.z (10 * r + c) + xO A.ra A.ca A.z r c - xW A.ra A.ca A.z r c < -10000 := fun q => absurd c_67 (Int32.not_le.mpr ((i32_lt (by omega) (by omega)).mpr q))
        have hg : gcf (A.z (10 * r + c)) (xW A.ra A.ca A.z r c) (xO A.ra A.ca A.z r c) = min (A.z (10 * r + c) + xO A.ra A.ca A.z r c - xW A.ra A.ca A.z r c) 10000 := by rw [gcf, if_neg e1, if_neg e2, if_neg e3]
        refine r_iload C dX5_greatestCost_76 rfl ?_
        refine r_sipush (v := 10000) C dX5_greatestCost_78 (by decide) ?_
        refine r_topi k10000 ?_
        refine r_min C lk_RX5_169 (by decide) (Nat.le_of_ble_eq_true rfl) (by omega) dX5_greatestCost_81 ?_
        refine r_topi (i32_min (by omega) (by omega)) ?_
        exact r_iret CE rfl rfl dX5_greatestCost_84 (Nat.le_of_ble_eq_true rfl) ⟨_, rfl, r, c, hr, hc, rfl, rfl, hu, by first | (rw [hg]; done) | (rw [hg]; rfl) | (rw [hg]; decide), hD5, hF5⟩
      · -- 70
        have e3 : A.z (10 * r + c) + xO A.ra A.ca A.z r c - xW A.ra A.ca A.z r c < -10000 := (i32_lt (by omega) (by omega)).mp (Int32.not_le.mp c_67)
        have hg : gcf (A.z (10 * r + c)) (xW A.ra A.ca A.z r c) (xO A.ra A.ca A.z r c) = -20000 := by rw [gcf, if_neg e1, if_neg e2, if_pos e3]
        refine r_sipush (v := (-20000)) C dX5_greatestCost_70 (by decide) ?_
        refine r_goto (tgt := 84) C dX5_greatestCost_73 (by decide) ?_
        exact r_iret CE rfl rfl dX5_greatestCost_84 (Nat.le_of_ble_eq_true rfl) ⟨_, rfl, r, c, hr, hc, rfl, rfl, hu, by first | (rw [hg]; done) | (rw [hg]; rfl) | (rw [hg]; decide), hD5, hF5⟩
    · -- 42
      have e2 : xO A.ra A.ca A.z r c = -1 := (i32_eq (b := -1) (by omega) (by omega)).mp c_39
      have hg : gcf (A.z (10 * r + c)) (xW A.ra A.ca A.z r c) (xO A.ra A.ca A.z r c) = 10000 := by rw [gcf, if_neg e1, if_pos e2]
      refine r_sipush (v := 10000) C dX5_greatestCost_42 (by decide) ?_
      exact r_iret CE rfl rfl dX5_greatestCost_45 (Nat.le_of_ble_eq_true rfl) ⟨_, rfl, r, c, hr, hc, rfl, rfl, hu, by rw [hg]; decide, hD4.put f2 (Or.inl rfl), hF3.tr (hF4.dv f2 (by decide))⟩
  · -- 21
    have e1 : xW A.ra A.ca A.z r c = -1 := (i32_eq (b := -1) (by omega) (by omega)).mp c_18
    have hg : gcf (A.z (10 * r + c)) (xW A.ra A.ca A.z r c) (xO A.ra A.ca A.z r c) = -20000 := by rw [gcf, if_pos e1]
    refine r_sipush (v := (-20000)) C dX5_greatestCost_21 (by decide) ?_
    exact r_iret CE rfl rfl dX5_greatestCost_24 (Nat.le_of_ble_eq_true rfl) ⟨_, rfl, r, c, hr, hc, rfl, rfl, hu, by rw [hg]; decide, hD2.put f (Or.inl rfl), hF.dv f (by decide)⟩
set_option maxHeartbeats 4000000 in
set_option maxRecDepth 100000 in
/-- X2_columnIn  -/
theorem con_X2_columnIn (l : Launch) (hfl : l.stackTraces = false) {p r : Nat} (X : St) (hp : p < 1125899906842624) (hr : r < 10) : Con l yX2_columnIn cX2_columnIn 4 (some (FieldType.int)) 0 0 0 (fun _ => [.long (i64 (p : Int)), .int (nI r)]) X (kI (fun r9 X' => r9 = clf p r ∧ X = X')) kF := by
  refine con_of (lv := fun _ => [(0, .long (i64 (p : Int))), (2, .int (nI r))]) hfl (by decide +kernel) (fun _ => rfl) (fun _ => Nat.le_of_ble_eq_true rfl) ?_
  intro G J JX CE
  have C := CE.b
  have hm : p / 16 ^ (9 - r) % 16 < 16 := Nat.mod_lt _ (by decide)
  refine r_lload_n C dX2_columnIn_0 rfl rfl ?_
  refine r_iconst (v := 4) C dX2_columnIn_1 (by decide) ?_
  refine r_bipush (v := 9) C dX2_columnIn_2 (by decide) ?_
  refine r_iload_n C dX2_columnIn_4 rfl rfl ?_
  refine r_isub C dX2_columnIn_5 ?_
  refine r_imul C dX2_columnIn_6 ?_
  refine r_lshr C dX2_columnIn_7 ?_
  refine r_l2i C dX2_columnIn_8 ?_
  refine r_bipush (v := 15) C dX2_columnIn_9 (by decide) ?_
  refine r_iand C dX2_columnIn_11 ?_
  refine r_topi (shr16 hp hr) ?_
  refine r_istore_n C dX2_columnIn_12 rfl (by decide) ?_
  refine r_iload_n C dX2_columnIn_13 rfl rfl ?_
  refine r_bipush (v := 15) C dX2_columnIn_14 (by decide) ?_
  refine r_icmp_ne (tgt := 23) C dX2_columnIn_16 (by decide) (fun c_16 => ?_) (fun c_16 => ?_)
  · -- 23
    have e : clf p r = nI (p / 16 ^ (9 - r) % 16) := by rw [clf, if_neg (fun q => c_16 (by rw [q]; rfl))]
    refine r_iload_n C dX2_columnIn_23 rfl rfl ?_
    exact r_iret CE rfl rfl dX2_columnIn_24 (Nat.le_of_ble_eq_true rfl) ⟨_, rfl, by rw [e], rfl⟩
  · -- 19
    have e : clf p r = -1 := by rw [clf, if_pos ((nI_eq (b := 15) (by omega) (by decide)).mp c_16)]
    refine r_iconst (v := (-1)) C dX2_columnIn_19 (by decide) ?_
    refine r_goto (tgt := 24) C dX2_columnIn_20 (by decide) ?_
    exact r_iret CE rfl rfl dX2_columnIn_24 (Nat.le_of_ble_eq_true rfl) ⟨_, rfl, by rw [e], rfl⟩
set_option maxHeartbeats 4000000 in
set_option maxRecDepth 100000 in
/-- X5_requireRanked  -/
theorem con_X5_requireRanked (l : Launch) (hfl : l.stackTraces = false) {A : DA} {x : Int32} (X : St) (hD : DInv X A) : Con l yX5_requireRanked cX5_requireRanked 2 none 6 100 1 (fun G => [.ref (G.2.1 0), .int x]) X (kV (fun X' => X = X' ∧ inI x A.rl.length = true)) (fun E X' => E = "java/lang/IndexOutOfBoundsException" ∧ X = X' ∧ inI x A.rl.length = false) := by
  refine con_of (lv := fun G => [(0, .ref (G.2.1 0)), (1, .int x)]) hfl (by decide +kernel) (fun _ => rfl) (fun _ => Nat.le_of_ble_eq_true rfl) ?_
  intro G J JX CE
  have C := CE.b
  have h30 := hD.rk.2.1
  refine r_iload_n C dX5_requireRanked_0 rfl rfl ?_
  refine r_if_lt (tgt := 18) C dX5_requireRanked_1 (by decide) (fun c_1 => ?_) (fun c_1 => ?_)
  · -- 18
    exact r_throw CE rfl (by decide +kernel) (by decide +kernel) ck_RX5_226 ik_Qjava_lang_IndexOutOfBoundsException sk_RX5_235 (xa_230) dX5_requireRanked_18 dX5_requireRanked_21 dX5_requireRanked_22 dX5_requireRanked_24 dX5_requireRanked_27 (by decide) (Nat.le_of_ble_eq_true rfl) (Nat.le_of_ble_eq_true rfl) ⟨rfl, rfl, by first | exact inI_f (by omega) (Or.inl c_1) | exact inI_f (by omega) (Or.inr c_15)⟩
  · -- 4
    refine r_iload_n C dX5_requireRanked_4 rfl rfl ?_
    refine r_aload_n C dX5_requireRanked_5 rfl rfl ?_
    refine gf_RX5_33 C dX5_requireRanked_6 ?_
    refine gf_RX5_180 C dX5_requireRanked_9 ?_
    refine gf_RX5_184 C hD.fg.f dX5_requireRanked_12 ?_
    refine r_topi hD.rk.1 ?_
    refine r_icmp_lt (tgt := 28) C dX5_requireRanked_15 (by decide) (fun c_15 => ?_) (fun c_15 => ?_)
    · -- 28
      exact r_vret CE rfl dX5_requireRanked_28 (Nat.le_of_ble_eq_true rfl) ⟨rfl, rfl, inI_i (by omega) c_1 c_15⟩
    · -- 18
      exact r_throw CE rfl (by decide +kernel) (by decide +kernel) ck_RX5_226 ik_Qjava_lang_IndexOutOfBoundsException sk_RX5_235 (xa_230) dX5_requireRanked_18 dX5_requireRanked_21 dX5_requireRanked_22 dX5_requireRanked_24 dX5_requireRanked_27 (by decide) (Nat.le_of_ble_eq_true rfl) (Nat.le_of_ble_eq_true rfl) ⟨rfl, rfl, by first | exact inI_f (by omega) (Or.inl c_1) | exact inI_f (by omega) (Or.inr c_15)⟩
set_option maxHeartbeats 4000000 in
set_option maxRecDepth 100000 in
/-- X5_rankedCost  -/
theorem con_X5_rankedCost (l : Launch) (hfl : l.stackTraces = false) {A : DA} {x : Int32} (X : St) (hD : DInv X A) : Con l yX5_rankedCost cX5_rankedCost 2 (some (FieldType.int)) 7 130 1 (fun G => [.ref (G.2.1 0), .int x]) X (kI (fun r9 X' => ∃ (i : Nat) (e : BE), A.rl[i]? = some e ∧ x = nI i ∧ r9 = i32 (csf e.1) ∧ X = X')) (fun E X' => E = "java/lang/IndexOutOfBoundsException" ∧ X = X' ∧ inI x A.rl.length = false) := by
  refine con_of (lv := fun G => [(0, .ref (G.2.1 0)), (1, .int x)]) hfl (by decide +kernel) (fun _ => rfl) (fun _ => Nat.le_of_ble_eq_true rfl) ?_
  intro G J JX CE
  have C := CE.b
  refine r_aload_n C dX5_rankedCost_0 rfl rfl ?_
  refine r_iload_n C dX5_rankedCost_1 rfl rfl ?_
  refine cl_RX5_189 C (con_X5_requireRanked l hfl _ hD) dX5_rankedCost_2 rfl ⟨Nat.le_of_ble_eq_true rfl, Nat.le_of_ble_eq_true rfl⟩ (by omega) (Nat.le_of_ble_eq_true rfl) (fun E_2 X_2 x_2 => ?_) (fun X_2 h_2 => ?_)
  · -- thrown
    obtain ⟨rfl, rfl, h9⟩ := x_2
    exact r_out CE rfl (Nat.le_of_ble_eq_true rfl) ⟨rfl, rfl, h9⟩
  obtain ⟨rfl, h2⟩ := h_2
  obtain ⟨i, hi, rfl⟩ := inI_t h2
  obtain ⟨e, he⟩ : ∃ e : BE, A.rl[i]? = some e := ⟨A.rl[i]'hi, List.getElem?_eq_getElem hi⟩
  have hx := hD.rk.2.2 i e he
  have h30 := hD.rk.2.1
  have hb1 : Zf X 25 0 < 32 := by rcases hD.fg with h | h <;> omega
  refine r_aload_n C dX5_rankedCost_5 rfl rfl ?_
  refine gf_RX5_33 C dX5_rankedCost_6 ?_
  refine gf_RX5_180 C dX5_rankedCost_9 ?_
  refine gf_RX5_192 C hD.fg.f dX5_rankedCost_12 ?_
  refine r_iload_n C dX5_rankedCost_15 rfl rfl ?_
  refine r_iald C (i) (by omega) (layB1 hD.fg.f) rfl (by omega) dX5_rankedCost_16 ?_
  refine r_topi hx.1.1 ?_
  refine cl_RX5_147 C (con_X3_costOf l hfl _ (z := e.1) (by omega)) dX5_rankedCost_17 rfl ⟨Nat.le_of_ble_eq_true rfl, Nat.le_of_ble_eq_true rfl⟩ (by omega) (Nat.le_of_ble_eq_true rfl) (fun r_17 X_17 h_17 => ?_)
  obtain ⟨rfl, rfl⟩ := h_17
  exact r_iret CE rfl rfl dX5_rankedCost_20 (Nat.le_of_ble_eq_true rfl) ⟨_, rfl, i, e, he, rfl, rfl, rfl⟩
set_option maxHeartbeats 4000000 in
set_option maxRecDepth 100000 in
/-- X5_rankedColumn  -/
theorem con_X5_rankedColumn (l : Launch) (hfl : l.stackTraces = false) {A : DA} {x y : Int32} (X : St) (hD : DInv X A) : Con l yX5_rankedColumn cX5_rankedColumn 3 (some (FieldType.int)) 7 130 2 (fun G => [.ref (G.2.1 0), .int x, .int y]) X (kI (fun r9 X' => ∃ (i : Nat) (e : BE) (r : Nat), A.rl[i]? = some e ∧ x = nI i ∧ r < A.R ∧ y = nI r ∧ r9 = clf e.2.1 r ∧ X = X')) (fun E X' => E = "java/lang/IndexOutOfBoundsException" ∧ X = X' ∧ (inI x A.rl.length && inI y A.R) = false) := by
  refine con_of (lv := fun G => [(0, .ref (G.2.1 0)), (1, .int x), (2, .int y)]) hfl (by decide +kernel) (fun _ => rfl) (fun _ => Nat.le_of_ble_eq_true rfl) ?_
  intro G J JX CE
  have C := CE.b
  refine r_aload_n C dX5_rankedColumn_0 rfl rfl ?_
  refine r_iload_n C dX5_rankedColumn_1 rfl rfl ?_
  refine cl_RX5_189 C (con_X5_requireRanked l hfl _ hD) dX5_rankedColumn_2 rfl ⟨Nat.le_of_ble_eq_true rfl, Nat.le_of_ble_eq_true rfl⟩ (by omega) (Nat.le_of_ble_eq_true rfl) (fun E_2 X_2 x_2 => ?_) (fun X_2 h_2 => ?_)
  · -- thrown
    obtain ⟨rfl, rfl, h9⟩ := x_2
    exact r_out CE rfl (Nat.le_of_ble_eq_true rfl) ⟨rfl, rfl, by rw [h9]; rfl⟩
  obtain ⟨rfl, h2⟩ := h_2
  obtain ⟨i, hi, rfl⟩ := inI_t h2
  obtain ⟨e, he⟩ : ∃ e : BE, A.rl[i]? = some e := ⟨A.rl[i]'hi, List.getElem?_eq_getElem hi⟩
  have hx := hD.rk.2.2 i e he
  have h30 := hD.rk.2.1
  have hb1 : Zf X 25 0 < 32 := by rcases hD.fg with h | h <;> omega
  refine r_aload_n C dX5_rankedColumn_5 rfl rfl ?_
  refine r_iload_n C dX5_rankedColumn_6 rfl rfl ?_
  refine cl_RX5_64 C (con_X5_requireRow l hfl _ hD.R hD.ok.R) dX5_rankedColumn_7 rfl ⟨Nat.le_of_ble_eq_true rfl, Nat.le_of_ble_eq_true rfl⟩ (by omega) (Nat.le_of_ble_eq_true rfl) (fun E_7 X_7 x_7 => ?_) (fun X_7 h_7 => ?_)
  · -- thrown
    obtain ⟨rfl, rfl, h9⟩ := x_7
    exact r_out CE rfl (Nat.le_of_ble_eq_true rfl) ⟨rfl, rfl, by rw [h9, Bool.and_false]⟩
  obtain ⟨rfl, h3⟩ := h_7
  obtain ⟨r, hr, rfl⟩ := inI_t h3
  have hR10 := hD.ok.R
  refine r_aload_n C dX5_rankedColumn_10 rfl rfl ?_
  refine gf_RX5_33 C dX5_rankedColumn_11 ?_
  refine gf_RX5_180 C dX5_rankedColumn_14 ?_
  refine gf_RX5_195 C hD.fg.f dX5_rankedColumn_17 ?_
  refine r_iload_n C dX5_rankedColumn_20 rfl rfl ?_
  refine r_lald C (i) (by omega) (layB2 hD.fg.f) rfl (by omega) dX5_rankedColumn_21 ?_
  refine r_topl hx.1.2.1 ?_
  refine r_iload_n C dX5_rankedColumn_22 rfl rfl ?_
  refine cl_RX5_199 C (con_X2_columnIn l hfl _ hx.2.2.1 (by omega)) dX5_rankedColumn_23 rfl ⟨Nat.le_of_ble_eq_true rfl, Nat.le_of_ble_eq_true rfl⟩ (by omega) (Nat.le_of_ble_eq_true rfl) (fun r_23 X_23 h_23 => ?_)
  obtain ⟨rfl, rfl⟩ := h_23
  exact r_iret CE rfl rfl dX5_rankedColumn_26 (Nat.le_of_ble_eq_true rfl) ⟨_, rfl, i, e, r, he, rfl, hr, rfl, rfl, rfl⟩
def inL (x : Int32) : Bool := decide (1 ≤ x.toInt) && decide (x.toInt ≤ 30)
theorem inL_0 {x : Int32} (h : x < 1 ∨ ¬ x ≤ 30) : inL x = false := by
  unfold inL
  rcases h with h | h
  · rw [Int32.lt_iff_toInt_lt, show (1 : Int32).toInt = 1 by decide] at h
    rw [decide_eq_false (by omega)]; rfl
  · rw [Int32.le_iff_toInt_le, show (30 : Int32).toInt = 30 by decide] at h
    rw [decide_eq_false (p := x.toInt ≤ 30) (by omega), Bool.and_false]
theorem inL_1 {x : Int32} (h : ¬ x < 1) (h2 : x ≤ 30) : ∃ n, 1 ≤ n ∧ n ≤ 30 ∧ x = nI n := by
  rw [Int32.lt_iff_toInt_lt, show (1 : Int32).toInt = 1 by decide] at h
  rw [Int32.le_iff_toInt_le, show (30 : Int32).toInt = 30 by decide] at h2
  have h1 : x = i32 x.toInt := i32_of x
  refine ⟨x.toInt.toNat, by omega, by omega, ?_⟩
  rw [i32_n, Int.toNat_of_nonneg (by omega)]
  exact h1
set_option maxHeartbeats 4000000 in
set_option maxRecDepth 100000 in
/-- X5_rank  -/
theorem con_X5_rank (l : Launch) (hfl : l.stackTraces = false) {A : DA} {x : Int32} (X : St) (hD : DInv X A) : Con l yX5_rank cX5_rank 2 (some (FieldType.int)) 7 230 1 (fun G => [.ref (G.2.1 0), .int x]) X (kI (fun r9 X' => ∃ n, 1 ≤ n ∧ n ≤ 30 ∧ x = nI n ∧ r9 = nI (rankB A.ra A.ca A.z n (Ls A.ra A.ca A.z 10 A.ca) 10).length ∧ DInv X' (A.lis (rankB A.ra A.ca A.z n (Ls A.ra A.ca A.z 10 A.ca) 10)) ∧ Fr Dp X X')) (fun E X' => E = "java/lang/IllegalArgumentException" ∧ X = X' ∧ inL x = false) := by
  refine con_of (lv := fun G => [(0, .ref (G.2.1 0)), (1, .int x)]) hfl (by decide +kernel) (fun _ => rfl) (fun _ => Nat.le_of_ble_eq_true rfl) ?_
  intro G J JX CE
  have C := CE.b
  have hLb := Ls_bd (ra := A.ra) (ca := A.ca) hD.zs 10 A.ca (by omega)
  refine r_iload_n C dX5_rank_0 rfl rfl ?_
  refine r_iconst (v := 1) C dX5_rank_1 (by decide) ?_
  refine r_icmp_lt (tgt := 11) C dX5_rank_2 (by decide) (fun c_2 => ?_) (fun c_2 => ?_)
  · -- 11
    exact r_throw CE rfl (by decide +kernel) (by decide +kernel) ck_RX5_93 ik_Qjava_lang_IllegalArgumentException sk_RX5_174 (xa_97) dX5_rank_11 dX5_rank_14 dX5_rank_15 dX5_rank_17 dX5_rank_20 (by decide) (Nat.le_of_ble_eq_true rfl) (Nat.le_of_ble_eq_true rfl) ⟨rfl, rfl, by first | exact inL_0 (Or.inl c_2) | exact inL_0 (Or.inr c_8)⟩
  · -- 5
    refine r_iload_n C dX5_rank_5 rfl rfl ?_
    refine r_bipush (v := 30) C dX5_rank_6 (by decide) ?_
    refine r_icmp_le (tgt := 21) C dX5_rank_8 (by decide) (fun c_8 => ?_) (fun c_8 => ?_)
    · -- 21
      obtain ⟨n, hn1, hn2, rfl⟩ := inL_1 c_2 c_8
      refine r_aload_n C dX5_rank_21 rfl rfl ?_
      refine gf_RX5_33 C dX5_rank_22 ?_
      refine r_aload_n C dX5_rank_25 rfl rfl ?_
      refine cl_solved C (con_X5_solved l hfl _ _ hD) dX5_rank_26 ⟨Nat.le_of_ble_eq_true rfl, Nat.le_of_ble_eq_true rfl⟩ (by omega) (Nat.le_of_ble_eq_true rfl) (fun X_26 h_26 => ?_)
      obtain ⟨hK, hD2, hF⟩ := h_26
      refine r_iload_n C dX5_rank_29 rfl rfl ?_
      refine cl_RX5_176 C (con_X2_findFirst l hfl _ (lim := n) (fs := (Ls A.ra A.ca A.z 10 A.ca)) rfl rfl hD2.fg hK.1 hK.2.1 (by omega) hn1 hn2) dX5_rank_30 rfl ⟨Nat.le_of_ble_eq_true rfl, Nat.le_of_ble_eq_true rfl⟩ (by omega) (Nat.le_of_ble_eq_true rfl) (fun X_30 h_30 => ?_)
      obtain ⟨f, g, hf, hg, hfg, hB, hF9⟩ := h_30
      refine r_aload_n C dX5_rank_33 rfl rfl ?_
      refine gf_RX5_33 C dX5_rank_34 ?_
      refine gf_RX5_180 C dX5_rank_37 ?_
      refine r_topr hf ?_
      refine gf_RX5_184 C hfg.f dX5_rank_40 ?_
      refine r_topi hB.1 ?_
      exact r_iret CE rfl rfl dX5_rank_43 (Nat.le_of_ble_eq_true rfl) ⟨_, rfl, n, hn1, hn2, rfl, rfl, hD2.lis hF9 (by rw [hf, hg]; exact hfg) (by rw [hf]; exact hB), hF.tr (hF9.mono (fun k hk => by omega))⟩
    · -- 11
      exact r_throw CE rfl (by decide +kernel) (by decide +kernel) ck_RX5_93 ik_Qjava_lang_IllegalArgumentException sk_RX5_174 (xa_97) dX5_rank_11 dX5_rank_14 dX5_rank_15 dX5_rank_17 dX5_rank_20 (by decide) (Nat.le_of_ble_eq_true rfl) (Nat.le_of_ble_eq_true rfl) ⟨rfl, rfl, by first | exact inL_0 (Or.inl c_2) | exact inL_0 (Or.inr c_8)⟩
