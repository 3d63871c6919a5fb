theorem r_topr {G : Geo} {J : JT} {X : St} {u pc : Nat} {lv : List (Nat × Value)} {st : List Value} {x y : Nat} (h : x = y) (k : J X u pc lv (.ref (G.2.1 y) :: st)) : J X u pc lv (.ref (G.2.1 x) :: st) := h ▸ k
/-- a beginning taken where it leads to full assignments -/
def offF (lim : Nat) (fs : Int) (M : List BE) (e : BE) : List BE := if szf e.1 = szf fs then offL lim M e else M
def cand0 (ra ca : Nat) (z : Nat → Int) (r : Nat) (e : BE) : BE := (e.2.2.1 + Ls ra ca z (9 - r) e.2.2.2, 16 * e.2.1 + 15, e.2.2.1, e.2.2.2)
def cand (ra ca : Nat) (z : Nat → Int) (r : Nat) (e : BE) (c : Nat) : BE := (e.2.2.1 + sc z r c + Ls ra ca z (9 - r) (cb e.2.2.2 c), 16 * e.2.1 + c, e.2.2.1 + sc z r c, cb e.2.2.2 c)
def extC (ra ca : Nat) (z : Nat → Int) (lim : Nat) (fs : Int) (r : Nat) (e : BE) (M : List BE) : Nat → List BE
  | 0 => offF lim fs M (cand0 ra ca z r e)
  | c + 1 => if (us ra ca z r &&& e.2.2.2).testBit c = true then offF lim fs (extC ra ca z lim fs r e M c) (cand ra ca z r e c) else extC ra ca z lim fs r e M c
def stepB (ra ca : Nat) (z : Nat → Int) (lim : Nat) (fs : Int) (r : Nat) (L : List BE) : Nat → List BE
  | 0 => []
  | n + 1 => match L[n]? with
    | some e => extC ra ca z lim fs r e (stepB ra ca z lim fs r L n) 10
    | none => stepB ra ca z lim fs r L n
def rankB (ra ca : Nat) (z : Nat → Int) (lim : Nat) (fs : Int) : Nat → List BE
  | 0 => [(fs, 0, 0, ca)]
  | r + 1 => stepB ra ca z lim fs r (rankB ra ca z lim fs r) (rankB ra ca z lim fs r).length
theorem Srt_offF {lim : Nat} {fs : Int} {M : List BE} {e : BE} (h : Srt M) : Srt (offF lim fs M e) := by
  unfold offF
  split
  · exact Srt_off h
  · exact h
theorem len_offF {lim : Nat} {fs : Int} {M : List BE} {e : BE} (h : M.length ≤ lim) : (offF lim fs M e).length ≤ lim := by
  unfold offF
  split
  · exact len_off
  · exact h
theorem mem_offF {lim : Nat} {fs : Int} {M : List BE} {e x : BE} (h : x ∈ offF lim fs M e) : x ∈ M ∨ x = e := by
  unfold offF at h
  split at h
  · exact mem_off h
  · exact Or.inl h
theorem extC_ok {ra ca : Nat} {z : Nat → Int} {lim : Nat} {fs : Int} {r : Nat} {e : BE} {M : List BE} (h : Srt M) (hl : M.length ≤ lim) : ∀ c, Srt (extC ra ca z lim fs r e M c) ∧ (extC ra ca z lim fs r e M c).length ≤ lim
  | 0 => ⟨Srt_offF h, len_offF hl⟩
  | c + 1 => by
    obtain ⟨a1, a2⟩ := extC_ok (ra := ra) (ca := ca) (z := z) (fs := fs) (r := r) (e := e) h hl c
    unfold extC
    split
    · exact ⟨Srt_offF a1, len_offF a2⟩
    · exact ⟨a1, a2⟩
/-- what a beginning up to row r is -/
def Rk (ca r : Nat) (e : BE) : Prop := e.2.1 < 16 ^ r ∧ bd (1100000 * (r : Int)) e.2.2.1 ∧ e.2.2.2 < 1024 ∧ cbl ca e.2.2.2 r = true
theorem extC_rk {ra ca : Nat} {z : Nat → Int} {lim : Nat} {fs : Int} {r : Nat} {e : BE} {M : List BE} (hz : ∀ k, k < 100 → zok (z k)) (hr : r < 10) (he : Rk ca r e) (hM : ∀ x ∈ M, Rk ca (r + 1) x) : ∀ c, c ≤ 10 → ∀ x ∈ extC ra ca z lim fs r e M c, Rk ca (r + 1) x
  | 0, _, x, hx => by
    rcases mem_offF hx with g | g
    · exact hM x g
    · rw [g]
      obtain ⟨h1, h2, h3, h4⟩ := he
      refine ⟨?_, ?_, h3, cbl_mono h4⟩
      · show 16 * e.2.1 + 15 < 16 ^ (r + 1)
        rw [Nat.pow_succ]
        omega
      · show bd _ e.2.2.1
        omega
  | c + 1, hc, x, hx => by
    unfold extC at hx
    split at hx
    · rename_i hb
      rcases mem_offF hx with g | g
      · exact extC_rk hz hr he hM c (by omega) x g
      · rw [g]
        obtain ⟨h1, h2, h3, h4⟩ := he
        have h5 := sc_bd hz hr (show c < 10 by omega)
        have h6 : e.2.2.2.testBit c = true := by rw [Nat.testBit_and, Bool.and_eq_true] at hb; exact hb.2
        refine ⟨?_, ?_, Nat.lt_of_le_of_lt (cb_le _ _) h3, cbl_cb (by omega) h4 h6⟩
        · show 16 * e.2.1 + c < 16 ^ (r + 1)
          rw [Nat.pow_succ]
          omega
        · show bd _ (e.2.2.1 + sc z r c)
          omega
    · exact extC_rk hz hr he hM c (by omega) x hx
theorem stepB_ok {ra ca : Nat} {z : Nat → Int} {lim : Nat} {fs : Int} {r : Nat} {L : List BE} (hz : ∀ k, k < 100 → zok (z k)) (hr : r < 10) (hL : ∀ x ∈ L, Rk ca r x) : ∀ n, Srt (stepB ra ca z lim fs r L n) ∧ (stepB ra ca z lim fs r L n).length ≤ lim ∧ ∀ x ∈ stepB ra ca z lim fs r L n, Rk ca (r + 1) x
  | 0 => ⟨List.Pairwise.nil, Nat.zero_le _, fun _ h => (List.not_mem_nil h).elim⟩
  | n + 1 => by
    obtain ⟨a1, a2, a3⟩ := stepB_ok (ra := ra) (ca := ca) (z := z) (lim := lim) (fs := fs) hz hr hL n
    unfold stepB
    split
    · rename_i e he
      have h := extC_ok (ra := ra) (ca := ca) (z := z) (lim := lim) (fs := fs) (r := r) (e := e) a1 a2 10
      exact ⟨h.1, h.2, extC_rk hz hr (hL e (List.mem_of_getElem? he)) a3 10 (Nat.le_refl _)⟩
    · exact ⟨a1, a2, a3⟩
theorem rankB_ok {ra ca : Nat} {z : Nat → Int} {lim : Nat} {fs : Int} (hz : ∀ k, k < 100 → zok (z k)) (h0 : 0 < lim) (hca : ca < 1024) : ∀ r, r ≤ 10 → Srt (rankB ra ca z lim fs r) ∧ (rankB ra ca z lim fs r).length ≤ lim ∧ ∀ x ∈ rankB ra ca z lim fs r, Rk ca r x
  | 0, _ => ⟨List.pairwise_cons.mpr ⟨fun _ h => (List.not_mem_nil h).elim, List.Pairwise.nil⟩, h0, fun x hx => by
    rw [List.mem_singleton.mp hx]
    exact ⟨(by decide : 0 < 1), by show bd _ (0 : Int); omega, hca, cbl_self ca 0⟩⟩
  | r + 1, h => stepB_ok hz (by omega) (rankB_ok hz h0 hca r (by omega)).2.2 _
theorem SvR_fr {X Y : St} {P : Nat → Prop} {ra ca r0 : Nat} {z : Nat → Int} (h : SvR X ra ca z r0) (hF : Fr P X Y) (hP : ∀ k, k < 25 → ¬ P k) : SvR Y ra ca z r0 := by
  obtain ⟨h1, h2, h3, h4, h5, h6⟩ := h
  refine ⟨by rw [(hF 7 (hP 7 (by decide))).1 2]; exact h1, fun r hr => by rw [(hF 9 (hP 9 (by decide))).2.1]; exact h2 r hr, fun r c hr hc => by rw [(hF 8 (hP 8 (by decide))).2.1]; exact h3 r c hr hc, fun r S hr hr2 hS hb => by rw [(hF (14 + r) (hP _ (by omega))).2.1]; exact h4 r S hr hr2 hS hb, h5, h6⟩
theorem szf_eq {x y : Int} (hx : -1000000000 ≤ x ∧ x ≤ 1000000000) (hy : -1000000000 ≤ y ∧ y ≤ 1000000000) : i32 (szf x) = i32 (szf y) ↔ szf x = szf y := i32_eq (szf_ok hx) (szf_ok hy)
set_option maxHeartbeats 4000000 in
set_option maxRecDepth 100000 in
/-- X2_offerFull  -/
theorem con_X2_offerFull (l : Launch) (hfl : l.stackTraces = false) {r lim ra ca g p S : Nat} {z : Nat → Int} {fs past : Int} {M : List BE} (X : St) (hg : Zf X 25 1 = g) (hb : g = 26 ∨ g = 31) (hV : SvR X ra ca z 0) (hfs : Zm X 7 7 = i32 fs) (hfb : bd 100000000 fs) (hB : BH X g M) (hs : Srt M) (hl : M.length ≤ lim) (h0 : 0 < lim) (hl2 : lim ≤ 30) (hr : r < 10) (hp : p < 1125899906842624) (ha : bd 100000000 past) (hS : S < 1024) (hSc : cbl ca S (r + 1) = true) : Con l yX2_offerFull cX2_offerFull 9 none 3 90 0 (fun G => [.ref (G.2.1 25), .ref (G.2.1 7), .int (nI r), .long (i64 p), .int (i32 past), .int (nI S), .int (nI lim)]) X (kV (fun X' => BH X' g (offF lim fs M (past + Ls ra ca z (9 - r) S, p, past, S)) ∧ Fr (fun k => g ≤ k ∧ k ≤ g + 4) X X')) kF := by
  refine con_of (lv := fun G => [(0, .ref (G.2.1 25)), (1, .ref (G.2.1 7)), (2, .int (nI r)), (3, .long (i64 p)), (5, .int (i32 past)), (6, .int (nI S)), (7, .int (nI lim))]) hfl (by decide +kernel) (fun _ => rfl) (fun _ => Nat.le_of_ble_eq_true rfl) ?_
  intro G J JX CE
  have C := CE.b
  have hz := hV.2.2.2.2.2
  have hLb := Ls_bd (ra := ra) (ca := ca) hz (9 - r) S (by omega)
  refine r_iload C dX2_offerFull_0 rfl ?_
  refine r_aload_n C dX2_offerFull_2 rfl rfl ?_
  refine gf_RX2_72 C dX2_offerFull_3 ?_
  refine r_iload_n C dX2_offerFull_6 rfl rfl ?_
  refine r_iconst (v := 1) C dX2_offerFull_7 (by decide) ?_
  refine r_iadd C dX2_offerFull_8 ?_
  refine r_topi (nI_1 r) ?_
  refine r_aald C (r + 1) (by decide) rfl rfl (by omega) dX2_offerFull_9 ?_
  refine r_iload C dX2_offerFull_10 rfl ?_
  refine r_iald C (S) (by omega) (lay14 (by omega)) rfl hS dX2_offerFull_12 ?_
  refine r_topi (show _ = i32 (Ls ra ca z (9 - r) S) by rw [hV.2.2.2.1 (r + 1) S (Nat.zero_le _) (by omega) hS hSc, show 10 - (r + 1) = 9 - r by omega]) ?_
  refine r_iadd C dX2_offerFull_13 ?_
  refine r_topi (i32_add _ _) ?_
  refine r_istore C dX2_offerFull_14 (by decide) ?_
  refine r_iload C dX2_offerFull_16 rfl ?_
  refine cl_RX2_76 C (con_X3_sizeOf l hfl _ (z := past + Ls ra ca z (9 - r) S) (by omega)) dX2_offerFull_18 rfl ⟨Nat.le_of_ble_eq_true rfl, Nat.le_of_ble_eq_true rfl⟩ (by omega) (Nat.le_of_ble_eq_true rfl) (fun r_18 X_18 h_18 => ?_)
  obtain ⟨rfl, rfl⟩ := h_18
  refine r_aload_n C dX2_offerFull_21 rfl rfl ?_
  refine gf_RX2_25 C dX2_offerFull_22 ?_
  refine r_topi hfs ?_
  refine cl_RX2_76 C (con_X3_sizeOf l hfl _ (z := fs) (by omega)) dX2_offerFull_25 rfl ⟨Nat.le_of_ble_eq_true rfl, Nat.le_of_ble_eq_true rfl⟩ (by omega) (Nat.le_of_ble_eq_true rfl) (fun r_25 X_25 h_25 => ?_)
  obtain ⟨rfl, rfl⟩ := h_25
  refine r_icmp_ne (tgt := 47) C dX2_offerFull_28 (by decide) (fun c_28 => ?_) (fun c_28 => ?_)
  · -- 47
    have e1 : ¬ szf (past + Ls ra ca z (9 - r) S) = szf fs := fun q => c_28 ((szf_eq (by omega) (by omega)).mpr q)
    exact r_vret CE rfl dX2_offerFull_47 (Nat.le_of_ble_eq_true rfl) ⟨rfl, by first | (rw [show offF lim fs M (past + Ls ra ca z (9 - r) S, p, past, S) = M from if_neg e1]; exact ⟨hB, Fr.rf⟩) | (rw [show offF lim fs M (past + Ls ra ca z (9 - r) S, p, past, S) = offL lim M (past + Ls ra ca z (9 - r) S, p, past, S) from if_pos e1]; exact h_44b)⟩
  · -- 31
    have e1 : szf (past + Ls ra ca z (9 - r) S) = szf fs := (szf_eq (by omega) (by omega)).mp c_28
    refine r_aload_n C dX2_offerFull_31 rfl rfl ?_
    refine gf_RX2_18 C dX2_offerFull_32 ?_
    refine r_topr hg ?_
    refine r_iload C dX2_offerFull_35 rfl ?_
    refine r_lload_n C dX2_offerFull_37 rfl rfl ?_
    refine r_iload C dX2_offerFull_38 rfl ?_
    refine r_iload C dX2_offerFull_40 rfl ?_
    refine r_iload C dX2_offerFull_42 rfl ?_
    refine cl_RX2_33 C hb (con_X0_offer l hfl _ hb hB hs hl h0 hl2 (e := (past + Ls ra ca z (9 - r) S, p, past, S)) ⟨by show bd _ (past + _); omega, hp, by show bd _ past; omega, hS⟩) dX2_offerFull_44 rfl ⟨Nat.le_of_ble_eq_true rfl, Nat.le_of_ble_eq_true rfl⟩ (by omega) (Nat.le_of_ble_eq_true rfl) (fun X_44 h_44 => ?_)
    have h_44b := h_44
    exact r_vret CE rfl dX2_offerFull_47 (Nat.le_of_ble_eq_true rfl) ⟨rfl, by first | (rw [show offF lim fs M (past + Ls ra ca z (9 - r) S, p, past, S) = M from if_neg e1]; exact ⟨hB, Fr.rf⟩) | (rw [show offF lim fs M (past + Ls ra ca z (9 - r) S, p, past, S) = offL lim M (past + Ls ra ca z (9 - r) S, p, past, S) from if_pos e1]; exact h_44b)⟩
