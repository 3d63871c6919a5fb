theorem agr_R {A : DA} (hok : AOk A) {a b : Nat → Nat} (ha : Fl A a) (hb : Fl A b) (hag : agr a b A.R) : agr a b 10 := fun q hq => by
  rcases Nat.lt_or_ge q A.R with g | g
  · exact hag q g
  · have e : chU A.ra A.ca A.z q = 1024 := chU_out hok.t.1 g
    have k1 := (ha.1 q hq).2.1
    have k2 := (hb.1 q hq).2.1
    rw [e, show (1024 : Nat) = 2 ^ 10 by decide] at k1 k2
    rw [pow_bit.mp k1, pow_bit.mp k2]
theorem Fl_10 {A : DA} (hok : AOk A) {a : Nat → Nat} (ha : Fl A a) {r : Nat} (hr : A.R ≤ r) (hr2 : r < 10) : a r = 10 := by
  have k1 := (ha.1 r hr2).2.1
  rw [chU_out hok.t.1 hr, show (1024 : Nat) = 2 ^ 10 by decide] at k1
  exact pow_bit.mp k1
theorem kv_pre {A : DA} (hok : AOk A) {a : Nat → Nat} : ∀ r, r ≤ 10 → Vd (chU A.ra A.ca A.z) a r → kv r (pre (sc A.z) a r)
  | 0, _, _ => kv_0 0
  | r + 1, hr, h => by
    have ih := kv_pre hok r (by omega) (fun q hq => h q (by omega))
    rw [pre, vof]
    by_cases e : a r = 10
    · rw [if_pos e, Int.add_zero]
      exact kv_up ih
    · have hc := (h r (Nat.lt_succ_self r)).1
      rw [if_neg e, Int.add_comm]
      exact kv_add ih (hok.t.2.2.1 (10 * r + a r) (by omega))
theorem csf_okF {A : DA} (hok : AOk A) {a : Nat → Nat} (ha : Fl A a) : ok32 (csf (pre (sc A.z) a 10)) := by
  obtain ⟨s, c, h1, h2, h3, h4, h5, h6, h7⟩ := kv_s (kv_pre hok 10 (Nat.le_refl _) ha.1) (Nat.le_refl _)
  rw [h3]
  omega
theorem pth_dig {a : Nat → Nat} {r : Nat} : ∀ k, pth a (r + 1 + k) / 16 ^ k % 16 = dg (a r)
  | 0 => by
    have := dg_lt (a r)
    rw [Nat.add_zero, pth, Nat.pow_zero, Nat.div_one]
    omega
  | k + 1 => by
    have ih := pth_dig (a := a) (r := r) k
    have := dg_lt (a (r + 1 + k))
    rw [show r + 1 + (k + 1) = (r + 1 + k) + 1 by omega, pth, Nat.pow_succ', ← Nat.div_div_eq_div_mul, show (16 * pth a (r + 1 + k) + dg (a (r + 1 + k))) / 16 = pth a (r + 1 + k) by omega]
    exact ih
theorem clf_pth {a : Nat → Nat} {r : Nat} (hr : r < 10) (h : a r < 11) : clf (pth a 10) r = cI (a r) := by
  have e := pth_dig (a := a) (r := r) (9 - r)
  rw [show r + 1 + (9 - r) = 10 by omega] at e
  unfold clf cI
  rw [e]
  unfold dg
  by_cases g : a r < 10
  · rw [if_pos g, if_neg (by omega), if_pos g]
  · rw [if_neg g, if_pos rfl, if_neg g]
abbrev EB (A : DA) (a : Nat → Nat) : BE := bEn A.ra A.ca A.z a 10
abbrev AQ (A : DA) (Q : List (Nat → Nat)) : DA := A.lis (Q.map (fun a => EB A a))
theorem MInv.app {X Y : St} {A : DA} {L : List BE} {e : BE} (h : MInv X (A.lis L)) (hl : L.length < 30) (hF : Fr (fun k => k = 37 ∨ 53 ≤ k) X Y) (h1 : Zm Y 37 1 = Zm X 37 1 ∧ Zm Y 37 2 = Zm X 37 2 ∧ Zm Y 37 7 = Zm X 37 7) (h19 : Zm Y 37 19 = nI (L.length + 1)) (h53 : ∀ i, i < L.length → Zv Y 53 i = Zv X 53 i) (h54 : ∀ k, k < 10 * L.length → Zv Y 54 k = Zv X 54 k) (hn : Zv Y 53 L.length = i32 (csf e.1)) (hn2 : ∀ r, r < 10 → Zv Y 54 (10 * L.length + r) = clf e.2.1 r) : MInv Y (A.lis (L ++ [e])) := by
  have hQ : ∀ k, 38 ≤ k → k < 53 → Zv Y k = Zv X k := fun k a b => (hF k (by omega)).2.1
  obtain ⟨⟨b1, b2, b3, b4, b5, b6⟩, h7, hlv, ⟨r1, r2, r3⟩, hok⟩ := h
  refine ⟨⟨h1.1.trans b1, h1.2.1.trans b2, ?_, ?_, ?_, ?_⟩, h1.2.2.trans h7, fun i x hx => ?_, ⟨?_, ?_, fun i x hx => ?_⟩, hok⟩
  · rw [hQ 38 (by decide) (by decide)]; exact b3
  · rw [hQ 39 (by decide) (by decide)]; exact b4
  · rw [hQ 40 (by decide) (by decide)]; exact b5
  · rw [hQ 41 (by decide) (by decide)]; exact b6
  · rw [hQ 42 (by decide) (by decide), hQ 43 (by decide) (by decide), hQ 44 (by decide) (by decide), hQ 45 (by decide) (by decide), hQ 46 (by decide) (by decide), hQ 47 (by decide) (by decide)]
    exact hlv i x hx
  · show Zm Y 37 19 = nI (L ++ [e]).length
    rw [h19, List.length_append]; rfl
  · show (L ++ [e]).length ≤ 30
    rw [List.length_append, List.length_singleton]; omega
  · have hx : (L ++ [e])[i]? = some x := hx
    rcases Nat.lt_or_ge i L.length with g | g
    · rw [List.getElem?_append_left g] at hx
      obtain ⟨k1, k2⟩ := r3 i x hx
      exact ⟨(h53 i g).trans k1, fun r hr => (h54 _ (by omega)).trans (k2 r hr)⟩
    · rw [List.getElem?_append_right g] at hx
      rcases Nat.eq_or_lt_of_le g with g3 | g3
      · subst g3
        rw [Nat.sub_self, List.getElem?_cons_zero] at hx
        cases hx
        exact ⟨hn, hn2⟩
      · rw [List.getElem?_eq_none (by rw [List.length_singleton]; omega)] at hx
        cases hx
theorem MInv.nil {X : St} {A : DA} (h : MInv X A) : MInv (Ym X 37 19 0) (A.lis []) := by
  obtain ⟨b, h7, hlv, _, hok⟩ := h
  exact ⟨b, h7, hlv, ⟨rfl, Nat.zero_le _, fun i e hx => (by cases hx)⟩, hok⟩
theorem zneg_and (a b : Nat) : (nI a ^^^ -1) &&& (nI b ^^^ -1) = nI (a ||| b) ^^^ -1 := by
  rw [← zor]
  apply Int32.toBitVec_inj.1
  rw [Int32.toBitVec_and, Int32.toBitVec_xor, Int32.toBitVec_xor, Int32.toBitVec_xor, Int32.toBitVec_or]
  show (_ ^^^ BitVec.allOnes 32) &&& (_ ^^^ BitVec.allOnes 32) = _ ^^^ BitVec.allOnes 32
  apply BitVec.eq_of_getLsbD_eq
  intro i hi
  simp only [BitVec.getLsbD_and, BitVec.getLsbD_xor, BitVec.getLsbD_or, BitVec.getLsbD_allOnes, hi, decide_true]
  generalize (nI a).toBitVec.getLsbD i = p
  generalize (nI b).toBitVec.getLsbD i = q
  revert p q
  decide
/-- what of a listed part is still to be added, from row r on -/
def pnd (A : DA) (f E : Nat) (a : Nat → Nat) (r : Nat) (b : Nat → Nat) : Prop := PSet A f E a b ∧ agr a b r ∧ ¬ agr a b 10
def Er (f E : Nat) (a : Nat → Nat) (r : Nat) : Nat := (if r = f then E else 0) ||| 2 ^ a r
theorem pnd_s {A : DA} {f E : Nat} {a : Nat → Nat} {r : Nat} (hR : A.R ≤ 10) (hPa : PSet A f E a a) (hf : f ≤ r) (hr : r < A.R) (b : Nat → Nat) : (pnd A f E a r b ↔ (PSet A r (Er f E a r) a b ∨ pnd A f E a (r + 1) b)) ∧ (PSet A r (Er f E a r) a b → ¬ pnd A f E a (r + 1) b) := by
  have hne : PSet A r (Er f E a r) a b → a r ≠ b r := fun k q => by
    have := k.2.2 hr
    rw [Er, Nat.testBit_or, ← q, pow_bit.mpr rfl, Bool.or_true] at this
    cases this
  refine ⟨⟨fun k => ?_, fun k => ?_⟩, fun k1 k2 => hne k1 (k2.2.1 r (Nat.lt_succ_self r))⟩
  · by_cases e : a r = b r
    · refine Or.inr ⟨k.1, fun q hq => ?_, k.2.2⟩
      by_cases e2 : q = r
      · rw [e2]; exact e
      · exact k.2.1 q (by omega)
    · refine Or.inl ⟨k.1.1, k.2.1, fun _ => ?_⟩
      have h2 : (2 ^ a r).testBit (b r) = false := by
        cases h9 : (2 ^ a r).testBit (b r) with
        | false => rfl
        | true => exact absurd (pow_bit.mp h9).symm e
      rw [Er, Nat.testBit_or, h2, Bool.or_false]
      by_cases e3 : r = f
      · subst e3
        rw [if_pos rfl]; exact k.1.2.2 hr
      · rw [if_neg e3, Nat.zero_testBit]
  · rcases k with k | k
    · refine ⟨⟨k.1, fun q hq => k.2.1 q (by omega), fun hfR => ?_⟩, k.2.1, fun q => hne k (q r (by omega))⟩
      have h1 := k.2.2 hr
      rw [Er, Nat.testBit_or, Bool.or_eq_false_iff] at h1
      by_cases e3 : r = f
      · subst e3
        have h2 := h1.1
        rw [if_pos rfl] at h2
        exact h2
      · rw [← k.2.1 f (by omega)]
        exact hPa.2.2 hfR
    · exact ⟨k.1, fun q hq => k.2.1 q (by omega), k.2.2⟩
theorem pnd_R {A : DA} (hok : AOk A) {f E : Nat} {a : Nat → Nat} (hPa : PSet A f E a a) (b : Nat → Nat) : ¬ pnd A f E a A.R b := fun k => k.2.2 (agr_R hok hPa.1 k.1.1 k.2.1)
theorem Er_lt {f E r : Nat} {a : Nat → Nat} (hE : E < 2048) (ha : a r < 11) : Er f E a r < 2048 := by
  have h2 : 2 ^ a r < 2 ^ 11 := Nat.pow_lt_pow_right (by decide) ha
  unfold Er
  split
  · exact Nat.or_lt_two_pow (n := 11) hE h2
  · rw [Nat.zero_or]; exact h2
theorem PH_rmv {X Y : St} {A : DA} {P : List PT} {i n : Nat} {w : PT} (h : PH X A P) (hR : A.R ≤ 10) (hn : P.length = n + 1) (hi : i < P.length) (hw : P[P.length - 1]? = some w) (hY : RM X Y i n 10) : PH Y A (rmv P i w) := by
  obtain ⟨h1, h2, h3, h4, h5, h6, h7⟩ := hY
  have hl : (rmv P i w).length = n := by
    rw [rmv, List.length_take, List.length_set]; omega
  refine ⟨by rw [h3, hl], by rw [hl]; have := h.2.1; omega, fun j p hj => ?_⟩
  obtain ⟨k, k1, k2, k3, k4, k5⟩ := rmv_get hi hw hj
  obtain ⟨j1, j2, j3, j4⟩ := h.2.2 k p k1
  by_cases e : j = i
  · subst e
    have ek : k = n := by have := k3 rfl; omega
    subst ek
    refine ⟨by rw [h4]; exact (if_pos rfl).trans j1, by rw [h5]; exact (if_pos rfl).trans j2, by rw [h6]; exact (if_pos rfl).trans j3, fun r hr => ?_⟩
    rw [h7, if_pos (by omega), show (10 * j + r) % 10 = r by omega]
    exact j4 r hr
  · have ek := k4 e
    subst ek
    refine ⟨by rw [h4]; exact (if_neg e).trans j1, by rw [h5]; exact (if_neg e).trans j2, by rw [h6]; exact (if_neg e).trans j3, fun r hr => ?_⟩
    rw [h7, if_neg (by omega)]
    exact j4 r hr
theorem rmv_len {P : List PT} {i : Nat} {w : PT} : (rmv P i w).length = P.length - 1 := by
  rw [rmv, List.length_take, List.length_set]; omega
theorem addP_len {A : DA} {f E : Nat} {a : Nat → Nat} {P : List PT} : (addP A f E a P).length ≤ P.length + 1 := by
  unfold addP
  split
  · rw [List.length_append, List.length_singleton]; omega
  · omega
theorem inL_nI {n : Nat} (h1 : 1 ≤ n) (h2 : n ≤ 30) : inL (nI n) = true := by
  unfold inL
  rw [nI_toInt (by omega), decide_eq_true (by omega), decide_eq_true (by omega)]; rfl
/-- the list is the class's -/
theorem rank_eq {A : DA} {Q : List (Nat → Nat)} {P : List PT} {n : Nat} (hI : MuI A Q P (fun _ => False)) (hn0 : 0 < n) (hQ : Q.length ≤ n) (hend : Q.length = n ∨ P.length = 0) : Q.map (fun a => EB A a) = rankB A.ra A.ca A.z n (Ls A.ra A.ca A.z 10 A.ca) 10 := by
  obtain ⟨h1, h2, h3, h4, h5, h6, h7⟩ := hI
  have hT := rankB_top (ra := A.ra) (ca := A.ca) (z := A.z) hn0 10 (Nat.le_refl _)
  have hT2 : TopL n (VF A) (rankB A.ra A.ca A.z n (Ls A.ra A.ca A.z 10 A.ca) 10) := TopL_cong hT (fun x => ⟨fun ⟨a, a1, a2, a3⟩ => ⟨a, ⟨a1, by rw [a2, bEn_10] at a3; exact a3⟩, a2⟩, fun ⟨a, a1, a2⟩ => ⟨a, a1.1, a2, by rw [a2, bEn_10]; exact a1.2⟩⟩)
  obtain ⟨g1, g2⟩ := TopL_Grd hT2
  refine Grd_one h6 g1 (by rw [List.length_map]; exact hQ) hT2.2.2.1 (fun hl x hx => ?_) g2
  rw [List.length_map] at hl
  have hP0 : P.length = 0 := by omega
  obtain ⟨b, b1, rfl⟩ := hx
  rcases h7 b b1 with ⟨a, k1, k2⟩ | ⟨i, p, k1, _⟩ | k
  · exact List.mem_map.mpr ⟨a, k1, bEn_ag k2⟩
  · have := (List.getElem?_eq_some_iff.mp k1).1
    omega
  · exact k.elim
/-- a listed assignment is written -/
def CO (X Y : St) (m c : Nat) (a : Nat → Nat) : Prop := Fr (fun k => k = 54 ∨ k = 59) X Y ∧ (∀ q, q < c → Zv Y 59 q = nI (2 ^ a q)) ∧ ∀ k, Zv Y 54 k = if 10 * m ≤ k ∧ k < 10 * m + c then cI (a (k - 10 * m)) else Zv X 54 k
theorem CO.s {X Y : St} {m c : Nat} {a : Nat → Nat} {v w : Int32} (h : CO X Y m c a) (hv : v = nI (2 ^ a c)) (hw : w = cI (a c)) : CO X (Yv (Yv Y 59 (upd (Zv Y 59) c v)) 54 (upd (Zv Y 54) (10 * m + c) w)) m (c + 1) a := by
  refine ⟨(h.1.tr (Fr.v _ (Or.inr rfl))).tr (Fr.v _ (Or.inl rfl)), fun q hq => ?_, fun k => ?_⟩
  · show (if q = c then v else Zv Y 59 q) = _
    by_cases e : q = c
    · rw [if_pos e, e, hv]
    · rw [if_neg e]; exact h.2.1 q (by omega)
  · show (if k = 10 * m + c then w else Zv Y 54 k) = _
    by_cases e : k = 10 * m + c
    · rw [if_pos e, if_pos (by omega), show k - 10 * m = c by omega, hw]
    · rw [if_neg e, h.2.2]
      by_cases g : 10 * m ≤ k ∧ k < 10 * m + c
      · rw [if_pos g, if_pos (by omega)]
      · rw [if_neg g, if_neg (by omega)]
set_option maxHeartbeats 4000000 in
set_option maxRecDepth 100000 in
theorem lp_X6_rank_s {l : Launch} {G : Geo} {J : JT} {JX : JXT} (hfl : l.stackTraces = false) {A : DA} {lim : Nat} {K9 : Option Value → St → Prop} (hok : AOk A) {Y : St} {P : List PT} (hR : Zm Y 37 1 = nI A.R) (hP : PH Y A P) (hFl : ∀ (i : Nat) (p : PT), P[i]? = some p → Fl A p.2.2) (hdi : ∀ (i j : Nat) (p q : PT), P[i]? = some p → P[j]? = some q → i ≠ j → befE (EB A p.2.2) (EB A q.2.2) = true ∨ befE (EB A q.2.2) (EB A p.2.2) = true) (CE : Cl l RX6 cX6_rank 7 (some .int) [] G 7 230 0 K9 kF J JX) :
    (∀ b pb, P[b]? = some pb → (∀ (j : Nat) (q : PT), P[j]? = some q → j ≠ b → befE (EB A pb.2.2) (EB A q.2.2) = true) → J Y 0 103 [(3, .int (nI b)), (0, .ref (G.2.1 37)), (1, .int (nI lim)), (2, .int (i32 (szf (Ls A.ra A.ca A.z 10 A.ca))))] []) → ∀ n p b pb, p + n = P.length → P[b]? = some pb → b < p → (∀ (j : Nat) (q : PT), j < p → P[j]? = some q → j ≠ b → befE (EB A pb.2.2) (EB A q.2.2) = true) → J Y 0 75 [(4, .int (nI p)), (3, .int (nI b)), (0, .ref (G.2.1 37)), (1, .int (nI lim)), (2, .int (i32 (szf (Ls A.ra A.ca A.z 10 A.ca))))] [] := by
  have C := CE.b
  intro hkk
  intro n
  induction n with
  | zero =>
    intro p b pb h hb hbp hmin
    have e0 : p = P.length := by omega
    subst e0
    have hP3 := hP.2.1
    refine r_iload C dX6_rank_75 rfl ?_
    refine r_aload_n C dX6_rank_77 rfl rfl ?_
    refine gf_RX6_165 C dX6_rank_78 ?_
    refine r_topi hP.1 ?_
    refine r_icmp_ge (tgt := 103) C dX6_rank_81 (by decide) (fun c_81 => ?_) (fun c_81 => absurd ((Int32.le_refl _)) c_81)
    refine r_sub C (lv' := [(3, .int (nI b)), (0, .ref (G.2.1 37)), (1, .int (nI lim)), (2, .int (i32 (szf (Ls A.ra A.ca A.z 10 A.ca))))]) ⟨rfl, rfl, rfl, rfl, trivial⟩ ?_
    exact hkk b pb hb (fun j q hj hne => hmin j q (List.getElem?_eq_some_iff.mp hj).1 hj hne)
  | succ n ih =>
    intro p b pb h hb hbp hmin
    have hP3 := hP.2.1
    have hpl : p < P.length := by omega
    have epp : P[p]? = some (P[p]'hpl) := List.getElem?_eq_getElem hpl
    generalize P[p]'hpl = pp at epp
    obtain ⟨u1, u2, u3, u4⟩ := hP.2.2 p pp epp
    obtain ⟨v1, v2, v3, v4⟩ := hP.2.2 b pb hb
    have fp := hFl p pp epp
    have fb := hFl b pb hb
    have hR10 := hok.R
    refine r_iload C dX6_rank_75 rfl ?_
    refine r_aload_n C dX6_rank_77 rfl rfl ?_
    refine gf_RX6_165 C dX6_rank_78 ?_
    refine r_topi hP.1 ?_
    refine r_icmp_ge (tgt := 103) C dX6_rank_81 (by decide) (fun c_81 => absurd c_81 ((nI_ge (a := p) (b := P.length) hpl (by omega)))) (fun c_81 => ?_)
    refine r_aload_n C dX6_rank_84 rfl rfl ?_
    refine r_iload C dX6_rank_85 rfl ?_
    refine r_iload_n C dX6_rank_87 rfl rfl ?_
    refine cl_RX6_175 C (con_X6_isAhead l hfl _ (p := p) (q := b) (R := A.R) (a := pp.2.2) (b := pb.2.2) hR hR10 (by omega) (by omega) u1 v1 (csf_okF hok fp) (csf_okF hok fb) (fun r hr => ⟨(fp.1 r (by omega)).1, u4 r hr⟩) (fun r hr => ⟨(fb.1 r (by omega)).1, v4 r hr⟩)) dX6_rank_88 rfl ⟨Nat.le_of_ble_eq_true rfl, Nat.le_of_ble_eq_true rfl⟩ (by omega) (Nat.le_of_ble_eq_true rfl) (fun r_88 X_88 h_88 => ?_)
    obtain ⟨rfl, rfl⟩ := h_88
    refine r_topi (congrArg bI (ahd_bef hok fp fb)) ?_
    refine r_if_eq (tgt := 97) C dX6_rank_91 (by decide) (fun c_91 => ?_) (fun c_91 => ?_)
    · -- 97
      have e91 := bI_0 c_91
      refine r_iinc (v := _) C dX6_rank_97 rfl (nI_1 p) ?_
      refine r_goto (tgt := 75) C dX6_rank_100 (by decide) ?_
      first
        | (refine r_sub C (lv' := [(4, .int (nI (p + 1))), (3, .int (nI p)), (0, .ref (G.2.1 37)), (1, .int (nI lim)), (2, .int (i32 (szf (Ls A.ra A.ca A.z 10 A.ca))))]) ⟨rfl, rfl, rfl, rfl, rfl, trivial⟩ ?_
           refine ih (p + 1) p pp (by omega) epp (by omega) (fun j q hj hq hne => ?_)
           by_cases ej : j = b
           · subst ej
             rw [hb] at hq
             cases hq
             exact e91
           · exact befE_tr e91 (hmin j q (by omega) hq ej))
        | (refine r_sub C (lv' := [(4, .int (nI (p + 1))), (3, .int (nI b)), (0, .ref (G.2.1 37)), (1, .int (nI lim)), (2, .int (i32 (szf (Ls A.ra A.ca A.z 10 A.ca))))]) ⟨rfl, rfl, rfl, rfl, rfl, trivial⟩ ?_
           refine ih (p + 1) b pb (by omega) hb (by omega) (fun j q hj hq hne => ?_)
           by_cases ej : j = p
           · subst ej
             rw [epp] at hq
             cases hq
             exact (hdi b j pb pp hb epp (by omega)).resolve_right (fun q => by rw [e91] at q; cases q)
           · exact hmin j q (by omega) hq hne)
    · -- 94
      have e91 := bI_1 c_91
      refine r_iload C dX6_rank_94 rfl ?_
      refine r_istore_n C dX6_rank_96 rfl (by decide) ?_
      refine r_iinc (v := _) C dX6_rank_97 rfl (nI_1 p) ?_
      refine r_goto (tgt := 75) C dX6_rank_100 (by decide) ?_
      first
        | (refine r_sub C (lv' := [(4, .int (nI (p + 1))), (3, .int (nI p)), (0, .ref (G.2.1 37)), (1, .int (nI lim)), (2, .int (i32 (szf (Ls A.ra A.ca A.z 10 A.ca))))]) ⟨rfl, rfl, rfl, rfl, rfl, trivial⟩ ?_
           refine ih (p + 1) p pp (by omega) epp (by omega) (fun j q hj hq hne => ?_)
           by_cases ej : j = b
           · subst ej
             rw [hb] at hq
             cases hq
             exact e91
           · exact befE_tr e91 (hmin j q (by omega) hq ej))
        | (refine r_sub C (lv' := [(4, .int (nI (p + 1))), (3, .int (nI b)), (0, .ref (G.2.1 37)), (1, .int (nI lim)), (2, .int (i32 (szf (Ls A.ra A.ca A.z 10 A.ca))))]) ⟨rfl, rfl, rfl, rfl, rfl, trivial⟩ ?_
           refine ih (p + 1) b pb (by omega) hb (by omega) (fun j q hj hq hne => ?_)
           by_cases ej : j = p
           · subst ej
             rw [epp] at hq
             cases hq
             exact (hdi b j pb pp hb epp (by omega)).resolve_right (fun q => by rw [e91] at q; cases q)
           · exact hmin j q (by omega) hq hne)

set_option maxHeartbeats 4000000 in
set_option maxRecDepth 100000 in
theorem lp_X6_rank_c {l : Launch} {G : Geo} {J : JT} {JX : JXT} (hfl : l.stackTraces = false) {A : DA} {lim : Nat} {K9 : Option Value → St → Prop} (hok : AOk A) {Y0 : St} {b m : Nat} {a : Nat → Nat} (hR : Zm Y0 37 1 = nI A.R) (h19 : Zm Y0 37 19 = nI m) (hm : m < 30) (hb : b < 320) (h56 : ∀ r, r < A.R → Zv Y0 56 (10 * b + r) = nI (2 ^ a r)) (hFa : Fl A a) (CE : Cl l RX6 cX6_rank 7 (some .int) [] G 7 230 0 K9 kF J JX) :
    (∀ Y, CO Y0 Y m 10 a → J Y 0 193 [(3, .int (nI b)), (0, .ref (G.2.1 37)), (1, .int (nI lim)), (2, .int (i32 (szf (Ls A.ra A.ca A.z 10 A.ca))))] []) → ∀ n r (Y : St), r + n = 10 → CO Y0 Y m r a → J Y 0 121 [(4, .int (nI r)), (3, .int (nI b)), (0, .ref (G.2.1 37)), (1, .int (nI lim)), (2, .int (i32 (szf (Ls A.ra A.ca A.z 10 A.ca))))] [] := by
  have C := CE.b
  intro hkk
  intro n
  induction n with
  | zero =>
    intro r Y h hY
    have e0 : r = 10 := by omega
    subst e0
    refine r_iload C dX6_rank_121 rfl ?_
    refine r_bipush (v := 10) C dX6_rank_123 (by decide) ?_
    refine r_icmp_ge (tgt := 193) C dX6_rank_125 (by decide) (fun c_125 => ?_) (fun c_125 => absurd ((by decide)) c_125)
    exact r_sub C (lv' := [(3, .int (nI b)), (0, .ref (G.2.1 37)), (1, .int (nI lim)), (2, .int (i32 (szf (Ls A.ra A.ca A.z 10 A.ca))))]) ⟨rfl, rfl, rfl, rfl, trivial⟩ (hkk Y hY)
  | succ n ih =>
    intro r Y h hY
    have hr : r < 10 := by omega
    have hR10 := hok.R
    have har := (hFa.1 r hr).1
    refine r_iload C dX6_rank_121 rfl ?_
    refine r_bipush (v := 10) C dX6_rank_123 (by decide) ?_
    refine r_icmp_ge (tgt := 193) C dX6_rank_125 (by decide) (fun c_125 => absurd c_125 ((nI_ge (a := r) (b := 10) hr (by decide)))) (fun c_125 => ?_)
    refine r_aload_n C dX6_rank_128 rfl rfl ?_
    refine gf_RX6_74 C dX6_rank_129 ?_
    refine r_iload C dX6_rank_132 rfl ?_
    refine r_iload C dX6_rank_134 rfl ?_
    refine r_aload_n C dX6_rank_136 rfl rfl ?_
    refine gf_RX6_81 C dX6_rank_137 ?_
    refine r_topi (show _ = nI A.R by rw [(hY.1 37 (by decide)).1 1]; exact hR) ?_
    refine r_icmp_ge (tgt := 158) C dX6_rank_140 (by decide) (fun c_140 => ?_) (fun c_140 => ?_)
    · -- 158
      have e140 : A.R ≤ r := by
        rcases Nat.lt_or_ge r A.R with g | g
        · exact absurd c_140 (nI_ge (a := r) (b := A.R) g (by omega))
        · exact g
      have har10 := Fl_10 hok hFa e140 hr
      refine r_sipush (v := 1024) C dX6_rank_158 (by decide) ?_
      refine r_topi (show (1024 : Int32) = nI (2 ^ a r) by rw [har10]; decide) ?_
      refine r_iast C (r) (by decide) rfl rfl (by omega) dX6_rank_161 ?_
      refine r_aload_n C dX6_rank_162 rfl rfl ?_
      refine gf_RX6_59 C dX6_rank_163 ?_
      refine r_bipush (v := 10) C dX6_rank_166 (by decide) ?_
      refine r_aload_n C dX6_rank_168 rfl rfl ?_
      refine gf_RX6_172 C dX6_rank_169 ?_
      refine r_topi (show _ = nI m by show Zm Y 37 19 = _; rw [(hY.1 37 (by decide)).1 19]; exact h19) ?_
      refine r_imul C dX6_rank_172 ?_
      refine r_iload C dX6_rank_173 rfl ?_
      refine r_iadd C dX6_rank_175 ?_
      refine r_aload_n C dX6_rank_176 rfl rfl ?_
      refine gf_RX6_74 C dX6_rank_177 ?_
      refine r_iload C dX6_rank_180 rfl ?_
      refine r_iald C (r) (by decide) rfl rfl (by omega) dX6_rank_182 ?_
      refine r_topi (show _ = nI (2 ^ a r) from if_pos rfl) ?_
      refine cl_RX6_134 C (con_X6_columnOfBit l hfl _ (c := a r) har) dX6_rank_183 rfl ⟨Nat.le_of_ble_eq_true rfl, Nat.le_of_ble_eq_true rfl⟩ (by omega) (Nat.le_of_ble_eq_true rfl) (fun r_183 X_183 h_183 => ?_)
      obtain ⟨rfl, rfl⟩ := h_183
      refine r_iast C (10 * m + r) (by decide) rfl (zix' m r) (by omega) dX6_rank_186 ?_
      refine r_iinc (v := _) C dX6_rank_187 rfl (nI_1 r) ?_
      refine r_goto (tgt := 121) C dX6_rank_190 (by decide) ?_
      refine r_sub C (lv' := [(4, .int (nI (r + 1))), (3, .int (nI b)), (0, .ref (G.2.1 37)), (1, .int (nI lim)), (2, .int (i32 (szf (Ls A.ra A.ca A.z 10 A.ca))))]) ⟨rfl, rfl, rfl, rfl, rfl, trivial⟩ ?_
      exact ih (r + 1) _ (by omega) (hY.s rfl rfl)
    · -- 143
      have e140 : r < A.R := by
        rcases Nat.lt_or_ge r A.R with g | g
        · exact g
        · exact absurd ((nI_leI (by omega) (by omega)).mpr g) c_140
      refine r_aload_n C dX6_rank_143 rfl rfl ?_
      refine gf_RX6_65 C dX6_rank_144 ?_
      refine r_bipush (v := 10) C dX6_rank_147 (by decide) ?_
      refine r_iload_n C dX6_rank_149 rfl rfl ?_
      refine r_imul C dX6_rank_150 ?_
      refine r_iload C dX6_rank_151 rfl ?_
      refine r_iadd C dX6_rank_153 ?_
      refine r_iald C (10 * b + r) (by decide) rfl (zix' b r) (by omega) dX6_rank_154 ?_
      refine r_topi (show _ = nI (2 ^ a r) by rw [(hY.1 56 (by decide)).2.1]; exact h56 r e140) ?_
      refine r_goto (tgt := 161) C dX6_rank_155 (by decide) ?_
      refine r_iast C (r) (by decide) rfl rfl (by omega) dX6_rank_161 ?_
      refine r_aload_n C dX6_rank_162 rfl rfl ?_
      refine gf_RX6_59 C dX6_rank_163 ?_
      refine r_bipush (v := 10) C dX6_rank_166 (by decide) ?_
      refine r_aload_n C dX6_rank_168 rfl rfl ?_
      refine gf_RX6_172 C dX6_rank_169 ?_
      refine r_topi (show _ = nI m by show Zm Y 37 19 = _; rw [(hY.1 37 (by decide)).1 19]; exact h19) ?_
      refine r_imul C dX6_rank_172 ?_
      refine r_iload C dX6_rank_173 rfl ?_
      refine r_iadd C dX6_rank_175 ?_
      refine r_aload_n C dX6_rank_176 rfl rfl ?_
      refine gf_RX6_74 C dX6_rank_177 ?_
      refine r_iload C dX6_rank_180 rfl ?_
      refine r_iald C (r) (by decide) rfl rfl (by omega) dX6_rank_182 ?_
      refine r_topi (show _ = nI (2 ^ a r) from if_pos rfl) ?_
      refine cl_RX6_134 C (con_X6_columnOfBit l hfl _ (c := a r) har) dX6_rank_183 rfl ⟨Nat.le_of_ble_eq_true rfl, Nat.le_of_ble_eq_true rfl⟩ (by omega) (Nat.le_of_ble_eq_true rfl) (fun r_183 X_183 h_183 => ?_)
      obtain ⟨rfl, rfl⟩ := h_183
      refine r_iast C (10 * m + r) (by decide) rfl (zix' m r) (by omega) dX6_rank_186 ?_
      refine r_iinc (v := _) C dX6_rank_187 rfl (nI_1 r) ?_
      refine r_goto (tgt := 121) C dX6_rank_190 (by decide) ?_
      refine r_sub C (lv' := [(4, .int (nI (r + 1))), (3, .int (nI b)), (0, .ref (G.2.1 37)), (1, .int (nI lim)), (2, .int (i32 (szf (Ls A.ra A.ca A.z 10 A.ca))))]) ⟨rfl, rfl, rfl, rfl, rfl, trivial⟩ ?_
      exact ih (r + 1) _ (by omega) (hY.s rfl rfl)

set_option maxHeartbeats 4000000 in
set_option maxRecDepth 100000 in
theorem lp_X6_rank_a {l : Launch} {G : Geo} {J : JT} {JX : JXT} (hfl : l.stackTraces = false) {A : DA} {lim : Nat} {K9 : Option Value → St → Prop} (hok : AOk A) {X : St} {Q : List (Nat → Nat)} {a : Nat → Nat} {f E B : Nat} (hB : B ≤ 300) (hE : E < 2048) (hPa : PSet A f E a a) (CE : Cl l RX6 cX6_rank 7 (some .int) [] G 7 230 0 K9 kF J JX) :
    (∀ (Y : St) (P : List PT), MInv Y (AQ A Q) → PH Y A P → MuI A Q P (fun _ => False) → P.length ≤ B → Zm Y 37 0 = 0 → Fr Mp X Y → J Y 0 55 [(0, .ref (G.2.1 37)), (1, .int (nI lim)), (2, .int (i32 (szf (Ls A.ra A.ca A.z 10 A.ca))))] []) → ∀ n r (Y : St) (P : List PT), r + n = A.R → f ≤ r → MInv Y (AQ A Q) → PH Y A P → MuI A Q P (pnd A f E a r) → P.length + n ≤ B → Zm Y 37 0 = 0 → (∀ q, q < 10 → Zv Y 59 q = nI (2 ^ a q)) → Fr Mp X Y → J Y 0 228 [(6, .int (nI r)), (4, .int (nI f)), (5, .int (nI E ^^^ -1)), (0, .ref (G.2.1 37)), (1, .int (nI lim)), (2, .int (i32 (szf (Ls A.ra A.ca A.z 10 A.ca))))] [] := by
  have C := CE.b
  intro hkk
  intro n
  induction n with
  | zero =>
    intro r Y P h hf hM hP hI hl h0 ht hF
    have e0 : r = A.R := by omega
    subst e0
    refine r_iload C dX6_rank_228 rfl ?_
    refine r_aload_n C dX6_rank_230 rfl rfl ?_
    refine gf_RX6_81 C dX6_rank_231 ?_
    refine r_topi (show _ = nI A.R from hM.b.1) ?_
    refine r_icmp_ge (tgt := 278) C dX6_rank_234 (by decide) (fun c_234 => ?_) (fun c_234 => absurd ((Int32.le_refl _)) c_234)
    refine r_goto (tgt := 55) C dX6_rank_278 (by decide) ?_
    exact r_sub C (lv' := [(0, .ref (G.2.1 37)), (1, .int (nI lim)), (2, .int (i32 (szf (Ls A.ra A.ca A.z 10 A.ca))))]) ⟨rfl, rfl, rfl, trivial⟩ (hkk Y P hM hP (MuI_cong hI (fun b => ⟨fun q => pnd_R hok hPa b q, fun q => q.elim⟩)) (by omega) h0 hF)
  | succ n ih =>
    intro r Y P h hf hM hP hI hl h0 ht hF
    have hr : r < A.R := by omega
    have hR10 := hok.R
    have har := (hPa.1.1 r (by omega)).1
    refine r_iload C dX6_rank_228 rfl ?_
    refine r_aload_n C dX6_rank_230 rfl rfl ?_
    refine gf_RX6_81 C dX6_rank_231 ?_
    refine r_topi (show _ = nI A.R from hM.b.1) ?_
    refine r_icmp_ge (tgt := 278) C dX6_rank_234 (by decide) (fun c_234 => absurd c_234 ((nI_ge (a := r) (b := A.R) hr (by omega)))) (fun c_234 => ?_)
    refine r_aload_n C dX6_rank_237 rfl rfl ?_
    refine r_aload_n C dX6_rank_238 rfl rfl ?_
    refine gf_RX6_74 C dX6_rank_239 ?_
    refine r_iconst (v := 0) C dX6_rank_242 (by decide) ?_
    refine r_iload C dX6_rank_243 rfl ?_
    refine r_iload C dX6_rank_245 rfl ?_
    refine r_iload C dX6_rank_247 rfl ?_
    refine r_icmp_ne (tgt := 257) C dX6_rank_249 (by decide) (fun c_249 => ?_) (fun c_249 => ?_)
    · -- 257
      have e249 : ¬ r = f := fun q => c_249 (by rw [q])
      refine r_iconst (v := (-1)) C dX6_rank_257 (by decide) ?_
      refine r_aload_n C dX6_rank_258 rfl rfl ?_
      refine gf_RX6_74 C dX6_rank_259 ?_
      refine r_iload C dX6_rank_262 rfl ?_
      refine r_iald C (r) (by decide) rfl rfl (by omega) dX6_rank_264 ?_
      refine r_topi (ht r (by omega)) ?_
      refine r_iconst (v := (-1)) C dX6_rank_265 (by decide) ?_
      refine r_ixor C dX6_rank_266 ?_
      refine r_iand C dX6_rank_267 ?_
      refine r_topi (show _ = nI (Er f E a r) ^^^ -1 by first | (rw [Er, if_pos e249]; exact zneg_and E (2 ^ a r)) | (rw [Er, if_neg e249]; exact zneg_and 0 (2 ^ a r))) ?_
      refine r_iload_n C dX6_rank_268 rfl rfl ?_
      refine cl_RX6_168 C (con_X6_addPart l hfl _ (A := AQ A Q) (P := P) (f := r) (E := Er f E a r) (a := a) hM hP (by omega) (Nat.le_of_lt hr) (Er_lt hE har) (fun q hq => hPa.1.1 q (Nat.lt_trans hq (by omega))) (fun q hq => ht q (by omega)) rfl) dX6_rank_269 rfl ⟨Nat.le_of_ble_eq_true rfl, Nat.le_of_ble_eq_true rfl⟩ (by omega) (Nat.le_of_ble_eq_true rfl) (fun X_269 h_269 => ?_)
      obtain ⟨w1, w2, w3, w4, w5⟩ := h_269
      have w1 : PH X_269 A (addP A r (Er f E a r) a P) := w1
      have hI2 : MuI A Q (addP A r (Er f E a r) a P) (pnd A f E a (r + 1)) := MuI_add hok hI (Nat.le_of_lt hr) (Er_lt hE har) (fun q hq => hPa.1.1 q (Nat.lt_trans hq (by omega))) (fun b => (pnd_s hR10 hPa hf hr b).1) (fun b => (pnd_s hR10 hPa hf hr b).2)
      have hl2 := addP_len (A := A) (f := r) (E := Er f E a r) (a := a) (P := P)
      refine r_iinc (v := _) C dX6_rank_272 rfl (nI_1 r) ?_
      refine r_goto (tgt := 228) C dX6_rank_275 (by decide) ?_
      refine r_sub C (lv' := [(6, .int (nI (r + 1))), (4, .int (nI f)), (5, .int (nI E ^^^ -1)), (0, .ref (G.2.1 37)), (1, .int (nI lim)), (2, .int (i32 (szf (Ls A.ra A.ca A.z 10 A.ca))))]) ⟨rfl, rfl, rfl, rfl, rfl, rfl, trivial⟩ ?_
      exact ih (r + 1) X_269 _ (by omega) (by omega) w2 w1 hI2 (by omega) (w3.trans h0) (fun q hq => by rw [w4]; exact ht q hq) (hF.tr w5)
    · -- 252
      have e249 : r = f := (nI_eq (by omega) (by omega)).mp c_249
      refine r_iload C dX6_rank_252 rfl ?_
      refine r_goto (tgt := 258) C dX6_rank_254 (by decide) ?_
      refine r_aload_n C dX6_rank_258 rfl rfl ?_
      refine gf_RX6_74 C dX6_rank_259 ?_
      refine r_iload C dX6_rank_262 rfl ?_
      refine r_iald C (r) (by decide) rfl rfl (by omega) dX6_rank_264 ?_
      refine r_topi (ht r (by omega)) ?_
      refine r_iconst (v := (-1)) C dX6_rank_265 (by decide) ?_
      refine r_ixor C dX6_rank_266 ?_
      refine r_iand C dX6_rank_267 ?_
      refine r_topi (show _ = nI (Er f E a r) ^^^ -1 by first | (rw [Er, if_pos e249]; exact zneg_and E (2 ^ a r)) | (rw [Er, if_neg e249]; exact zneg_and 0 (2 ^ a r))) ?_
      refine r_iload_n C dX6_rank_268 rfl rfl ?_
      refine cl_RX6_168 C (con_X6_addPart l hfl _ (A := AQ A Q) (P := P) (f := r) (E := Er f E a r) (a := a) hM hP (by omega) (Nat.le_of_lt hr) (Er_lt hE har) (fun q hq => hPa.1.1 q (Nat.lt_trans hq (by omega))) (fun q hq => ht q (by omega)) rfl) dX6_rank_269 rfl ⟨Nat.le_of_ble_eq_true rfl, Nat.le_of_ble_eq_true rfl⟩ (by omega) (Nat.le_of_ble_eq_true rfl) (fun X_269 h_269 => ?_)
      obtain ⟨w1, w2, w3, w4, w5⟩ := h_269
      have w1 : PH X_269 A (addP A r (Er f E a r) a P) := w1
      have hI2 : MuI A Q (addP A r (Er f E a r) a P) (pnd A f E a (r + 1)) := MuI_add hok hI (Nat.le_of_lt hr) (Er_lt hE har) (fun q hq => hPa.1.1 q (Nat.lt_trans hq (by omega))) (fun b => (pnd_s hR10 hPa hf hr b).1) (fun b => (pnd_s hR10 hPa hf hr b).2)
      have hl2 := addP_len (A := A) (f := r) (E := Er f E a r) (a := a) (P := P)
      refine r_iinc (v := _) C dX6_rank_272 rfl (nI_1 r) ?_
      refine r_goto (tgt := 228) C dX6_rank_275 (by decide) ?_
      refine r_sub C (lv' := [(6, .int (nI (r + 1))), (4, .int (nI f)), (5, .int (nI E ^^^ -1)), (0, .ref (G.2.1 37)), (1, .int (nI lim)), (2, .int (i32 (szf (Ls A.ra A.ca A.z 10 A.ca))))]) ⟨rfl, rfl, rfl, rfl, rfl, rfl, trivial⟩ ?_
      exact ih (r + 1) X_269 _ (by omega) (by omega) w2 w1 hI2 (by omega) (w3.trans h0) (fun q hq => by rw [w4]; exact ht q hq) (hF.tr w5)

set_option maxHeartbeats 4000000 in
set_option maxRecDepth 100000 in
theorem lp_X6_rank {l : Launch} {G : Geo} {J : JT} {JX : JXT} {X : St} (hfl : l.stackTraces = false) {A : DA} {lim : Nat} (hok : AOk A) (hl1 : 1 ≤ lim) (hl30 : lim ≤ 30) (CE : Cl l RX6 cX6_rank 7 (some .int) [] G 7 230 0 (kI (fun r9 X' => (inL (nI lim) = false → r9 = 0 ∧ Zm X' 37 0 = 1 ∧ MInv X' A) ∧ (∀ n, 1 ≤ n → n ≤ 30 → nI lim = nI n → r9 = nI (rankB A.ra A.ca A.z n (Ls A.ra A.ca A.z 10 A.ca) 10).length ∧ Zm X' 37 0 = 0 ∧ MInv X' (A.lis (rankB A.ra A.ca A.z n (Ls A.ra A.ca A.z 10 A.ca) 10))) ∧ Fr Mp X X')) kF J JX) :
    ∀ n (Q : List (Nat → Nat)) (P : List PT) (Y : St), Q.length + n = lim → Q.length ≤ lim → MInv Y (AQ A Q) → PH Y A P → MuI A Q P (fun _ => False) → P.length ≤ 9 * Q.length + 1 → Zm Y 37 0 = 0 → Fr Mp X Y → J Y 0 55 [(0, .ref (G.2.1 37)), (1, .int (nI lim)), (2, .int (i32 (szf (Ls A.ra A.ca A.z 10 A.ca))))] [] := by
  have C := CE.b
  intro n
  induction n with
  | zero =>
    intro Q P Y h hQ0 hM hP hI hl h0 hF
    have hQ : Q.length ≤ lim := by omega
    have hR10 := hok.R
    have h19 : Zm Y 37 19 = nI Q.length := by
      have h9 := hM.r.1
      have h9 : Zm Y 37 19 = nI (Q.map (fun a => EB A a)).length := h9
      rw [List.length_map] at h9
      exact h9
    have eQ : Q.length = lim := by omega
    refine r_aload_n C dX6_rank_55 rfl rfl ?_
    refine gf_RX6_172 C dX6_rank_56 ?_
    refine r_topi h19 ?_
    refine r_iload_n C dX6_rank_59 rfl rfl ?_
    refine r_icmp_ge (tgt := 281) C dX6_rank_60 (by decide) (fun c_60 => ?_) (fun c_60 => absurd ((by rw [eQ]; exact Int32.le_refl _)) c_60)
    refine r_aload_n C dX6_rank_281 rfl rfl ?_
    refine gf_RX6_172 C dX6_rank_282 ?_
    refine r_topi h19 ?_
    exact r_iret CE rfl rfl dX6_rank_285 (Nat.le_of_ble_eq_true rfl) ⟨_, rfl, fun q => (by rw [inL_nI hl1 hl30] at q; cases q), fun n g1 g2 e8 => by
  have e9 := (nI_eq (by omega) (by omega)).mp e8
  subst e9
  have eq := rank_eq hI (by omega) hQ (Or.inl eQ)
  have hM9 := hM
  rw [AQ, eq] at hM9
  exact ⟨by rw [← eq, List.length_map], h0, hM9⟩, hF⟩
  | succ n ih =>
    intro Q P Y h hQ0 hM hP hI hl h0 hF
    have hQ : Q.length ≤ lim := by omega
    have hR10 := hok.R
    have h19 : Zm Y 37 19 = nI Q.length := by
      have h9 := hM.r.1
      have h9 : Zm Y 37 19 = nI (Q.map (fun a => EB A a)).length := h9
      rw [List.length_map] at h9
      exact h9
    have hP3 := hP.2.1
    refine r_aload_n C dX6_rank_55 rfl rfl ?_
    refine gf_RX6_172 C dX6_rank_56 ?_
    refine r_topi h19 ?_
    refine r_iload_n C dX6_rank_59 rfl rfl ?_
    refine r_icmp_ge (tgt := 281) C dX6_rank_60 (by decide) (fun c_60 => absurd c_60 ((fun q => absurd ((nI_leI (by omega) (by omega)).mp q) (by omega)))) (fun c_60 => ?_)
    refine r_aload_n C dX6_rank_63 rfl rfl ?_
    refine gf_RX6_165 C dX6_rank_64 ?_
    refine r_topi hP.1 ?_
    refine r_if_le (tgt := 281) C dX6_rank_67 (by decide) (fun c_67 => ?_) (fun c_67 => ?_)
    · -- 281
      have e67 : P.length = 0 := by
        rcases Nat.eq_zero_or_pos P.length with g | g
        · exact g
        · have := (nI_leI (by omega) (by omega)).mp (show nI P.length ≤ nI 0 from c_67)
          omega
      refine r_aload_n C dX6_rank_281 rfl rfl ?_
      refine gf_RX6_172 C dX6_rank_282 ?_
      refine r_topi h19 ?_
      exact r_iret CE rfl rfl dX6_rank_285 (Nat.le_of_ble_eq_true rfl) ⟨_, rfl, fun q => (by rw [inL_nI hl1 hl30] at q; cases q), fun n g1 g2 e8 => by
  have e9 := (nI_eq (by omega) (by omega)).mp e8
  subst e9
  have eq := rank_eq hI (by omega) hQ (Or.inr e67)
  have hM9 := hM
  rw [AQ, eq] at hM9
  exact ⟨by rw [← eq, List.length_map], h0, hM9⟩, hF⟩
    · -- 70
      have hPn : 0 < P.length := by
        rcases Nat.eq_zero_or_pos P.length with g | g
        · exact absurd (by rw [g]; decide) c_67
        · exact g
      have hQl : Q.length < lim := Nat.lt_of_not_le (fun g => c_60 ((nI_leI (by omega) (by omega)).mpr g))
      have ep0 : P[0]? = some (P[0]'hPn) := List.getElem?_eq_getElem hPn
      generalize P[0]'hPn = p0 at ep0
      have hFlP : ∀ (i : Nat) (p : PT), P[i]? = some p → Fl A p.2.2 := fun i p hi => (hI.1 i p hi).2.2.1.1
      refine r_iconst (v := 0) C dX6_rank_70 (by decide) ?_
      refine r_istore_n C dX6_rank_71 rfl (by decide) ?_
      refine r_iconst (v := 1) C dX6_rank_72 (by decide) ?_
      refine r_istore C dX6_rank_73 (by decide) ?_
      refine r_sub C (lv' := [(4, .int (nI 1)), (3, .int (nI 0)), (0, .ref (G.2.1 37)), (1, .int (nI lim)), (2, .int (i32 (szf (Ls A.ra A.ca A.z 10 A.ca))))]) ⟨rfl, rfl, rfl, rfl, rfl, trivial⟩ ?_
      refine lp_X6_rank_s hfl hok hM.b.1 hP hFlP (fun i j p q hi hj hij => befE_tot (fun e => ?_)) CE (fun b pb hb hmin => ?_) (P.length - 1) 1 0 p0 (by omega) ep0 (by decide) (fun j q hj hq hne => absurd hj (by omega))
      · exact hI.2.1 i j p q hi hj hij q.2.2 (agr_ps (hI.1 i p hi).1 hR10 (pth_eq 10 (fun r hr => ⟨((hFlP i p hi).1 r hr).1, ((hFlP j q hj).1 r hr).1⟩) e) (hI.1 i p hi).2.2.1) (hI.1 j q hj).2.2.1
      have hbl := (List.getElem?_eq_some_iff.mp hb).1
      obtain ⟨v1, v2, v3, v4⟩ := hP.2.2 b pb hb
      have hFlb := hFlP b pb hb
      have hok9 := hI.1 b pb hb
      have epw : P[P.length - 1]? = some (P[P.length - 1]'(by omega)) := List.getElem?_eq_getElem (by omega)
      generalize hpwe : P[P.length - 1]'(by omega) = pw at epw
      have hpw := epw
      have hpf := hok9.1
      refine r_aload_n C dX6_rank_103 rfl rfl ?_
      refine gf_RX6_56 C dX6_rank_104 ?_
      refine r_aload_n C dX6_rank_107 rfl rfl ?_
      refine gf_RX6_172 C dX6_rank_108 ?_
      refine r_topi h19 ?_
      refine r_aload_n C dX6_rank_111 rfl rfl ?_
      refine gf_RX6_62 C dX6_rank_112 ?_
      refine r_iload_n C dX6_rank_115 rfl rfl ?_
      refine r_iald C (b) (by decide) rfl rfl (by omega) dX6_rank_116 ?_
      refine r_topi v1 ?_
      refine r_iast C (Q.length) (by decide) rfl rfl (by omega) dX6_rank_117 ?_
      refine r_iconst (v := 0) C dX6_rank_118 (by decide) ?_
      refine r_istore C dX6_rank_119 (by decide) ?_
      refine r_sub C (lv' := [(4, .int (nI 0)), (3, .int (nI b)), (0, .ref (G.2.1 37)), (1, .int (nI lim)), (2, .int (i32 (szf (Ls A.ra A.ca A.z 10 A.ca))))]) ⟨rfl, rfl, rfl, rfl, rfl, trivial⟩ ?_
      refine lp_X6_rank_c (Y0 := Yv Y 53 (upd (Zv Y 53) Q.length (i32 (csf (pre (sc A.z) pb.2.2 10))))) (b := b) (m := Q.length) (a := pb.2.2) hfl hok hM.b.1 h19 (by omega) (by omega) v4 hFlb CE (fun Y8 hCO => ?_) 10 0 _ (by omega) ⟨Fr.rf, fun q hq => absurd hq (Nat.not_lt_zero q), fun k => by rw [if_neg (by omega)]⟩
      refine r_aload_n C dX6_rank_193 rfl rfl ?_
      refine r_dup C dX6_rank_194 rfl ?_
      refine gf_RX6_172 C dX6_rank_195 ?_
      refine r_topi (show _ = nI Q.length by rw [(hCO.1 37 (by decide)).1 19]; exact h19) ?_
      refine r_iconst (v := 1) C dX6_rank_198 (by decide) ?_
      refine r_iadd C dX6_rank_199 ?_
      refine r_topi (nI_1 _) ?_
      refine pf_RX6_172 C dX6_rank_200 ?_
      refine r_aload_n C dX6_rank_203 rfl rfl ?_
      refine gf_RX6_68 C dX6_rank_204 ?_
      refine r_iload_n C dX6_rank_207 rfl rfl ?_
      refine r_iald C (b) (by decide) rfl rfl (by omega) dX6_rank_208 ?_
      refine r_topi (show _ = nI pb.1 by show Zv Y8 57 b = _; rw [(hCO.1 57 (by decide)).2.1]; exact v2) ?_
      refine r_istore C dX6_rank_209 (by decide) ?_
      refine r_aload_n C dX6_rank_211 rfl rfl ?_
      refine gf_RX6_71 C dX6_rank_212 ?_
      refine r_iload_n C dX6_rank_215 rfl rfl ?_
      refine r_iald C (b) (by decide) rfl rfl (by omega) dX6_rank_216 ?_
      refine r_topi (show _ = nI pb.2.1 ^^^ -1 by show Zv Y8 58 b = _; rw [(hCO.1 58 (by decide)).2.1]; exact v3) ?_
      refine r_istore C dX6_rank_217 (by decide) ?_
      refine r_aload_n C dX6_rank_219 rfl rfl ?_
      refine r_iload_n C dX6_rank_220 rfl rfl ?_
      refine cl_RX6_178 C (con_X6_remove l hfl _ (i := b) (n := P.length - 1) (show Zm Y8 37 24 = _ by rw [(hCO.1 37 (by decide)).1 24, show P.length - 1 + 1 = P.length by omega]; exact hP.1) (by omega) (by omega)) dX6_rank_221 rfl ⟨Nat.le_of_ble_eq_true rfl, Nat.le_of_ble_eq_true rfl⟩ (by omega) (Nat.le_of_ble_eq_true rfl) (fun X_221 h_221 => ?_)
      have hrm : RM (Ym Y8 37 19 (nI (Q.length + 1))) X_221 b (P.length - 1) 10 := h_221
      have hPH8 : PH (Ym Y8 37 19 (nI (Q.length + 1))) A P := (hP.fr (P := fun k => 53 ≤ k ∧ k ≤ 54 ∨ k = 59) (((Fr.v _ (Or.inl ⟨by decide, by decide⟩)).tr (hCO.1.mono (fun k q => by omega)))) ((hCO.1 37 (by decide)).1 24) (fun k k1 k2 q => by omega) : PH Y8 A P)
      have hMx : MInv X_221 (AQ A (Q ++ [pb.2.2])) := by
        rw [AQ, List.map_append, List.map_singleton]
        refine MInv.app (e := EB A pb.2.2) hM (by rw [List.length_map]; omega) ((((Fr.v (P := fun k => k = 37 ∨ 53 ≤ k) _ (by omega)).tr (hCO.1.mono (fun k q => by omega))).tr (Fr.m _ (Or.inl rfl))).tr (hrm.1.mono (fun k q => by have q : k = 37 ∨ (55 ≤ k ∧ k ≤ 58) := q; omega))) ⟨?_, ?_, ?_⟩ ?_ (fun i hi => ?_) (fun k hk => ?_) ?_ (fun r hr => ?_)
        · rw [hrm.2.1 1 (by decide)]; exact (hCO.1 37 (by decide)).1 1
        · rw [hrm.2.1 2 (by decide)]; exact (hCO.1 37 (by decide)).1 2
        · rw [hrm.2.1 7 (by decide)]; exact (hCO.1 37 (by decide)).1 7
        · rw [hrm.2.1 19 (by decide), List.length_map]; rfl
        · rw [List.length_map] at hi
          rw [(hrm.1 53 (by omega)).2.1]
          show Zv Y8 53 i = _
          rw [(hCO.1 53 (by decide)).2.1]; exact if_neg (by omega)
        · rw [List.length_map] at hk
          rw [(hrm.1 54 (by omega)).2.1]
          show Zv Y8 54 k = _
          rw [hCO.2.2, if_neg (by omega)]; rfl
        · rw [(hrm.1 53 (by omega)).2.1, List.length_map]
          show Zv Y8 53 Q.length = _
          rw [(hCO.1 53 (by decide)).2.1, show (EB A pb.2.2).1 = pre (sc A.z) pb.2.2 10 from bEn_10]; exact if_pos rfl
        · rw [(hrm.1 54 (by omega)).2.1, List.length_map]
          show Zv Y8 54 _ = _
          rw [hCO.2.2, if_pos (by omega), show 10 * Q.length + r - 10 * Q.length = r by omega]
          exact (clf_pth hr (hFlb.1 r hr).1).symm
      have m1 := hMx
      have m5 : Zm X_221 37 0 = 0 := (hrm.2.1 0 (by decide)).trans (((hCO.1 37 (by decide)).1 0).trans h0)
      have m6 : Fr Mp X X_221 := (((hF.tr (Fr.v _ (by decide))).tr (hCO.1.mono (fun k q => by show 37 ≤ k; omega))).tr (Fr.m _ (by decide))).tr (hrm.1.mono (fun k q => by have q : k = 37 ∨ (55 ≤ k ∧ k ≤ 58) := q; show 37 ≤ k; omega))
      refine r_iload C dX6_rank_224 rfl ?_
      refine r_istore C dX6_rank_226 (by decide) ?_
      refine r_sub C (lv' := [(6, .int (nI pb.1)), (4, .int (nI pb.1)), (5, .int (nI pb.2.1 ^^^ -1)), (0, .ref (G.2.1 37)), (1, .int (nI lim)), (2, .int (i32 (szf (Ls A.ra A.ca A.z 10 A.ca))))]) ⟨rfl, rfl, rfl, rfl, rfl, rfl, trivial⟩ ?_
      refine lp_X6_rank_a (X := X) (Q := Q ++ [pb.2.2]) (a := pb.2.2) (f := pb.1) (E := pb.2.1) (B := 9 * Q.length + 10) hfl hok (by omega) hok9.2.1 hok9.2.2.1 CE (fun Y2 P2 m1 m2 m3 m4 m5 m6 => ?_) (A.R - pb.1) pb.1 X_221 (rmv P b pw) (by omega) (Nat.le_refl _) m1 (PH_rmv hPH8 hR10 (by omega) hbl hpw hrm) (MuI_cong (MuI_pick hok hI hb hpw hmin) (fun b9 => ⟨fun q => ⟨q.1, q.1.2.1, q.2⟩, fun q => ⟨q.1, q.2.2⟩⟩)) (by rw [rmv_len]; omega) m5 (fun q hq => by rw [(hrm.1 59 (by omega)).2.1]; exact hCO.2.1 q hq) m6
      exact ih (Q ++ [pb.2.2]) P2 Y2 (by rw [List.length_append, List.length_singleton]; omega) (by rw [List.length_append, List.length_singleton]; omega) m1 m2 m3 (by rw [List.length_append, List.length_singleton]; omega) m5 m6

set_option maxHeartbeats 4000000 in
set_option maxRecDepth 100000 in
/-- X6_rank  -/
theorem con_X6_rank (l : Launch) (hfl : l.stackTraces = false) {A : DA} {x : Int32} (X : St) (hM : MInv X A) : Con l yX6_rank cX6_rank 7 (some (FieldType.int)) 7 230 0 (fun G => [.ref (G.2.1 37), .int x]) X (kI (fun r9 X' => (inL x = false → r9 = 0 ∧ Zm X' 37 0 = 1 ∧ MInv X' A) ∧ (∀ n, 1 ≤ n → n ≤ 30 → x = nI n → r9 = nI (rankB A.ra A.ca A.z n (Ls A.ra A.ca A.z 10 A.ca) 10).length ∧ Zm X' 37 0 = 0 ∧ MInv X' (A.lis (rankB A.ra A.ca A.z n (Ls A.ra A.ca A.z 10 A.ca) 10))) ∧ Fr Mp X X')) kF := by
  refine con_of (lv := fun G => [(0, .ref (G.2.1 37)), (1, .int x)]) hfl (by decide +kernel) (fun _ => rfl) (fun _ => Nat.le_of_ble_eq_true rfl) ?_
  intro G J JX CE
  have C := CE.b
  have hR10 := hM.ok.R
  have hC10 := hM.ok.C
  refine r_aload_n C dX6_rank_0 rfl rfl ?_
  refine r_iconst (v := 0) C dX6_rank_1 (by decide) ?_
  refine pf_RX6_77 C dX6_rank_2 ?_
  refine r_iload_n C dX6_rank_5 rfl rfl ?_
  refine r_iconst (v := 1) C dX6_rank_6 (by decide) ?_
  refine r_icmp_lt (tgt := 16) C dX6_rank_7 (by decide) (fun c_7 => ?_) (fun c_7 => ?_)
  · -- 16
    have ei := inL_0 (Or.inl c_7)
    refine r_aload_n C dX6_rank_16 rfl rfl ?_
    refine r_iconst (v := 1) C dX6_rank_17 (by decide) ?_
    refine cl_RX6_98 C (con_X6_fail l hfl _) dX6_rank_18 rfl ⟨Nat.le_of_ble_eq_true rfl, Nat.le_of_ble_eq_true rfl⟩ (by omega) (Nat.le_of_ble_eq_true rfl) (fun r_18 X_18 h_18 => ?_)
    obtain ⟨rfl, rfl⟩ := h_18
    exact r_iret CE rfl rfl dX6_rank_21 (Nat.le_of_ble_eq_true rfl) ⟨_, rfl, fun _ => ⟨rfl, rfl, hM⟩, fun n g1 g2 e8 => (by rw [e8, inL_nI g1 g2] at ei; cases ei), Fr.t2 _ _⟩
  · -- 10
    refine r_iload_n C dX6_rank_10 rfl rfl ?_
    refine r_bipush (v := 30) C dX6_rank_11 (by decide) ?_
    refine r_icmp_le (tgt := 22) C dX6_rank_13 (by decide) (fun c_13 => ?_) (fun c_13 => ?_)
    · -- 22
      obtain ⟨lim, hl1, hl30, rfl⟩ := inL_1 c_7 c_13
      refine r_aload_n C dX6_rank_22 rfl rfl ?_
      refine cl_RX6_146 C (con_X6_solve l hfl (Ym X 37 0 0) hM) dX6_rank_23 rfl ⟨Nat.le_of_ble_eq_true rfl, Nat.le_of_ble_eq_true rfl⟩ (by omega) (Nat.le_of_ble_eq_true rfl) (fun X_23 h_23 => ?_)
      obtain ⟨hk, hT, hM2, hF⟩ := h_23
      obtain ⟨t1, t2, t3⟩ := tpS hT hM.ok
      have z0 : Zm X_23 37 0 = 0 := (hF 37 (by omega)).1 0
      have hF0 : Fr Mp X X_23 := (Fr.t1 0).tr (hF.mono (fun k q => by have q : 48 ≤ k ∧ k ≤ 51 := q; show 37 ≤ k; omega))
      refine r_aload_n C dX6_rank_26 rfl rfl ?_
      refine gf_RX6_41 C dX6_rank_27 ?_
      refine r_iconst (v := 0) C dX6_rank_30 (by decide) ?_
      refine r_iald C (0) (by decide) rfl rfl (by decide) dX6_rank_31 ?_
      refine r_topi t1 ?_
      refine r_istore_n C dX6_rank_32 rfl (by decide) ?_
      refine r_aload_n C dX6_rank_33 rfl rfl ?_
      refine r_iconst (v := 0) C dX6_rank_34 (by decide) ?_
      refine pf_RX6_165 C dX6_rank_35 ?_
      refine r_aload_n C dX6_rank_38 rfl rfl ?_
      refine r_aload_n C dX6_rank_39 rfl rfl ?_
      refine gf_RX6_74 C dX6_rank_40 ?_
      refine r_iconst (v := 0) C dX6_rank_43 (by decide) ?_
      refine r_iconst (v := 0) C dX6_rank_44 (by decide) ?_
      refine r_iconst (v := (-1)) C dX6_rank_45 (by decide) ?_
      refine r_iload_n C dX6_rank_46 rfl rfl ?_
      refine cl_RX6_168 C (con_X6_addPart l hfl (Ym X_23 37 24 0) (A := A) (P := []) (f := 0) (E := 0) (a := fun _ => 0) hM2 ⟨rfl, Nat.zero_le _, fun i p hi => (by cases hi)⟩ (by decide) (Nat.zero_le _) (by decide) (fun q hq => absurd hq (Nat.not_lt_zero q)) (fun q hq => absurd hq (Nat.not_lt_zero q)) (by decide)) dX6_rank_47 rfl ⟨Nat.le_of_ble_eq_true rfl, Nat.le_of_ble_eq_true rfl⟩ (by omega) (Nat.le_of_ble_eq_true rfl) (fun X_47 h_47 => ?_)
      obtain ⟨w1, w2, w3, w4, w5⟩ := h_47
      refine r_aload_n C dX6_rank_50 rfl rfl ?_
      refine r_iconst (v := 0) C dX6_rank_51 (by decide) ?_
      refine pf_RX6_172 C dX6_rank_52 ?_
      refine r_sub C (lv' := [(0, .ref (G.2.1 37)), (1, .int (nI lim)), (2, .int (i32 (szf (Ls A.ra A.ca A.z 10 A.ca))))]) ⟨rfl, rfl, rfl, trivial⟩ ?_
      exact lp_X6_rank hfl hM.ok hl1 hl30 CE lim [] (addP A 0 0 (fun _ => 0) []) (Ym X_47 37 19 0) (by rw [List.length_nil]; omega) (Nat.zero_le _) w2.nil w1 (MuI_add hM.ok (MuI_0 A) (Nat.zero_le _) (by decide) (fun q hq => absurd hq (Nat.not_lt_zero q)) (fun b => ⟨Or.inl, fun q => q.elim id (fun q => q.elim)⟩) (fun _ _ q => q)) addP_len (w3.trans z0) ((hF0.tr (Fr.m _ (by decide))).tr (w5.tr (Fr.m _ (by decide))))
    · -- 16
      have ei := inL_0 (Or.inr c_13)
      refine r_aload_n C dX6_rank_16 rfl rfl ?_
      refine r_iconst (v := 1) C dX6_rank_17 (by decide) ?_
      refine cl_RX6_98 C (con_X6_fail l hfl _) dX6_rank_18 rfl ⟨Nat.le_of_ble_eq_true rfl, Nat.le_of_ble_eq_true rfl⟩ (by omega) (Nat.le_of_ble_eq_true rfl) (fun r_18 X_18 h_18 => ?_)
      obtain ⟨rfl, rfl⟩ := h_18
      exact r_iret CE rfl rfl dX6_rank_21 (Nat.le_of_ble_eq_true rfl) ⟨_, rfl, fun _ => ⟨rfl, rfl, hM⟩, fun n g1 g2 e8 => (by rw [e8, inL_nI g1 g2] at ei; cases ei), Fr.t2 _ _⟩
