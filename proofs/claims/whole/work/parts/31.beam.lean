/-! ===== assignments as functions of the row; the class's list of the best ===== -/
def tkn (a : Nat → Nat) : Nat → Nat
  | 0 => 0
  | r + 1 => tof (tkn a r) (a r)
def pre (s : Nat → Nat → Int) (a : Nat → Nat) : Nat → Int
  | 0 => 0
  | r + 1 => pre s a r + vof (s r) (a r)
def dg (c : Nat) : Nat := if c < 10 then c else 15
def pth (a : Nat → Nat) : Nat → Nat
  | 0 => 0
  | r + 1 => 16 * pth a r + dg (a r)
/-- the first n rows' choices are allowed -/
def Vd (ch : Nat → Nat) (a : Nat → Nat) (n : Nat) : Prop := ∀ r, r < n → a r < 11 ∧ alb (ch r) (tkn a r) (a r)
def agr (a b : Nat → Nat) (n : Nat) : Prop := ∀ r, r < n → a r = b r
theorem agr_tkn {a b : Nat → Nat} : ∀ n, agr a b n → tkn a n = tkn b n
  | 0, _ => rfl
  | n + 1, h => by rw [tkn, tkn, agr_tkn n (fun r hr => h r (by omega)), h n (Nat.lt_succ_self n)]
theorem agr_pre {s : Nat → Nat → Int} {a b : Nat → Nat} : ∀ n, agr a b n → pre s a n = pre s b n
  | 0, _ => rfl
  | n + 1, h => by rw [pre, pre, agr_pre n (fun r hr => h r (by omega)), h n (Nat.lt_succ_self n)]
theorem agr_pth {a b : Nat → Nat} : ∀ n, agr a b n → pth a n = pth b n
  | 0, _ => rfl
  | n + 1, h => by rw [pth, pth, agr_pth n (fun r hr => h r (by omega)), h n (Nat.lt_succ_self n)]
theorem agr_Vd {ch : Nat → Nat} {a b : Nat → Nat} {n : Nat} (h : agr a b n) (hv : Vd ch a n) : Vd ch b n := fun r hr => by
  have := hv r hr
  rw [h r hr, agr_tkn r (fun q hq => h q (by omega))] at this
  exact this
theorem dg_lt (c : Nat) : dg c < 16 := by
  unfold dg
  split <;> omega
theorem dg_inj {c d : Nat} (hc : c < 11) (hd : d < 11) (h : dg c = dg d) : c = d := by
  unfold dg at h
  split at h <;> split at h <;> omega
theorem dg_mono {c d : Nat} (hd : d < 11) (h : c < d) : dg c < dg d := by
  unfold dg
  split <;> split <;> omega
theorem pth_eq {a b : Nat → Nat} : ∀ n, (∀ r, r < n → a r < 11 ∧ b r < 11) → pth a n = pth b n → agr a b n
  | 0, _, _ => fun r hr => absurd hr (Nat.not_lt_zero r)
  | n + 1, hl, h => by
    rw [pth, pth] at h
    have h1 := dg_lt (a n)
    have h2 := dg_lt (b n)
    have ih := pth_eq n (fun r hr => hl r (by omega)) (by omega)
    intro r hr
    by_cases e : r = n
    · subst e
      exact dg_inj (hl r (by omega)).1 (hl r (by omega)).2 (by omega)
    · exact ih r (by omega)
/-- the first row that differs decides -/
theorem pth_lt {a b : Nat → Nat} {r : Nat} (h : agr a b r) (hlt : a r < b r) (hb : b r < 11) : ∀ k, pth a (r + 1 + k) < pth b (r + 1 + k)
  | 0 => by
    have := dg_mono hb hlt
    rw [Nat.add_zero, pth, pth, agr_pth r h]
    omega
  | k + 1 => by
    have ih := pth_lt h hlt hb k
    have h1 := dg_lt (a (r + 1 + k))
    rw [show r + 1 + (k + 1) = (r + 1 + k) + 1 by omega, pth, pth]
    omega
/-- a beginning: the first r rows' choices -/
def bEn (ra ca : Nat) (z : Nat → Int) (a : Nat → Nat) (r : Nat) : BE := (pre (sc z) a r + Ls ra ca z (10 - r) (andn ca (tkn a r)), pth a r, pre (sc z) a r, andn ca (tkn a r))
def fof (F c : Nat) : Nat := if c = 10 then F else cb F c
def pcd (ra ca : Nat) (z : Nat → Int) (r : Nat) (e : BE) (c : Nat) : BE := (e.2.2.1 + vof (sc z r) c + Ls ra ca z (9 - r) (fof e.2.2.2 c), 16 * e.2.1 + dg c, e.2.2.1 + vof (sc z r) c, fof e.2.2.2 c)
def okc (ra ca : Nat) (z : Nat → Int) (r : Nat) (e : BE) (c : Nat) : Prop := c = 10 ∨ (c < 10 ∧ (us ra ca z r &&& e.2.2.2).testBit c = true)
theorem andn_tof (ca T c : Nat) : andn ca (tof T c) = fof (andn ca T) c := by
  unfold tof fof
  split
  · rfl
  · exact andn_sb
theorem bEn_s {ra ca : Nat} {z : Nat → Int} {a : Nat → Nat} {r : Nat} : bEn ra ca z a (r + 1) = pcd ra ca z r (bEn ra ca z a r) (a r) := by
  unfold bEn pcd
  rw [tkn, pre, pth, andn_tof, show 10 - (r + 1) = 9 - r by omega]
theorem bEn_ag {ra ca : Nat} {z : Nat → Int} {a b : Nat → Nat} {r : Nat} (h : agr a b r) : bEn ra ca z a r = bEn ra ca z b r := by
  unfold bEn
  rw [agr_tkn r h, agr_pre r h, agr_pth r h]
theorem okc_alb {ra ca : Nat} {z : Nat → Int} {a : Nat → Nat} {r c : Nat} : (c < 11 ∧ alb (chU ra ca z r) (tkn a r) c) ↔ okc ra ca z r (bEn ra ca z a r) c := by
  show _ ↔ (c = 10 ∨ (c < 10 ∧ (us ra ca z r &&& andn ca (tkn a r)).testBit c = true))
  constructor
  · rintro ⟨h1, h2, h3⟩
    by_cases e : c = 10
    · exact Or.inl e
    · have hc : c < 10 := by omega
      rw [chU_bit hc] at h2
      refine Or.inr ⟨hc, ?_⟩
      rw [Nat.testBit_and, andn_bit, h2, us_ca hc h2, h3.resolve_left e]; rfl
  · rintro (rfl | ⟨hc, h⟩)
    · exact ⟨by decide, chU_10 _ _ _ _, Or.inl rfl⟩
    · rw [Nat.testBit_and, andn_bit, Bool.and_eq_true, Bool.and_eq_true, Bool.not_eq_true'] at h
      exact ⟨by omega, by rw [chU_bit hc]; exact h.1, Or.inr h.2.2⟩
theorem szf_anti {x y : Int} (h : x ≤ y) : szf y ≤ szf x := by
  unfold szf
  exact Int.tdiv_le_tdiv (by decide) (by omega)
/-- a beginning's score is its best choice's -/
theorem pcd_ge {ra ca : Nat} {z : Nat → Int} {r : Nat} (hr : r < 10) {e : BE} {c : Nat} (hs : e.1 = e.2.2.1 + Ls ra ca z (10 - r) e.2.2.2) (h : okc ra ca z r e c) : e.1 ≤ (pcd ra ca z r e c).1 := by
  have hL : Ls ra ca z (10 - r) e.2.2.2 = rmf (us ra ca z r &&& e.2.2.2) (sc z r) (Ls ra ca z (9 - r)) e.2.2.2 10 := by
    rw [show 10 - r = (9 - r) + 1 by omega, Ls, show 9 - (9 - r) = r by omega]; rfl
  show e.1 ≤ e.2.2.1 + vof (sc z r) c + Ls ra ca z (9 - r) (fof e.2.2.2 c)
  rcases h with rfl | ⟨hc, hb⟩
  · have := rmf_le0 (m := us ra ca z r &&& e.2.2.2) (s := sc z r) (nx := Ls ra ca z (9 - r)) (S := e.2.2.2) 10
    rw [vof, fof, if_pos rfl, if_pos rfl]
    omega
  · have := rmf_lec (s := sc z r) (nx := Ls ra ca z (9 - r)) (S := e.2.2.2) 10 c hc hb
    rw [vof, fof, if_neg (by omega), if_neg (by omega)]
    omega
theorem pcd_ex {ra ca : Nat} {z : Nat → Int} {r : Nat} (hr : r < 10) {e : BE} (hs : e.1 = e.2.2.1 + Ls ra ca z (10 - r) e.2.2.2) : ∃ c, okc ra ca z r e c ∧ (pcd ra ca z r e c).1 = e.1 := by
  have hL : Ls ra ca z (10 - r) e.2.2.2 = rmf (us ra ca z r &&& e.2.2.2) (sc z r) (Ls ra ca z (9 - r)) e.2.2.2 10 := by
    rw [show 10 - r = (9 - r) + 1 by omega, Ls, show 9 - (9 - r) = r by omega]; rfl
  rcases rmf_at (m := us ra ca z r &&& e.2.2.2) (s := sc z r) (nx := Ls ra ca z (9 - r)) (S := e.2.2.2) 10 with g | ⟨c, hc, hb, g⟩
  · refine ⟨10, Or.inl rfl, ?_⟩
    show e.2.2.1 + vof (sc z r) 10 + Ls ra ca z (9 - r) (fof e.2.2.2 10) = e.1
    rw [vof, fof, if_pos rfl, if_pos rfl]
    omega
  · refine ⟨c, Or.inr ⟨hc, hb⟩, ?_⟩
    show e.2.2.1 + vof (sc z r) c + Ls ra ca z (9 - r) (fof e.2.2.2 c) = e.1
    rw [vof, fof, if_neg (by omega), if_neg (by omega)]
    omega
/-- the beginnings up to row r that lead to full assignments -/
def VB (ra ca : Nat) (z : Nat → Int) (fs : Int) (r : Nat) (e : BE) : Prop := ∃ a, Vd (chU ra ca z) a r ∧ e = bEn ra ca z a r ∧ szf e.1 = szf fs
theorem VB_one {ra ca : Nat} {z : Nat → Int} {fs : Int} {r : Nat} {e e' : BE} (h : VB ra ca z fs r e) (h' : VB ra ca z fs r e') (hp : e.2.1 = e'.2.1) : e = e' := by
  obtain ⟨a, a1, rfl, _⟩ := h
  obtain ⟨b, b1, rfl, _⟩ := h'
  exact bEn_ag (pth_eq r (fun q hq => ⟨(a1 q hq).1, (b1 q hq).1⟩) hp)
theorem Ls_min {ra ca : Nat} {z : Nat → Int} {a : Nat → Nat} : ∀ r, r ≤ 10 → Vd (chU ra ca z) a r → Ls ra ca z 10 ca ≤ (bEn ra ca z a r).1
  | 0, _, _ => by
    show _ ≤ 0 + Ls ra ca z 10 (andn ca 0)
    rw [andn_0]
    omega
  | r + 1, hr, h => by
    have ih := Ls_min r (by omega) (fun q hq => h q (by omega))
    have h1 := pcd_ge (ra := ra) (ca := ca) (z := z) (r := r) (by omega) (e := bEn ra ca z a r) rfl (okc_alb.mp (h r (Nat.lt_succ_self r)))
    rw [bEn_s]
    omega
/-- a choice more -/
theorem Vd_more {ch : Nat → Nat} {a : Nat → Nat} {r c : Nat} (h : Vd ch a r) (hc : c < 11 ∧ alb (ch r) (tkn a r) c) : ∃ b, agr a b r ∧ b r = c ∧ Vd ch b (r + 1) := by
  have hag : agr a (fun q => if q = r then c else a q) r := fun q hq => (if_neg (by omega)).symm
  have he : (fun q => if q = r then c else a q) r = c := if_pos rfl
  refine ⟨_, hag, he, fun q hq => ?_⟩
  by_cases e : q = r
  · subst e
    rw [he, ← agr_tkn q hag]
    exact hc
  · exact agr_Vd hag h q (by omega)
/-- what the first n of a list offer -/
def Wn (ra ca : Nat) (z : Nat → Int) (fs : Int) (r : Nat) (L : List BE) (n : Nat) (x : BE) : Prop := ∃ (i : Nat) (e : BE) (c : Nat), i < n ∧ L[i]? = some e ∧ okc ra ca z r e c ∧ x = pcd ra ca z r e c ∧ szf x.1 = szf fs
def Wc (ra ca : Nat) (z : Nat → Int) (fs : Int) (r : Nat) (e : BE) (m : Nat) (x : BE) : Prop := ∃ c, (c = 10 ∨ c < m) ∧ okc ra ca z r e c ∧ x = pcd ra ca z r e c ∧ szf x.1 = szf fs
theorem cand_p {ra ca : Nat} {z : Nat → Int} {r c : Nat} {e : BE} (hc : c < 10) : cand ra ca z r e c = pcd ra ca z r e c := by
  unfold cand pcd
  rw [vof, fof, dg, if_neg (by omega), if_neg (by omega), if_pos hc]
theorem cand0_p {ra ca : Nat} {z : Nat → Int} {r : Nat} {e : BE} : cand0 ra ca z r e = pcd ra ca z r e 10 := by
  unfold cand0 pcd
  rw [vof, fof, dg, if_pos rfl, if_pos rfl, if_neg (by decide), Int.add_zero]
theorem extC_top {ra ca : Nat} {z : Nat → Int} {fs : Int} {lim r : Nat} {e : BE} {W : BE → Prop} {M : List BE} (h : TopL lim W M) (hp : ∀ x, W x → x.2.1 / 16 ≠ e.2.1) : ∀ m, m ≤ 10 → TopL lim (fun x => W x ∨ Wc ra ca z fs r e m x) (extC ra ca z lim fs r e M m)
  | 0, _ => by
    have hq : ∀ c, (pcd ra ca z r e c).2.1 / 16 = e.2.1 := fun c => by
      have := dg_lt c
      show (16 * e.2.1 + dg c) / 16 = e.2.1
      omega
    rw [extC, cand0_p]
    refine TopL_cong (TopL_offF h (fun _ x hx q => hp x hx (by rw [q]; exact hq 10))) (fun x => ⟨fun q => q.elim Or.inl (fun q => Or.inr ⟨10, Or.inl rfl, Or.inl rfl, q.1, by rw [q.1]; exact q.2⟩), fun q => q.elim Or.inl (fun ⟨c, h1, _, h3, h4⟩ => Or.inr ?_)⟩)
    have hc : c = 10 := h1.resolve_right (Nat.not_lt_zero c)
    subst hc
    exact ⟨h3, by rw [← h3]; exact h4⟩
  | m + 1, hm => by
    have ih := extC_top (ra := ra) (ca := ca) (z := z) (fs := fs) (r := r) h hp m (by omega)
    have hq : ∀ c, (pcd ra ca z r e c).2.1 = 16 * e.2.1 + dg c := fun c => rfl
    rw [extC]
    split
    · rename_i hb
      rw [cand_p (by omega)]
      refine TopL_cong (TopL_offF ih (fun _ x hx q => ?_)) (fun x => ⟨fun q => ?_, fun q => ?_⟩)
      · have hm2 := dg_lt m
        rcases hx with hx | ⟨c, h1, _, h3, _⟩
        · refine hp x hx ?_
          rw [q, hq]
          omega
        · rw [h3, hq, hq] at q
          have := dg_inj (c := c) (d := m) (by omega) (by omega) (by omega)
          omega
      · rcases q with (q | ⟨c, h1, h2, h3, h4⟩) | ⟨q1, q2⟩
        · exact Or.inl q
        · exact Or.inr ⟨c, by omega, h2, h3, h4⟩
        · exact Or.inr ⟨m, Or.inr (Nat.lt_succ_self m), Or.inr ⟨by omega, hb⟩, q1, by rw [q1]; exact q2⟩
      · rcases q with q | ⟨c, h1, h2, h3, h4⟩
        · exact Or.inl (Or.inl q)
        · by_cases g : c = m
          · subst g
            exact Or.inr ⟨h3, by rw [← h3]; exact h4⟩
          · exact Or.inl (Or.inr ⟨c, by omega, h2, h3, h4⟩)
    · rename_i hb
      refine TopL_cong ih (fun x => ⟨fun q => ?_, fun q => ?_⟩)
      · rcases q with q | ⟨c, h1, h2, h3, h4⟩
        · exact Or.inl q
        · exact Or.inr ⟨c, by omega, h2, h3, h4⟩
      · rcases q with q | ⟨c, h1, h2, h3, h4⟩
        · exact Or.inl q
        · by_cases g : c = m
          · subst g
            rcases h2 with h2 | h2
            · omega
            · exact absurd h2.2 hb
          · exact Or.inr ⟨c, by omega, h2, h3, h4⟩
theorem stepB_top {ra ca : Nat} {z : Nat → Int} {fs : Int} {lim r : Nat} {L : List BE} (hd : ∀ (i j : Nat) (x y : BE), L[i]? = some x → L[j]? = some y → i ≠ j → x.2.1 ≠ y.2.1) : ∀ n, n ≤ L.length → TopL lim (Wn ra ca z fs r L n) (stepB ra ca z lim fs r L n)
  | 0, _ => ⟨List.Pairwise.nil, fun e he => (by cases he), Nat.zero_le _, fun e ⟨i, _, _, h, _⟩ _ => absurd h (Nat.not_lt_zero i)⟩
  | n + 1, hn => by
    have ih := stepB_top (ra := ra) (ca := ca) (z := z) (fs := fs) (lim := lim) (r := r) hd n (by omega)
    have e1 : L[n]? = some (L[n]'(by omega)) := List.getElem?_eq_getElem (by omega)
    generalize L[n]'(by omega) = e at e1
    rw [stepB, e1]
    refine TopL_cong (extC_top ih (fun x hx => ?_) 10 (Nat.le_refl _)) (fun x => ⟨fun q => ?_, fun q => ?_⟩)
    · obtain ⟨i, e', c, h1, h2, _, h4, _⟩ := hx
      have := dg_lt c
      rw [h4]
      show (16 * e'.2.1 + dg c) / 16 ≠ e.2.1
      have := hd i n e' e h2 e1 (by omega)
      omega
    · rcases q with ⟨i, e', c, h1, h2, h3⟩ | ⟨c, h1, h2⟩
      · exact ⟨i, e', c, by omega, h2, h3⟩
      · exact ⟨n, e, c, Nat.lt_succ_self n, e1, h2⟩
    · obtain ⟨i, e', c, h1, h2, h3, h4⟩ := q
      by_cases g : i = n
      · subst g
        rw [e1] at h2
        cases h2
        refine Or.inr ⟨c, ?_, h3, h4⟩
        rcases h3 with h3 | h3
        · exact Or.inl h3
        · exact Or.inr h3.1
      · exact Or.inl ⟨i, e', c, by omega, h2, h3, h4⟩
theorem TopL_dist {lim : Nat} {V : BE → Prop} {L : List BE} (h : TopL lim V L) (hd : ∀ e e', V e → V e' → e.2.1 = e'.2.1 → e = e') (i j : Nat) (x y : BE) (hi : L[i]? = some x) (hj : L[j]? = some y) (hij : i ≠ j) : x.2.1 ≠ y.2.1 := fun q => by
  have e := hd x y (h.2.1 x (List.mem_of_getElem? hi)) (h.2.1 y (List.mem_of_getElem? hj)) q
  subst e
  obtain ⟨a1, a2⟩ := List.getElem?_eq_some_iff.mp hi
  obtain ⟨b1, b2⟩ := List.getElem?_eq_some_iff.mp hj
  rcases Nat.lt_or_gt_of_ne hij with g | g
  · have := List.pairwise_iff_getElem.mp h.1 i j a1 b1 g
    rw [a2, b2, befE_ii] at this
    cases this
  · have := List.pairwise_iff_getElem.mp h.1 j i b1 a1 g
    rw [a2, b2, befE_ii] at this
    cases this
/-- THE CLASS'S LIST: the first lim full beginnings, row by row -/
theorem rankB_top {ra ca : Nat} {z : Nat → Int} {lim : Nat} (h0 : 0 < lim) : ∀ r, r ≤ 10 → TopL lim (VB ra ca z (Ls ra ca z 10 ca) r) (rankB ra ca z lim (Ls ra ca z 10 ca) r)
  | 0, _ => by
    have hb : ∀ a, bEn ra ca z a 0 = (Ls ra ca z 10 ca, 0, 0, ca) := fun a => by
      show (0 + Ls ra ca z 10 (andn ca 0), 0, 0, andn ca 0) = _
      rw [andn_0, Int.zero_add]
    refine ⟨List.pairwise_singleton _ _, fun e he => ?_, h0, fun e he hn => ?_⟩
    · rw [List.mem_singleton.mp he]
      exact ⟨fun _ => 0, fun q hq => absurd hq (Nat.not_lt_zero q), (hb _).symm, rfl⟩
    · obtain ⟨a, _, h2, _⟩ := he
      exact absurd (List.mem_singleton.mpr (h2.trans (hb a))) hn
  | r + 1, hr => by
    have ih := rankB_top (ra := ra) (ca := ca) (z := z) h0 r (by omega)
    have hdr : ∀ e e', VB ra ca z (Ls ra ca z 10 ca) r e → VB ra ca z (Ls ra ca z 10 ca) r e' → e.2.1 = e'.2.1 → e = e' := fun e e' h h' => VB_one h h'
    rw [rankB]
    refine beam ih (stepB_top (TopL_dist ih hdr) _ (Nat.le_refl _)) (fun x hx => ?_) (fun x hx => ?_) (fun x hx => ?_) hdr (fun e e' h h' => VB_one h h')
    · obtain ⟨i, e, c, _, h2, h3, h4, h5⟩ := hx
      obtain ⟨a, a1, rfl, _⟩ := ih.2.1 e (List.mem_of_getElem? h2)
      obtain ⟨b, b1, b2, b3⟩ := Vd_more a1 (okc_alb.mpr h3)
      refine ⟨b, b3, ?_, h5⟩
      rw [h4, bEn_s, b2, bEn_ag b1]
    · obtain ⟨a, a1, rfl, a3⟩ := hx
      have hok : okc ra ca z r (bEn ra ca z a r) (a r) := okc_alb.mp (a1 r (Nat.lt_succ_self r))
      have hge := pcd_ge (by omega) (e := bEn ra ca z a r) rfl hok
      have hmin := Ls_min r (by omega) (fun q hq => a1 q (by omega) : Vd (chU ra ca z) a r)
      rw [bEn_s] at a3 ⊢
      have hsz : szf (bEn ra ca z a r).1 = szf (Ls ra ca z 10 ca) := by
        have h1 := szf_anti hge
        have h2 := szf_anti hmin
        omega
      refine ⟨bEn ra ca z a r, ⟨a, fun q hq => a1 q (by omega), rfl, hsz⟩, ?_, hge, fun hin => ?_⟩
      · have := dg_lt (a r)
        show (16 * (bEn ra ca z a r).2.1 + dg (a r)) / 16 = _
        omega
      · obtain ⟨i, hi⟩ := List.getElem?_of_mem hin
        exact ⟨i, _, a r, (List.getElem?_eq_some_iff.mp hi).1, hi, hok, rfl, a3⟩
    · obtain ⟨i, hi⟩ := List.getElem?_of_mem hx
      obtain ⟨a, a1, rfl, a3⟩ := ih.2.1 x hx
      obtain ⟨c, c1, c2⟩ := pcd_ex (ra := ra) (ca := ca) (z := z) (r := r) (by omega) (e := bEn ra ca z a r) rfl
      have := dg_lt c
      refine ⟨pcd ra ca z r (bEn ra ca z a r) c, ⟨i, _, c, (List.getElem?_eq_some_iff.mp hi).1, hi, c1, rfl, by rw [c2]; exact a3⟩, c2, ?_⟩
      show (16 * (bEn ra ca z a r).2.1 + dg c) / 16 = _
      omega
