set_option maxHeartbeats 4000000 in
set_option maxRecDepth 100000 in
theorem lp_J7_fill {l : Launch} {G : Geo} {J : JT} {JX : JXT} {X : St} {k n : Nat} {v : Int32} (hk : k < 60) (hl : lay k = (1, n, [])) (hn : n < 2 ^ 31) (CE : Cl l RJ7 cJ7_fill_53178 4 none [] G 0 0 0 (kV (fun X' => ∃ f, Yv X k f = X' ∧ ∀ j, j < n → f j = v)) kF J JX) :
    ∀ q i (f : Nat → Int32), i + q = n → (∀ j, j < i → f j = v) → J (Yv X k f) 0 5 [(2, .int (nI i)), (3, .int (nI n)), (0, .ref (G.2.1 k)), (1, .int v)] [] := by
  have C := CE.b
  intro q
  induction q with
  | zero =>
    intro i f h hf
    have hc : i = n := by omega
    subst hc
    refine r_iload_n C dJ7_fill_53178_5 rfl rfl ?_
    refine r_iload_n C dJ7_fill_53178_6 rfl rfl ?_
    refine r_icmp_ge (tgt := 20) C dJ7_fill_53178_7 (by decide) (fun c_7 => ?_) (fun c_7 => absurd ((Int32.le_refl _)) c_7)
    exact r_vret CE rfl dJ7_fill_53178_20 (Nat.le_of_ble_eq_true rfl) ⟨rfl, f, rfl, hf⟩
  | succ q ih =>
    intro i f h hf
    have hlt : i < n := by omega
    refine r_iload_n C dJ7_fill_53178_5 rfl rfl ?_
    refine r_iload_n C dJ7_fill_53178_6 rfl rfl ?_
    refine r_icmp_ge (tgt := 20) C dJ7_fill_53178_7 (by decide) (fun c_7 => absurd c_7 ((nI_ge hlt hn))) (fun c_7 => ?_)
    refine r_aload_n C dJ7_fill_53178_10 rfl rfl ?_
    refine r_iload_n C dJ7_fill_53178_11 rfl rfl ?_
    refine r_iload_n C dJ7_fill_53178_12 rfl rfl ?_
    refine r_iast C (i) hk hl rfl hlt dJ7_fill_53178_13 ?_
    refine r_st (Yv_Yv X k f _) ?_
    refine r_iinc (v := _) C dJ7_fill_53178_14 rfl (nI_1 i) ?_
    refine r_goto (tgt := 5) C dJ7_fill_53178_17 (by decide) ?_
    refine r_sub C (lv' := [(2, .int (nI (i + 1))), (3, .int (nI n)), (0, .ref (G.2.1 k)), (1, .int v)]) ⟨rfl, rfl, rfl, rfl, trivial⟩ ?_
    exact ih (i + 1) _ (by omega) (fun j hj => by unfold upd; by_cases e : j = i; rw [if_pos e]; rw [if_neg e, Zv_Yv, if_pos rfl]; exact hf j (by omega))

set_option maxHeartbeats 4000000 in
set_option maxRecDepth 100000 in
/-- J7_fill_53178  -/
theorem con_J7_fill_53178 (l : Launch) (hfl : l.stackTraces = false) {k n : Nat} {v : Int32} (X : St) (hk : k < 60) (hl : lay k = (1, n, [])) : Con l yJ7_fill_53178 cJ7_fill_53178 4 none 0 0 0 (fun G => [.ref (G.2.1 k), .int v]) X (kV (fun X' => ∃ f, Yv X k f = X' ∧ ∀ j, j < n → f j = v)) kF := by
  refine con_of (lv := fun G => [(0, .ref (G.2.1 k)), (1, .int v)]) hfl (by decide +kernel) (fun _ => rfl) (fun _ => Nat.le_of_ble_eq_true rfl) ?_
  intro G J JX CE
  have C := CE.b
  refine r_iconst (v := 0) C dJ7_fill_53178_0 (by decide) ?_
  refine r_istore_n C dJ7_fill_53178_1 rfl (by decide) ?_
  refine r_aload_n C dJ7_fill_53178_2 rfl rfl ?_
  refine r_alen C hk hl dJ7_fill_53178_3 ?_
  refine r_istore_n C dJ7_fill_53178_4 rfl (by decide) ?_
  refine r_sub C (lv' := [(2, .int (nI 0)), (3, .int (nI n)), (0, .ref (G.2.1 k)), (1, .int v)]) ⟨rfl, rfl, rfl, rfl, trivial⟩ ?_
  refine r_st (Yv_id X k).symm ?_
  exact lp_J7_fill hk hl (lay_small hl) CE n 0 _ (by omega) (fun j hj => absurd hj (Nat.not_lt_zero j))
/-- the weights: best ways from behind row r below j, from row r at j and above -/
def wtj (B1 B0 : Nat → Int32) (j : Nat) : Nat → Int32 := fun S => if S < j then B1 S else B0 S
def sup (ca r j : Nat) (w : Nat → Int32) : Prop := ∀ S, S < 1024 → ¬ w S = 0 → cbl ca S (if S < j then r + 1 else r) = true
def pot (w : Nat → Int32) (B1 B0 : Nat → Int32) (j : Nat) : Int32 := sm (fun S => w S * wtj B1 B0 j S) 1024
theorem ring1 {s T x b y : Int32} (h : s = T) : (s + (y - x * b)) + x * b = T + y := by
  rw [h, Int32.sub_eq_add_neg]
  rw [Int32.add_assoc, Int32.add_assoc, Int32.add_left_neg, Int32.add_zero]
theorem ring2 {s T x b p q : Int32} (h : s + x * b = T + x * p) : (s + x * q) + x * b = T + x * (p + q) := by
  rw [Int32.mul_add, ← Int32.add_assoc, ← h, Int32.add_assoc, Int32.add_comm (x * q), ← Int32.add_assoc]
theorem ring3 {s T y : Int32} (h : s + y = T + y) : s = T := by
  have h2 := congrArg (fun z => z + -y) h
  simpa [Int32.add_assoc, Int32.add_right_neg] using h2
set_option maxHeartbeats 4000000 in
set_option maxRecDepth 100000 in
theorem lp_X3_spreadWays_in {l : Launch} {G : Geo} {J : JT} {JX : JXT} {X : St} (hfl : l.stackTraces = false) {r ra ca : Nat} {z : Nat → Int} (hV : SvK X ra ca z) (hr : r < 10) {j : Nat} (hj : j ≤ ca) (hb : cbl ca j r = true) {x b0 T b : Int32} (hk : ∀ w, sup ca r (j + 1) w → pot w (Bw ra ca z (9 - r)) (Bw ra ca z (10 - r)) (j + 1) + x * b = T + x * (bwf (fun c => opt ra ca z r c j) (Bw ra ca z (9 - r)) j b0 10) → J (Yv X 11 w) 0 96 [(2, .int (nI j)), (0, .ref (G.2.1 7)), (1, .int (nI r))] []) (CE : Cl l RX3 cX3_spreadWays 5 none [] G 3 90 0 (kV (fun X' => ∃ w, Yv X 11 w = X' ∧ sup ca (r + 1) 0 w ∧ pot w (Bw ra ca z (9 - r)) (Bw ra ca z (10 - r)) 1024 = pot (Zv X 11) (Bw ra ca z (9 - r)) (Bw ra ca z (10 - r)) 0)) kF J JX) :
    ∀ n c (w : Nat → Int32), c + n = 10 → sup ca r (j + 1) w → pot w (Bw ra ca z (9 - r)) (Bw ra ca z (10 - r)) (j + 1) + x * b = T + x * (bwf (fun c => opt ra ca z r c j) (Bw ra ca z (9 - r)) j b0 c) → J (Yv X 11 w) 0 56 [(4, .int (nI c)), (2, .int (nI j)), (3, .int x), (0, .ref (G.2.1 7)), (1, .int (nI r))] [] := by
  have C := CE.b
  intro n
  induction n with
  | zero =>
    intro c w h hs hp
    have hc : c = 10 := by omega
    subst hc
    refine r_iload C dX3_spreadWays_56 rfl ?_
    refine r_bipush (v := 10) C dX3_spreadWays_58 (by decide) ?_
    refine r_icmp_ge (tgt := 96) C dX3_spreadWays_60 (by decide) (fun c_60 => ?_) (fun c_60 => absurd ((by decide)) c_60)
    refine r_sub C (lv' := [(2, .int (nI j)), (0, .ref (G.2.1 7)), (1, .int (nI r))]) ⟨rfl, rfl, rfl, trivial⟩ ?_
    exact hk w hs hp
  | succ n ih =>
    intro c w h hs hp
    have hlt : c < 10 := by omega
    have hca := hV.1.2.2.2.2.1
    refine r_iload C dX3_spreadWays_56 rfl ?_
    refine r_bipush (v := 10) C dX3_spreadWays_58 (by decide) ?_
    refine r_icmp_ge (tgt := 96) C dX3_spreadWays_60 (by decide) (fun c_60 => absurd c_60 ((nI_ge (a := c) (b := 10) (by omega) (by decide)))) (fun c_60 => ?_)
    refine r_aload_n C dX3_spreadWays_63 rfl rfl ?_
    refine r_iload_n C dX3_spreadWays_64 rfl rfl ?_
    refine r_iload C dX3_spreadWays_65 rfl ?_
    refine r_iload_n C dX3_spreadWays_67 rfl rfl ?_
    refine cl_RX3_96 C (con_X3_isOptimal l hfl _ ((hV.put w (Or.inr rfl)).1.up (Nat.zero_le r)) hr hlt (by omega) hb) dX3_spreadWays_68 rfl ⟨Nat.le_of_ble_eq_true rfl, Nat.le_of_ble_eq_true rfl⟩ (by omega) (Nat.le_of_ble_eq_true rfl) (fun r_68 X_68 h_68 => ?_)
    obtain ⟨rfl, rfl⟩ := h_68
    refine r_if_eq (tgt := 90) C dX3_spreadWays_71 (by decide) (fun c_71 => ?_) (fun c_71 => ?_)
    · -- 90
      have ho := bI_0 c_71
      have hp9 : pot w (Bw ra ca z (9 - r)) (Bw ra ca z (10 - r)) (j + 1) + x * b = T + x * (bwf (fun c => opt ra ca z r c j) (Bw ra ca z (9 - r)) j b0 (c + 1)) := by rw [bwf, if_neg (by rw [ho]; decide)]; exact hp
      have hs9 := hs
      have e9 : Yv X 11 w = Yv X 11 w := rfl
      refine r_iinc (v := _) C dX3_spreadWays_90 rfl (nI_1 c) ?_
      refine r_goto (tgt := 56) C dX3_spreadWays_93 (by decide) ?_
      refine r_sub C (lv' := [(4, .int (nI (c + 1))), (2, .int (nI j)), (3, .int x), (0, .ref (G.2.1 7)), (1, .int (nI r))]) ⟨rfl, rfl, rfl, rfl, rfl, trivial⟩ ?_
      exact ih (c + 1) _ (by omega) hs9 hp9
    · -- 74
      have ho := bI_1 c_71
      have hbit := (opt_i ho).1
      have hcb2 := cbl_cb hlt hb hbit
      have hle := cb_le j c
      refine r_aload_n C dX3_spreadWays_74 rfl rfl ?_
      refine gf_RX3_26 C dX3_spreadWays_75 ?_
      refine r_iload_n C dX3_spreadWays_78 rfl rfl ?_
      refine r_iload C dX3_spreadWays_79 rfl ?_
      refine r_iconst (v := 0) C dX3_spreadWays_81 (by decide) ?_
      refine cl_RX3_84 C (con_withBit0 l hfl _ (by omega)) dX3_spreadWays_82 rfl ⟨Nat.le_of_ble_eq_true rfl, Nat.le_of_ble_eq_true rfl⟩ (by omega) (Nat.le_of_ble_eq_true rfl) (fun r_82 X_82 h_82 => ?_)
      obtain ⟨rfl, rfl⟩ := h_82
      refine r_dup2 C dX3_spreadWays_85 rfl rfl ?_
      refine r_iald C (cb j c) (by decide) rfl rfl (by omega) dX3_spreadWays_86 ?_
      refine r_topi (show _ = w (cb j c) from rfl) ?_
      refine r_iload_n C dX3_spreadWays_87 rfl rfl ?_
      refine r_iadd C dX3_spreadWays_88 ?_
      refine r_iast C (cb j c) (by decide) rfl rfl (by omega) dX3_spreadWays_89 ?_
      refine r_st (show _ = Yv X 11 (upd w (cb j c) (w (cb j c) + x)) by rw [Yv_Yv]; rfl) ?_
      have hs9 : sup ca r (j + 1) (upd w (cb j c) (w (cb j c) + x)) := fun S h1 h2 => by
        unfold upd at h2
        by_cases e : S = cb j c
        · rw [e, if_pos (by omega)]
          exact hcb2
        · rw [if_neg e] at h2
          exact hs S h1 h2
      have hp9 : pot (upd w (cb j c) (w (cb j c) + x)) (Bw ra ca z (9 - r)) (Bw ra ca z (10 - r)) (j + 1) + x * b = T + x * (bwf (fun c => opt ra ca z r c j) (Bw ra ca z (9 - r)) j b0 (c + 1)) := by
        rw [bwf, if_pos ho]
        refine (congrArg (· + x * b) (?_ : _ = pot w (Bw ra ca z (9 - r)) (Bw ra ca z (10 - r)) (j + 1) + x * (Bw ra ca z (9 - r)) (cb j c))).trans (ring2 hp)
        refine sm_put (k := cb j c) ?_ (fun i hi => ?_) 1024 (by omega)
        · show upd w (cb j c) (w (cb j c) + x) (cb j c) * wtj _ _ (j + 1) (cb j c) = w (cb j c) * wtj _ _ (j + 1) (cb j c) + _
          unfold upd wtj
          rw [if_pos rfl, if_pos (by omega), Int32.add_mul]
        · show upd w (cb j c) (w (cb j c) + x) i * _ = w i * _
          unfold upd
          rw [if_neg hi]
      refine r_iinc (v := _) C dX3_spreadWays_90 rfl (nI_1 c) ?_
      refine r_goto (tgt := 56) C dX3_spreadWays_93 (by decide) ?_
      refine r_sub C (lv' := [(4, .int (nI (c + 1))), (2, .int (nI j)), (3, .int x), (0, .ref (G.2.1 7)), (1, .int (nI r))]) ⟨rfl, rfl, rfl, rfl, rfl, trivial⟩ ?_
      exact ih (c + 1) _ (by omega) hs9 hp9

set_option maxHeartbeats 4000000 in
set_option maxRecDepth 100000 in
theorem lp_X3_spreadWays {l : Launch} {G : Geo} {J : JT} {JX : JXT} {X : St} (hfl : l.stackTraces = false) {r ra ca : Nat} {z : Nat → Int} (hV : SvK X ra ca z) (hr : r < 10) (CE : Cl l RX3 cX3_spreadWays 5 none [] G 3 90 0 (kV (fun X' => ∃ w, Yv X 11 w = X' ∧ sup ca (r + 1) 0 w ∧ pot w (Bw ra ca z (9 - r)) (Bw ra ca z (10 - r)) 1024 = pot (Zv X 11) (Bw ra ca z (9 - r)) (Bw ra ca z (10 - r)) 0)) kF J JX) :
    ∀ n j (w : Nat → Int32), j + n = ca + 1 → sup ca r j w → pot w (Bw ra ca z (9 - r)) (Bw ra ca z (10 - r)) j = pot (Zv X 11) (Bw ra ca z (9 - r)) (Bw ra ca z (10 - r)) 0 → J (Yv X 11 w) 0 2 [(2, .int (nI j)), (0, .ref (G.2.1 7)), (1, .int (nI r))] [] := by
  have C := CE.b
  intro n
  induction n with
  | zero =>
    intro j w h hs hp
    have hca := hV.1.2.2.2.2.1
    have hc : j = ca + 1 := by omega
    subst hc
    have hz : ∀ S, ca + 1 ≤ S → S < 1024 → w S = 0 := fun S h1 h2 => by
      by_cases e : w S = 0
      · exact e
      · have := cbl_le (hs S h2 e)
        omega
    have hs9 : sup ca (r + 1) 0 w := fun S h1 h2 => by
      rw [if_neg (Nat.not_lt_zero S)]
      rcases Nat.lt_or_ge S (ca + 1) with q | q
      · have := hs S h1 h2
        rwa [if_pos q] at this
      · exact absurd (hz S q h1) h2
    have hp9 : pot w (Bw ra ca z (9 - r)) (Bw ra ca z (10 - r)) 1024 = pot (Zv X 11) (Bw ra ca z (9 - r)) (Bw ra ca z (10 - r)) 0 := by
      rw [← hp]
      refine sm_cong 1024 fun S hS => ?_
      show w S * _ = w S * _
      unfold wtj
      rw [if_pos hS]
      rcases Nat.lt_or_ge S (ca + 1) with q | q
      · rw [if_pos q]
      · rw [hz S q hS, Int32.zero_mul, Int32.zero_mul]
    refine r_iload_n C dX3_spreadWays_2 rfl rfl ?_
    refine r_aload_n C dX3_spreadWays_3 rfl rfl ?_
    refine gf_RX3_46 C dX3_spreadWays_4 ?_
    refine r_topi (show _ = nI ca from hV.1.1) ?_
    refine r_icmp_gt (tgt := 102) C dX3_spreadWays_7 (by decide) (fun c_7 => ?_) (fun c_7 => absurd ((nI_lt (by omega) (by omega))) c_7)
    exact r_vret CE rfl dX3_spreadWays_102 (Nat.le_of_ble_eq_true rfl) ⟨rfl, w, rfl, hs9, hp9⟩
  | succ n ih =>
    intro j w h hs hp
    have hca := hV.1.2.2.2.2.1
    have b1 := Ls_bd (ra := ra) (ca := ca) hV.1.2.2.2.2.2 (9 - r) j (by omega)
    have b2 := Ls_bd (ra := ra) (ca := ca) hV.1.2.2.2.2.2 (10 - r) j (by omega)
    refine r_iload_n C dX3_spreadWays_2 rfl rfl ?_
    refine r_aload_n C dX3_spreadWays_3 rfl rfl ?_
    refine gf_RX3_46 C dX3_spreadWays_4 ?_
    refine r_topi (show _ = nI ca from hV.1.1) ?_
    refine r_icmp_gt (tgt := 102) C dX3_spreadWays_7 (by decide) (fun c_7 => absurd c_7 ((nI_nlt (by omega) (by omega)))) (fun c_7 => ?_)
    refine r_aload_n C dX3_spreadWays_10 rfl rfl ?_
    refine gf_RX3_26 C dX3_spreadWays_11 ?_
    refine r_iload_n C dX3_spreadWays_14 rfl rfl ?_
    refine r_iald C (j) (by decide) rfl rfl (by omega) dX3_spreadWays_15 ?_
    refine r_topi (show _ = w j from rfl) ?_
    refine r_istore_n C dX3_spreadWays_16 rfl (by decide) ?_
    refine r_iload_n C dX3_spreadWays_17 rfl rfl ?_
    refine r_if_eq (tgt := 96) C dX3_spreadWays_18 (by decide) (fun c_18 => ?_) (fun c_18 => ?_)
    · -- 96
      have hs9 : sup ca r (j + 1) w := fun S h1 h2 => by
        have h3 := hs S h1 h2
        have hne : S ≠ j := fun e => h2 (by rw [e]; exact c_18)
        by_cases e2 : S < j
        · rw [if_pos e2] at h3
          rw [if_pos (by omega)]
          exact h3
        · rw [if_neg e2] at h3
          rw [if_neg (by omega)]
          exact h3
      have hp9 : pot w (Bw ra ca z (9 - r)) (Bw ra ca z (10 - r)) (j + 1) = pot (Zv X 11) (Bw ra ca z (9 - r)) (Bw ra ca z (10 - r)) 0 := by
        rw [← hp]
        refine sm_cong 1024 fun S hS => ?_
        show w S * _ = w S * _
        unfold wtj
        by_cases e : S = j
        · rw [e, c_18, Int32.zero_mul, Int32.zero_mul]
        · by_cases e2 : S < j
          · rw [if_pos e2, if_pos (by omega)]
          · rw [if_neg e2, if_neg (by omega)]
      refine r_iinc (v := _) C dX3_spreadWays_96 rfl (nI_1 j) ?_
      refine r_goto (tgt := 2) C dX3_spreadWays_99 (by decide) ?_
      refine r_sub C (lv' := [(2, .int (nI (j + 1))), (0, .ref (G.2.1 7)), (1, .int (nI r))]) ⟨rfl, rfl, rfl, trivial⟩ ?_
      exact ih (j + 1) w (by omega) hs9 hp9
    · -- 21
      have hb : cbl ca j r = true := by have := hs j (by omega) c_18; rwa [if_neg (Nat.lt_irrefl j)] at this
      have hb1 := cbl_mono hb
      refine r_aload_n C dX3_spreadWays_21 rfl rfl ?_
      refine gf_RX3_26 C dX3_spreadWays_22 ?_
      refine r_iload_n C dX3_spreadWays_25 rfl rfl ?_
      refine r_aload_n C dX3_spreadWays_26 rfl rfl ?_
      refine gf_RX3_20 C dX3_spreadWays_27 ?_
      refine r_iload_n C dX3_spreadWays_30 rfl rfl ?_
      refine r_iconst (v := 1) C dX3_spreadWays_31 (by decide) ?_
      refine r_iadd C dX3_spreadWays_32 ?_
      refine r_aald C (r + 1) (by decide) rfl (nI_1 r) (by omega) dX3_spreadWays_33 ?_
      refine r_iload_n C dX3_spreadWays_34 rfl rfl ?_
      refine r_iald C (j) (by omega) (lay14 (by omega)) rfl (by omega) dX3_spreadWays_35 ?_
      refine r_topi (show _ = i32 (Ls ra ca z (9 - r) j) by rw [Zv_Yv, if_neg (by omega), hV.1.2.2.2.1 (r + 1) _ (Nat.zero_le _) (by omega) (by omega) hb1, show 10 - (r + 1) = 9 - r by omega]) ?_
      refine r_aload_n C dX3_spreadWays_36 rfl rfl ?_
      refine gf_RX3_20 C dX3_spreadWays_37 ?_
      refine r_iload_n C dX3_spreadWays_40 rfl rfl ?_
      refine r_aald C (r) (by decide) rfl rfl (by omega) dX3_spreadWays_41 ?_
      refine r_iload_n C dX3_spreadWays_42 rfl rfl ?_
      refine r_iald C (j) (by omega) (lay14 (by omega)) rfl (by omega) dX3_spreadWays_43 ?_
      refine r_topi (show _ = i32 (Ls ra ca z (10 - r) j) by rw [Zv_Yv, if_neg (by omega), hV.1.2.2.2.1 r _ (Nat.zero_le _) (by omega) (by omega) hb]) ?_
      refine r_icmp_ne (tgt := 51) C dX3_spreadWays_44 (by decide) (fun c_44 => ?_) (fun c_44 => ?_)
      · -- 51
        have he : ¬ Ls ra ca z (9 - r) j = Ls ra ca z (10 - r) j := fun q => c_44 ((i32_eq (by omega) (by omega)).mpr q)
        have hs1 : sup ca r (j + 1) (upd (Zv (Yv X 11 w) 11) j 0) := fun S h1 h2 => by
          unfold upd at h2
          by_cases e : S = j
          · rw [e, if_pos (by omega)]
            exact cbl_mono hb
          · rw [if_neg e] at h2
            have h3 := hs S h1 h2
            by_cases e2 : S < j
            · rw [if_pos e2] at h3
              rw [if_pos (by omega)]
              exact h3
            · rw [if_neg e2] at h3
              rw [if_neg (by omega)]
              exact h3
        have hp1 : pot (upd (Zv (Yv X 11 w) 11) j 0) (Bw ra ca z (9 - r)) (Bw ra ca z (10 - r)) (j + 1) + w j * (Bw ra ca z (10 - r)) j = pot (Zv X 11) (Bw ra ca z (9 - r)) (Bw ra ca z (10 - r)) 0 + w j * (bwf (fun c => opt ra ca z r c j) (Bw ra ca z (9 - r)) j (if Ls ra ca z (9 - r) j = Ls ra ca z (10 - r) j then (Bw ra ca z (9 - r)) j else 0) 0) := by
          rw [bwf]
          refine (congrArg (· + w j * (Bw ra ca z (10 - r)) j) (?_ : _ = pot w (Bw ra ca z (9 - r)) (Bw ra ca z (10 - r)) j + (w j * (if Ls ra ca z (9 - r) j = Ls ra ca z (10 - r) j then (Bw ra ca z (9 - r)) j else 0) - w j * (Bw ra ca z (10 - r)) j))).trans (ring1 hp)
          refine sm_put (k := j) ?_ (fun i hi => ?_) 1024 (by omega)
          · show upd w j 0 j * wtj _ _ (j + 1) j = w j * wtj _ _ j j + _
            unfold upd wtj
            rw [if_pos rfl, if_pos (by omega), if_neg (by omega), if_neg he, Int32.zero_mul, Int32.mul_zero, Int32.sub_eq_add_neg, Int32.add_comm, Int32.add_assoc, Int32.add_left_neg, Int32.add_zero]
          · show upd w j 0 i * _ = w i * _
            unfold upd wtj
            rw [if_neg hi]
            by_cases e : i < j
            · rw [if_pos e, if_pos (by omega)]
            · rw [if_neg e, if_neg (by omega)]
        refine r_iconst (v := 0) C dX3_spreadWays_51 (by decide) ?_
        refine r_iast C (j) (by decide) rfl rfl (by omega) dX3_spreadWays_52 ?_
        refine r_st (Yv_Yv X 11 w _) ?_
        refine r_iconst (v := 0) C dX3_spreadWays_53 (by decide) ?_
        refine r_istore C dX3_spreadWays_54 (by decide) ?_
        refine r_sub C (lv' := [(4, .int (nI 0)), (2, .int (nI j)), (3, .int (w j)), (0, .ref (G.2.1 7)), (1, .int (nI r))]) ⟨rfl, rfl, rfl, rfl, rfl, trivial⟩ ?_
        refine lp_X3_spreadWays_in hfl hV hr (by omega) hb (fun w9 hs9 hp9 => ?_) CE 10 0 _ (by omega) hs1 hp1
        have e10 : bwf (fun c => opt ra ca z r c j) (Bw ra ca z (9 - r)) j (if Ls ra ca z (9 - r) j = Ls ra ca z (10 - r) j then (Bw ra ca z (9 - r)) j else 0) 10 = (Bw ra ca z (10 - r)) j := by
          rw [show 10 - r = (9 - r) + 1 by omega]
          show _ = bwf _ _ _ _ 10
          rw [show 9 - (9 - r) = r by omega]
        rw [e10] at hp9
        refine r_iinc (v := _) C dX3_spreadWays_96 rfl (nI_1 j) ?_
        refine r_goto (tgt := 2) C dX3_spreadWays_99 (by decide) ?_
        refine r_sub C (lv' := [(2, .int (nI (j + 1))), (0, .ref (G.2.1 7)), (1, .int (nI r))]) ⟨rfl, rfl, rfl, trivial⟩ ?_
        exact ih (j + 1) w9 (by omega) hs9 (ring3 hp9)
      · -- 47
        have he := (i32_eq (by omega) (by omega)).mp c_44
        have hs1 : sup ca r (j + 1) (upd (Zv (Yv X 11 w) 11) j (w j)) := fun S h1 h2 => by
          unfold upd at h2
          by_cases e : S = j
          · rw [e, if_pos (by omega)]
            exact cbl_mono hb
          · rw [if_neg e] at h2
            have h3 := hs S h1 h2
            by_cases e2 : S < j
            · rw [if_pos e2] at h3
              rw [if_pos (by omega)]
              exact h3
            · rw [if_neg e2] at h3
              rw [if_neg (by omega)]
              exact h3
        have hp1 : pot (upd (Zv (Yv X 11 w) 11) j (w j)) (Bw ra ca z (9 - r)) (Bw ra ca z (10 - r)) (j + 1) + w j * (Bw ra ca z (10 - r)) j = pot (Zv X 11) (Bw ra ca z (9 - r)) (Bw ra ca z (10 - r)) 0 + w j * (bwf (fun c => opt ra ca z r c j) (Bw ra ca z (9 - r)) j (if Ls ra ca z (9 - r) j = Ls ra ca z (10 - r) j then (Bw ra ca z (9 - r)) j else 0) 0) := by
          rw [bwf]
          refine (congrArg (· + w j * (Bw ra ca z (10 - r)) j) (?_ : _ = pot w (Bw ra ca z (9 - r)) (Bw ra ca z (10 - r)) j + (w j * (if Ls ra ca z (9 - r) j = Ls ra ca z (10 - r) j then (Bw ra ca z (9 - r)) j else 0) - w j * (Bw ra ca z (10 - r)) j))).trans (ring1 hp)
          refine sm_put (k := j) ?_ (fun i hi => ?_) 1024 (by omega)
          · show upd w j (w j) j * wtj _ _ (j + 1) j = w j * wtj _ _ j j + _
            unfold upd wtj
            rw [if_pos rfl, if_pos (by omega), if_neg (by omega), if_pos he, Int32.sub_eq_add_neg, Int32.add_comm, Int32.add_assoc, Int32.add_left_neg, Int32.add_zero]
          · show upd w j (w j) i * _ = w i * _
            unfold upd wtj
            rw [if_neg hi]
            by_cases e : i < j
            · rw [if_pos e, if_pos (by omega)]
            · rw [if_neg e, if_neg (by omega)]
        refine r_iload_n C dX3_spreadWays_47 rfl rfl ?_
        refine r_goto (tgt := 52) C dX3_spreadWays_48 (by decide) ?_
        refine r_iast C (j) (by decide) rfl rfl (by omega) dX3_spreadWays_52 ?_
        refine r_st (Yv_Yv X 11 w _) ?_
        refine r_iconst (v := 0) C dX3_spreadWays_53 (by decide) ?_
        refine r_istore C dX3_spreadWays_54 (by decide) ?_
        refine r_sub C (lv' := [(4, .int (nI 0)), (2, .int (nI j)), (3, .int (w j)), (0, .ref (G.2.1 7)), (1, .int (nI r))]) ⟨rfl, rfl, rfl, rfl, rfl, trivial⟩ ?_
        refine lp_X3_spreadWays_in hfl hV hr (by omega) hb (fun w9 hs9 hp9 => ?_) CE 10 0 _ (by omega) hs1 hp1
        have e10 : bwf (fun c => opt ra ca z r c j) (Bw ra ca z (9 - r)) j (if Ls ra ca z (9 - r) j = Ls ra ca z (10 - r) j then (Bw ra ca z (9 - r)) j else 0) 10 = (Bw ra ca z (10 - r)) j := by
          rw [show 10 - r = (9 - r) + 1 by omega]
          show _ = bwf _ _ _ _ 10
          rw [show 9 - (9 - r) = r by omega]
        rw [e10] at hp9
        refine r_iinc (v := _) C dX3_spreadWays_96 rfl (nI_1 j) ?_
        refine r_goto (tgt := 2) C dX3_spreadWays_99 (by decide) ?_
        refine r_sub C (lv' := [(2, .int (nI (j + 1))), (0, .ref (G.2.1 7)), (1, .int (nI r))]) ⟨rfl, rfl, rfl, trivial⟩ ?_
        exact ih (j + 1) w9 (by omega) hs9 (ring3 hp9)

set_option maxHeartbeats 4000000 in
set_option maxRecDepth 100000 in
/-- X3_spreadWays  -/
theorem con_X3_spreadWays (l : Launch) (hfl : l.stackTraces = false) {r ra ca : Nat} {z : Nat → Int} (X : St) (hV : SvK X ra ca z) (hr : r < 10) (hs : sup ca r 0 (Zv X 11)) : Con l yX3_spreadWays cX3_spreadWays 5 none 3 90 0 (fun G => [.ref (G.2.1 7), .int (nI r)]) X (kV (fun X' => ∃ w, Yv X 11 w = X' ∧ sup ca (r + 1) 0 w ∧ pot w (Bw ra ca z (9 - r)) (Bw ra ca z (10 - r)) 1024 = pot (Zv X 11) (Bw ra ca z (9 - r)) (Bw ra ca z (10 - r)) 0)) kF := by
  refine con_of (lv := fun G => [(0, .ref (G.2.1 7)), (1, .int (nI r))]) hfl (by decide +kernel) (fun _ => rfl) (fun _ => Nat.le_of_ble_eq_true rfl) ?_
  intro G J JX CE
  have C := CE.b
  refine r_iconst (v := 0) C dX3_spreadWays_0 (by decide) ?_
  refine r_istore_n C dX3_spreadWays_1 rfl (by decide) ?_
  refine r_sub C (lv' := [(2, .int (nI 0)), (0, .ref (G.2.1 7)), (1, .int (nI r))]) ⟨rfl, rfl, rfl, trivial⟩ ?_
  refine r_st (Yv_id X 11).symm ?_
  exact lp_X3_spreadWays hfl hV hr CE (ca + 1) 0 _ (by omega) hs rfl
theorem pot_0 (w : Nat → Int32) (B1 B0 : Nat → Int32) : pot w B1 B0 0 = sm (fun S => w S * B0 S) 1024 := sm_cong 1024 fun S _ => by
  show w S * wtj B1 B0 0 S = w S * B0 S
  unfold wtj
  rw [if_neg (Nat.not_lt_zero S)]
theorem pot_1 (w : Nat → Int32) (B1 B0 : Nat → Int32) : pot w B1 B0 1024 = sm (fun S => w S * B1 S) 1024 := sm_cong 1024 fun S hS => by
  show w S * wtj B1 B0 1024 S = w S * B1 S
  unfold wtj
  rw [if_pos hS]
set_option maxHeartbeats 4000000 in
set_option maxRecDepth 100000 in
theorem lp_X3_countOptimal_b {l : Launch} {G : Geo} {J : JT} {JX : JXT} {X : St} {ra ca : Nat} {z : Nat → Int} {w : Nat → Int32} (hw : sm w 1024 = Bw ra ca z 10 ca) (CE : Cl l RX3 cX3_countOptimal 3 (some .int) [] G 4 120 0 (kI (fun r9 X' => r9 = Bw ra ca z 10 ca ∧ ∃ f, Yv X 11 f = X')) kF J JX) :
    ∀ n s, s + n = 1024 → J (Yv X 11 w) 0 41 [(1, .int (sm w s)), (2, .int (nI s)), (0, .ref (G.2.1 7))] [] := by
  have C := CE.b
  intro n
  induction n with
  | zero =>
    intro s h
    have hc : s = 1024 := by omega
    subst hc
    refine r_iload_n C dX3_countOptimal_41 rfl rfl ?_
    refine r_sipush (v := 1024) C dX3_countOptimal_42 (by decide) ?_
    refine r_icmp_ge (tgt := 63) C dX3_countOptimal_45 (by decide) (fun c_45 => ?_) (fun c_45 => absurd ((by decide)) c_45)
    refine r_iload_n C dX3_countOptimal_63 rfl rfl ?_
    exact r_iret CE rfl rfl dX3_countOptimal_64 (Nat.le_of_ble_eq_true rfl) ⟨_, rfl, hw, w, rfl⟩
  | succ n ih =>
    intro s h
    have hlt : s < 1024 := by omega
    refine r_iload_n C dX3_countOptimal_41 rfl rfl ?_
    refine r_sipush (v := 1024) C dX3_countOptimal_42 (by decide) ?_
    refine r_icmp_ge (tgt := 63) C dX3_countOptimal_45 (by decide) (fun c_45 => absurd c_45 ((nI_ge (a := s) (b := 1024) (by omega) (by decide)))) (fun c_45 => ?_)
    refine r_iload_n C dX3_countOptimal_48 rfl rfl ?_
    refine r_aload_n C dX3_countOptimal_49 rfl rfl ?_
    refine gf_RX3_26 C dX3_countOptimal_50 ?_
    refine r_iload_n C dX3_countOptimal_53 rfl rfl ?_
    refine r_iald C (s) (by decide) rfl rfl hlt dX3_countOptimal_54 ?_
    refine r_topi (show _ = w s from rfl) ?_
    refine r_iadd C dX3_countOptimal_55 ?_
    refine r_istore_n C dX3_countOptimal_56 rfl (by decide) ?_
    refine r_iinc (v := _) C dX3_countOptimal_57 rfl (nI_1 s) ?_
    refine r_goto (tgt := 41) C dX3_countOptimal_60 (by decide) ?_
    refine r_sub C (lv' := [(1, .int (sm w (s + 1))), (2, .int (nI (s + 1))), (0, .ref (G.2.1 7))]) ⟨rfl, rfl, rfl, trivial⟩ ?_
    exact ih (s + 1) (by omega)

set_option maxHeartbeats 4000000 in
set_option maxRecDepth 100000 in
theorem lp_X3_countOptimal {l : Launch} {G : Geo} {J : JT} {JX : JXT} {X : St} (hfl : l.stackTraces = false) {ra ca : Nat} {z : Nat → Int} (hV : SvK X ra ca z) (CE : Cl l RX3 cX3_countOptimal 3 (some .int) [] G 4 120 0 (kI (fun r9 X' => r9 = Bw ra ca z 10 ca ∧ ∃ f, Yv X 11 f = X')) kF J JX) :
    ∀ n r (w : Nat → Int32), r + n = 10 → sup ca r 0 w → sm (fun S => w S * Bw ra ca z (10 - r) S) 1024 = Bw ra ca z 10 ca → J (Yv X 11 w) 0 20 [(1, .int (nI r)), (0, .ref (G.2.1 7))] [] := by
  have C := CE.b
  intro n
  induction n with
  | zero =>
    intro r w h hs hp
    have hc : r = 10 := by omega
    subst hc
    have hw : sm w 1024 = Bw ra ca z 10 ca := by
      rw [← hp]
      exact sm_cong 1024 fun S _ => (Int32.mul_one (w S)).symm
    refine r_iload_n C dX3_countOptimal_20 rfl rfl ?_
    refine r_bipush (v := 10) C dX3_countOptimal_21 (by decide) ?_
    refine r_icmp_ge (tgt := 37) C dX3_countOptimal_23 (by decide) (fun c_23 => ?_) (fun c_23 => absurd ((by decide)) c_23)
    refine r_iconst (v := 0) C dX3_countOptimal_37 (by decide) ?_
    refine r_istore_n C dX3_countOptimal_38 rfl (by decide) ?_
    refine r_iconst (v := 0) C dX3_countOptimal_39 (by decide) ?_
    refine r_istore_n C dX3_countOptimal_40 rfl (by decide) ?_
    refine r_sub C (lv' := [(1, .int (sm w 0)), (2, .int (nI 0)), (0, .ref (G.2.1 7))]) ⟨rfl, rfl, rfl, trivial⟩ ?_
    exact lp_X3_countOptimal_b hw CE 1024 0 (by omega)
  | succ n ih =>
    intro r w h hs hp
    have hr : r < 10 := by omega
    refine r_iload_n C dX3_countOptimal_20 rfl rfl ?_
    refine r_bipush (v := 10) C dX3_countOptimal_21 (by decide) ?_
    refine r_icmp_ge (tgt := 37) C dX3_countOptimal_23 (by decide) (fun c_23 => absurd c_23 ((nI_ge (a := r) (b := 10) (by omega) (by decide)))) (fun c_23 => ?_)
    refine r_aload_n C dX3_countOptimal_26 rfl rfl ?_
    refine r_iload_n C dX3_countOptimal_27 rfl rfl ?_
    refine cl_RX3_106 C (con_X3_spreadWays l hfl _ (hV.put w (Or.inr rfl)) hr hs) dX3_countOptimal_28 rfl ⟨Nat.le_of_ble_eq_true rfl, Nat.le_of_ble_eq_true rfl⟩ (by omega) (Nat.le_of_ble_eq_true rfl) (fun X_28 h_28 => ?_)
    obtain ⟨w9, rfl, hs9, hp9⟩ := h_28
    refine r_st (Yv_Yv X 11 w w9) ?_
    refine r_iinc (v := _) C dX3_countOptimal_31 rfl (nI_1 r) ?_
    refine r_goto (tgt := 20) C dX3_countOptimal_34 (by decide) ?_
    refine r_sub C (lv' := [(1, .int (nI (r + 1))), (0, .ref (G.2.1 7))]) ⟨rfl, rfl, trivial⟩ ?_
    refine ih (r + 1) w9 (by omega) hs9 ?_
    rw [pot_0, pot_1] at hp9
    rw [show 10 - (r + 1) = 9 - r by omega, hp9]
    exact hp

set_option maxHeartbeats 4000000 in
set_option maxRecDepth 100000 in
/-- X3_countOptimal  -/
theorem con_X3_countOptimal (l : Launch) (hfl : l.stackTraces = false) {ra ca : Nat} {z : Nat → Int} (X : St) (hV : SvK X ra ca z) : Con l yX3_countOptimal cX3_countOptimal 3 (some (FieldType.int)) 4 120 0 (fun G => [.ref (G.2.1 7)]) X (kI (fun r9 X' => r9 = Bw ra ca z 10 ca ∧ ∃ f, Yv X 11 f = X')) kF := by
  refine con_of (lv := fun G => [(0, .ref (G.2.1 7))]) hfl (by decide +kernel) (fun _ => rfl) (fun _ => Nat.le_of_ble_eq_true rfl) ?_
  intro G J JX CE
  have C := CE.b
  have hca := hV.1.2.2.2.2.1
  refine r_aload_n C dX3_countOptimal_0 rfl rfl ?_
  refine gf_RX3_26 C dX3_countOptimal_1 ?_
  refine r_iconst (v := 0) C dX3_countOptimal_4 (by decide) ?_
  refine cl_RX3_100 C (con_J7_fill_53178 l hfl X (k := 11) (n := 1024) (v := 0) (by decide) rfl) dX3_countOptimal_5 rfl ⟨Nat.le_of_ble_eq_true rfl, Nat.le_of_ble_eq_true rfl⟩ (by omega) (Nat.le_of_ble_eq_true rfl) (fun X_5 h_5 => ?_)
  obtain ⟨f9, rfl, hf9⟩ := h_5
  refine r_aload_n C dX3_countOptimal_8 rfl rfl ?_
  refine gf_RX3_26 C dX3_countOptimal_9 ?_
  refine r_aload_n C dX3_countOptimal_12 rfl rfl ?_
  refine gf_RX3_46 C dX3_countOptimal_13 ?_
  refine r_topi (show _ = nI ca from hV.1.1) ?_
  refine r_iconst (v := 1) C dX3_countOptimal_16 (by decide) ?_
  refine r_iast C (ca) (by decide) rfl rfl hca dX3_countOptimal_17 ?_
  refine r_st (Yv_Yv X 11 f9 _) ?_
  refine r_iconst (v := 0) C dX3_countOptimal_18 (by decide) ?_
  refine r_istore_n C dX3_countOptimal_19 rfl (by decide) ?_
  refine r_sub C (lv' := [(1, .int (nI 0)), (0, .ref (G.2.1 7))]) ⟨rfl, rfl, trivial⟩ ?_
  refine lp_X3_countOptimal hfl hV CE 10 0 _ (by omega) (fun S h1 h2 => ?_) ?_
  · rw [if_neg (Nat.not_lt_zero S)]
    unfold upd at h2
    by_cases e : S = ca
    · rw [e]; exact cbl_self ca 0
    · rw [if_neg e] at h2
      exact absurd (hf9 S h1) h2
  · have h0 : sm (fun S => f9 S * Bw ra ca z 10 S) 1024 = 0 := by
      have : ∀ n, n ≤ 1024 → sm (fun S => f9 S * Bw ra ca z 10 S) n = 0 := fun n => by
        induction n with
        | zero => intro _; rfl
        | succ n ih => intro h; unfold sm; rw [ih (by omega), hf9 n (by omega), Int32.zero_mul]; rfl
      exact this 1024 (Nat.le_refl _)
    have h1 := sm_put (f := fun S => f9 S * Bw ra ca z 10 S) (g := fun S => upd f9 ca 1 S * Bw ra ca z 10 S) (k := ca) (d := Bw ra ca z 10 ca) (by show upd f9 ca 1 ca * _ = f9 ca * _ + _; unfold upd; rw [if_pos rfl, hf9 ca hca, Int32.zero_mul, Int32.one_mul, Int32.zero_add]) (fun i hi => by show upd f9 ca 1 i * _ = _; unfold upd; rw [if_neg hi]) 1024 hca
    rw [h0, Int32.zero_add] at h1
    exact h1
