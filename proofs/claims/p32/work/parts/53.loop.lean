set_option maxHeartbeats 4000000 in
set_option maxRecDepth 100000 in
/-- the law's loop -/
theorem law_loop {l : Launch} (hfl : l.stackTraces = false) {um : Nat} : ∀ (n k u : Nat) (G : Geo) (J : JT) (JX : JXT) (X : St) (A : DA), CbL l G um J JX → Gn G = 3 → Gl G ≤ 260 → k + n = 8 → u + 10 * n ≤ um → LInv X A → J X u 37 [(5, .int (nI k)), (1, .ref (G.2.1 0)), (2, .ref (G.2.1 36)), (3, .ref (G.2.1 37)), (4, .ref (G.2.1 38)), (0, .ref (Gb G))] [] := by
  intro n
  induction n with
  | zero =>
    intro k u G J JX X A CL hG hGl h hu hI
    have C := CL.c
    have hk : k = 8 := by omega
    subst hk
    refine r_iload C dL_law_37 rfl ?_
    refine r_bipush (v := 8) C dL_law_39 (by decide) ?_
    refine r_icmp_ge (tgt := 445) C dL_law_41 (by decide) (fun c_41 => ?_) (fun c_41 => absurd ((by decide)) c_41)
    refine r_iconst (v := 1) C dL_law_445 (by decide) ?_
    exact r_true CL (by omega) dL_law_446
  | succ n ih =>
    intro k u G J JX X A CL hG hGl h hu hI
    have C := CL.c
    have hk : k < 8 := by omega
    refine r_iload C dL_law_37 rfl ?_
    refine r_bipush (v := 8) C dL_law_39 (by decide) ?_
    refine r_icmp_ge (tgt := 445) C dL_law_41 (by decide) (fun c_41 => absurd c_41 ((nI_ge (a := k) (b := 8) (by omega) (by decide)))) (fun c_41 => ?_)
    refine law_ops hfl CL hG hGl hk hI (by omega) (fun X1 A1 u1 hI1 hu1 => ?_)
    refine r_bipush (v := 16) C dL_law_299 (by decide) ?_
    refine r_newI CL 39 (by omega) (by decide) rfl hI1.D.fz (by omega) dL_law_301 (fun q J1 JX1 CL1 => ?_)
    exact law_use hfl CL1 rfl (hI1.far (fun _ => 0)) (by omega) (fun X2 u2 hI2 hu2 => by
      have C1 := CL1.c
      refine r_drop CL1 rfl (fun J2 JX2 CL2 => ?_)
      have C2 := CL2.c
      refine r_iinc (v := _) C2 dL_law_439 rfl (nI_1 k) ?_
      refine r_goto (tgt := 37) C2 dL_law_442 (by decide) ?_
      refine r_sub C2 (lv' := [(5, .int (nI (k + 1))), (1, .ref (G.2.1 0)), (2, .ref (G.2.1 36)), (3, .ref (G.2.1 37)), (4, .ref (G.2.1 38)), (0, .ref (Gb G))]) ⟨rfl, rfl, rfl, rfl, rfl, rfl, trivial⟩ ?_
      exact ih (k + 1) u2 (Gd (Gp G 39 q)) J2 JX2 X2 A1 CL2 rfl hGl (by omega) (by omega) hI2)
