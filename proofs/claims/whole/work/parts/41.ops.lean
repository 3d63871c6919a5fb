/-! ===== the law: one op of the script ===== -/
section ZB
variable {l : Launch} {own : String} {cc : ByteArray} {nL : Nat} {G : Geo} {fr lo um : Nat} {J : JT} {JX : JXT} {X : St} {u pc : Nat} {lv : List (Nat × Value)} {st : List Value}
theorem r_bool9 (C : Cb l own cc nL G fr lo um J JX) {x : Int32} (h1 : decode cc pc = .ok (.ifCond .eq 7, 3)) (h2 : decode cc (pc + 3) = .ok (.iconst 1, 1)) (h3 : decode cc (pc + 4) = .ok (.goto 4, 3)) (h4 : decode cc (pc + 7) = .ok (.iconst 0, 1)) (k : J X u (pc + 8) lv (.int (bI (!decide (x = 0))) :: st)) : J X u pc lv (.int x :: st) := by
  refine r_if_eq (tgt := pc + 7) C h1 (by omega) (fun q => ?_) (fun q => ?_)
  · refine r_iconst (v := 0) C h4 (by decide) ?_
    rw [decide_eq_true q] at k
    exact k
  · refine r_iconst (v := 1) C h2 (by decide) ?_
    refine r_goto (tgt := pc + 8) C h3 (by omega) ?_
    rw [decide_eq_false q] at k
    exact k
theorem r_bool8 (C : Cb l own cc nL G fr lo um J JX) {x : Int32} (h1 : decode cc pc = .ok (.ifCond .eq 7, 3)) (h2 : decode cc (pc + 3) = .ok (.lconst 1, 1)) (h3 : decode cc (pc + 4) = .ok (.goto 4, 3)) (h4 : decode cc (pc + 7) = .ok (.lconst 0, 1)) (k : J X u (pc + 8) lv (.long (if x = 0 then 0 else 1) :: st)) : J X u pc lv (.int x :: st) := by
  refine r_if_eq (tgt := pc + 7) C h1 (by omega) (fun q => ?_) (fun q => ?_)
  · refine r_lconst (v := 0) C h4 (by decide) ?_
    rw [if_pos q] at k
    exact k
  · refine r_lconst (v := 1) C h2 (by decide) ?_
    refine r_goto (tgt := pc + 8) C h3 (by omega) ?_
    rw [if_neg q] at k
    exact k
end ZB
set_option maxHeartbeats 4000000 in
set_option maxRecDepth 100000 in
theorem op_0 {l : Launch} (hfl : l.stackTraces = false) {G : Geo} {b L : Nat} {xs : Nat → Int32} {um : Nat} {J : JT} {JX : JXT} (CL : CbL l G b L xs um J JX) {A : DA} {X : St} {u i : Nat} (hL : L ≤ 2048) (hi : i + 4 ≤ L) (hu : u + 3 ≤ um) (hD : DInv X A) (hM : MInv X A) (kk : ∀ (X' : St) (A' : DA) (u' : Nat), DInv X' A' → MInv X' A' → u' ≤ u + 3 → J X' u' 1743 [(4, .int (nI i)), (3, .ref (G.2.1 36)), (2, .ref (G.2.1 37)), (1, .ref (G.2.1 0)), (0, .ref b)] []) : J X u 168 [(4, .int (nI i)), (3, .ref (G.2.1 36)), (2, .ref (G.2.1 37)), (1, .ref (G.2.1 0)), (0, .ref b)] [] := by
  have C := CL.c
  refine r_aload_n C dL_law_168 rfl rfl ?_
  refine r_aload_n C dL_law_169 rfl rfl ?_
  refine cl9_RL_96 CL (con_L_addRow l hfl _ hD) dL_law_170 rfl ⟨Nat.le_of_ble_eq_true rfl, Nat.le_of_ble_eq_true rfl⟩ (by omega) (Nat.le_of_ble_eq_true rfl) (fun r_170 X_170 h_170 => ?_)
  obtain ⟨hM1, hN⟩ := lw_addRow hD hM h_170
  refine r_istore C dL_law_173 (by decide) ?_
  refine r_aload_n C dL_law_175 rfl rfl ?_
  refine cl_RL_101 C (con_X6_addRow l hfl _ hM1) dL_law_176 rfl ⟨Nat.le_of_ble_eq_true rfl, Nat.le_of_ble_eq_true rfl⟩ (by omega) (Nat.le_of_ble_eq_true rfl) (fun r_176 X_176 h_176 => ?_)
  obtain ⟨A1, hD1, hM2, ht, ho⟩ := hN _ _ h_176
  refine r_istore C dL_law_179 (by decide) ?_
  refine r_aload_n C dL_law_181 rfl rfl ?_
  refine cl_RL_102 C (con_X6_thrown l hfl _) dL_law_182 rfl ⟨Nat.le_of_ble_eq_true rfl, Nat.le_of_ble_eq_true rfl⟩ (by omega) (Nat.le_of_ble_eq_true rfl) (fun r_182 X_182 h_182 => ?_)
  obtain ⟨rfl, rfl⟩ := h_182
  refine r_iload C dL_law_185 rfl ?_
  refine r_icmp_eq (tgt := 192) C dL_law_187 (by decide) (fun c_187 => ?_) (fun c_187 => absurd (ht) c_187)
  refine r_iload C dL_law_192 rfl ?_
  refine r_if_ne (tgt := 209) C dL_law_194 (by decide) (fun c_194 => ?_) (fun c_194 => ?_)
  · -- 209
    refine r_goto (tgt := 1743) C dL_law_209 (by decide) ?_
    exact r_sub C (lv' := [(4, .int (nI i)), (3, .ref (G.2.1 36)), (2, .ref (G.2.1 37)), (1, .ref (G.2.1 0)), (0, .ref b)]) ⟨rfl, rfl, rfl, rfl, rfl, trivial⟩ (kk _ _ _ hD1 hM2 (by omega))
  · -- 197
    refine r_aload_n C dL_law_197 rfl rfl ?_
    refine r_iconst (v := 0) C dL_law_198 (by decide) ?_
    refine r_lald C (0) (by decide) rfl rfl (by decide) dL_law_199 ?_
    refine r_iload C dL_law_200 rfl ?_
    refine r_i2l C dL_law_202 ?_
    refine r_lcmp C dL_law_203 ?_
    refine r_if_eq (tgt := 209) C dL_law_204 (by decide) (fun c_204 => ?_) (fun c_204 => absurd ((lcmp_e _ _).mpr (ho c_194)) c_204)
    refine r_goto (tgt := 1743) C dL_law_209 (by decide) ?_
    exact r_sub C (lv' := [(4, .int (nI i)), (3, .ref (G.2.1 36)), (2, .ref (G.2.1 37)), (1, .ref (G.2.1 0)), (0, .ref b)]) ⟨rfl, rfl, rfl, rfl, rfl, trivial⟩ (kk _ _ _ hD1 hM2 (by omega))
set_option maxHeartbeats 4000000 in
set_option maxRecDepth 100000 in
theorem op_1 {l : Launch} (hfl : l.stackTraces = false) {G : Geo} {b L : Nat} {xs : Nat → Int32} {um : Nat} {J : JT} {JX : JXT} (CL : CbL l G b L xs um J JX) {A : DA} {X : St} {u i : Nat} (hL : L ≤ 2048) (hi : i + 4 ≤ L) (hu : u + 3 ≤ um) (hD : DInv X A) (hM : MInv X A) (kk : ∀ (X' : St) (A' : DA) (u' : Nat), DInv X' A' → MInv X' A' → u' ≤ u + 3 → J X' u' 1743 [(4, .int (nI i)), (3, .ref (G.2.1 36)), (2, .ref (G.2.1 37)), (1, .ref (G.2.1 0)), (0, .ref b)] []) : J X u 212 [(4, .int (nI i)), (3, .ref (G.2.1 36)), (2, .ref (G.2.1 37)), (1, .ref (G.2.1 0)), (0, .ref b)] [] := by
  have C := CL.c
  refine r_aload_n C dL_law_212 rfl rfl ?_
  refine r_aload_n C dL_law_213 rfl rfl ?_
  refine cl9_RL_105 CL (con_L_addColumn l hfl _ hD) dL_law_214 rfl ⟨Nat.le_of_ble_eq_true rfl, Nat.le_of_ble_eq_true rfl⟩ (by omega) (Nat.le_of_ble_eq_true rfl) (fun r_214 X_214 h_214 => ?_)
  obtain ⟨hM1, hN⟩ := lw_addColumn hD hM h_214
  refine r_istore C dL_law_217 (by decide) ?_
  refine r_aload_n C dL_law_219 rfl rfl ?_
  refine cl_RL_107 C (con_X6_addColumn l hfl _ hM1) dL_law_220 rfl ⟨Nat.le_of_ble_eq_true rfl, Nat.le_of_ble_eq_true rfl⟩ (by omega) (Nat.le_of_ble_eq_true rfl) (fun r_220 X_220 h_220 => ?_)
  obtain ⟨A1, hD1, hM2, ht, ho⟩ := hN _ _ h_220
  refine r_istore C dL_law_223 (by decide) ?_
  refine r_aload_n C dL_law_225 rfl rfl ?_
  refine cl_RL_102 C (con_X6_thrown l hfl _) dL_law_226 rfl ⟨Nat.le_of_ble_eq_true rfl, Nat.le_of_ble_eq_true rfl⟩ (by omega) (Nat.le_of_ble_eq_true rfl) (fun r_226 X_226 h_226 => ?_)
  obtain ⟨rfl, rfl⟩ := h_226
  refine r_iload C dL_law_229 rfl ?_
  refine r_icmp_eq (tgt := 236) C dL_law_231 (by decide) (fun c_231 => ?_) (fun c_231 => absurd (ht) c_231)
  refine r_iload C dL_law_236 rfl ?_
  refine r_if_ne (tgt := 253) C dL_law_238 (by decide) (fun c_238 => ?_) (fun c_238 => ?_)
  · -- 253
    refine r_goto (tgt := 1743) C dL_law_253 (by decide) ?_
    exact r_sub C (lv' := [(4, .int (nI i)), (3, .ref (G.2.1 36)), (2, .ref (G.2.1 37)), (1, .ref (G.2.1 0)), (0, .ref b)]) ⟨rfl, rfl, rfl, rfl, rfl, trivial⟩ (kk _ _ _ hD1 hM2 (by omega))
  · -- 241
    refine r_aload_n C dL_law_241 rfl rfl ?_
    refine r_iconst (v := 0) C dL_law_242 (by decide) ?_
    refine r_lald C (0) (by decide) rfl rfl (by decide) dL_law_243 ?_
    refine r_iload C dL_law_244 rfl ?_
    refine r_i2l C dL_law_246 ?_
    refine r_lcmp C dL_law_247 ?_
    refine r_if_eq (tgt := 253) C dL_law_248 (by decide) (fun c_248 => ?_) (fun c_248 => absurd ((lcmp_e _ _).mpr (ho c_238)) c_248)
    refine r_goto (tgt := 1743) C dL_law_253 (by decide) ?_
    exact r_sub C (lv' := [(4, .int (nI i)), (3, .ref (G.2.1 36)), (2, .ref (G.2.1 37)), (1, .ref (G.2.1 0)), (0, .ref b)]) ⟨rfl, rfl, rfl, rfl, rfl, trivial⟩ (kk _ _ _ hD1 hM2 (by omega))
set_option maxHeartbeats 4000000 in
set_option maxRecDepth 100000 in
theorem op_2 {l : Launch} (hfl : l.stackTraces = false) {G : Geo} {b L : Nat} {xs : Nat → Int32} {um : Nat} {J : JT} {JX : JXT} (CL : CbL l G b L xs um J JX) {A : DA} {X : St} {u i : Nat} (hL : L ≤ 2048) (hi : i + 4 ≤ L) (hu : u + 3 ≤ um) (hD : DInv X A) (hM : MInv X A) (kk : ∀ (X' : St) (A' : DA) (u' : Nat), DInv X' A' → MInv X' A' → u' ≤ u + 3 → J X' u' 1743 [(4, .int (nI i)), (3, .ref (G.2.1 36)), (2, .ref (G.2.1 37)), (1, .ref (G.2.1 0)), (0, .ref b)] []) : J X u 256 [(4, .int (nI i)), (3, .ref (G.2.1 36)), (2, .ref (G.2.1 37)), (1, .ref (G.2.1 0)), (0, .ref b)] [] := by
  have C := CL.c
  refine r_aload_n C dL_law_256 rfl rfl ?_
  refine r_aload_n C dL_law_257 rfl rfl ?_
  refine r_iload C dL_law_258 rfl ?_
  refine r_iconst (v := 1) C dL_law_260 (by decide) ?_
  refine r_iadd C dL_law_261 ?_
  refine r_sld CL (i + 1) (nI_p i 1) (by omega) hL dL_law_262 ?_
  refine r_aload_n C dL_law_263 rfl rfl ?_
  refine r_iload C dL_law_264 rfl ?_
  refine r_iconst (v := 2) C dL_law_266 (by decide) ?_
  refine r_iadd C dL_law_267 ?_
  refine r_sld CL (i + 2) (nI_p i 2) (by omega) hL dL_law_268 ?_
  refine r_bool9 C dL_law_269 dL_law_272 dL_law_273 dL_law_276 ?_
  refine r_aload_n C dL_law_277 rfl rfl ?_
  refine cl9_RL_108 CL (con_L_setRow l hfl _ hD) dL_law_278 rfl ⟨Nat.le_of_ble_eq_true rfl, Nat.le_of_ble_eq_true rfl⟩ (by omega) (Nat.le_of_ble_eq_true rfl) (fun r_278 X_278 h_278 => ?_)
  obtain ⟨hM1, hN⟩ := lw_setRow hD hM h_278
  refine r_istore C dL_law_281 (by decide) ?_
  refine r_aload_n C dL_law_283 rfl rfl ?_
  refine r_aload_n C dL_law_284 rfl rfl ?_
  refine r_iload C dL_law_285 rfl ?_
  refine r_iconst (v := 1) C dL_law_287 (by decide) ?_
  refine r_iadd C dL_law_288 ?_
  refine r_sld CL (i + 1) (nI_p i 1) (by omega) hL dL_law_289 ?_
  refine r_aload_n C dL_law_290 rfl rfl ?_
  refine r_iload C dL_law_291 rfl ?_
  refine r_iconst (v := 2) C dL_law_293 (by decide) ?_
  refine r_iadd C dL_law_294 ?_
  refine r_sld CL (i + 2) (nI_p i 2) (by omega) hL dL_law_295 ?_
  refine r_bool9 C dL_law_296 dL_law_299 dL_law_300 dL_law_303 ?_
  refine cl_RL_111 C (con_X6_setRow l hfl _ hM1) dL_law_304 rfl ⟨Nat.le_of_ble_eq_true rfl, Nat.le_of_ble_eq_true rfl⟩ (by omega) (Nat.le_of_ble_eq_true rfl) (fun r_304 X_304 h_304 => ?_)
  obtain ⟨A1, hD1, hM2, ht, ho⟩ := hN _ _ h_304
  refine r_istore C dL_law_307 (by decide) ?_
  refine r_aload_n C dL_law_309 rfl rfl ?_
  refine cl_RL_102 C (con_X6_thrown l hfl _) dL_law_310 rfl ⟨Nat.le_of_ble_eq_true rfl, Nat.le_of_ble_eq_true rfl⟩ (by omega) (Nat.le_of_ble_eq_true rfl) (fun r_310 X_310 h_310 => ?_)
  obtain ⟨rfl, rfl⟩ := h_310
  refine r_iload C dL_law_313 rfl ?_
  refine r_icmp_eq (tgt := 320) C dL_law_315 (by decide) (fun c_315 => ?_) (fun c_315 => absurd (ht) c_315)
  refine r_iload C dL_law_320 rfl ?_
  refine r_if_ne (tgt := 344) C dL_law_322 (by decide) (fun c_322 => ?_) (fun c_322 => ?_)
  · -- 344
    refine r_goto (tgt := 1743) C dL_law_344 (by decide) ?_
    exact r_sub C (lv' := [(4, .int (nI i)), (3, .ref (G.2.1 36)), (2, .ref (G.2.1 37)), (1, .ref (G.2.1 0)), (0, .ref b)]) ⟨rfl, rfl, rfl, rfl, rfl, trivial⟩ (kk _ _ _ hD1 hM2 (by omega))
  · -- 325
    refine r_aload_n C dL_law_325 rfl rfl ?_
    refine r_iconst (v := 0) C dL_law_326 (by decide) ?_
    refine r_lald C (0) (by decide) rfl rfl (by decide) dL_law_327 ?_
    refine r_iload C dL_law_328 rfl ?_
    refine r_bool8 C dL_law_330 dL_law_333 dL_law_334 dL_law_337 ?_
    refine r_lcmp C dL_law_338 ?_
    refine r_if_eq (tgt := 344) C dL_law_339 (by decide) (fun c_339 => ?_) (fun c_339 => absurd ((lcmp_e _ _).mpr (ho c_322)) c_339)
    refine r_goto (tgt := 1743) C dL_law_344 (by decide) ?_
    exact r_sub C (lv' := [(4, .int (nI i)), (3, .ref (G.2.1 36)), (2, .ref (G.2.1 37)), (1, .ref (G.2.1 0)), (0, .ref b)]) ⟨rfl, rfl, rfl, rfl, rfl, trivial⟩ (kk _ _ _ hD1 hM2 (by omega))
set_option maxHeartbeats 4000000 in
set_option maxRecDepth 100000 in
theorem op_3 {l : Launch} (hfl : l.stackTraces = false) {G : Geo} {b L : Nat} {xs : Nat → Int32} {um : Nat} {J : JT} {JX : JXT} (CL : CbL l G b L xs um J JX) {A : DA} {X : St} {u i : Nat} (hL : L ≤ 2048) (hi : i + 4 ≤ L) (hu : u + 3 ≤ um) (hD : DInv X A) (hM : MInv X A) (kk : ∀ (X' : St) (A' : DA) (u' : Nat), DInv X' A' → MInv X' A' → u' ≤ u + 3 → J X' u' 1743 [(4, .int (nI i)), (3, .ref (G.2.1 36)), (2, .ref (G.2.1 37)), (1, .ref (G.2.1 0)), (0, .ref b)] []) : J X u 347 [(4, .int (nI i)), (3, .ref (G.2.1 36)), (2, .ref (G.2.1 37)), (1, .ref (G.2.1 0)), (0, .ref b)] [] := by
  have C := CL.c
  refine r_aload_n C dL_law_347 rfl rfl ?_
  refine r_aload_n C dL_law_348 rfl rfl ?_
  refine r_iload C dL_law_349 rfl ?_
  refine r_iconst (v := 1) C dL_law_351 (by decide) ?_
  refine r_iadd C dL_law_352 ?_
  refine r_sld CL (i + 1) (nI_p i 1) (by omega) hL dL_law_353 ?_
  refine r_aload_n C dL_law_354 rfl rfl ?_
  refine r_iload C dL_law_355 rfl ?_
  refine r_iconst (v := 2) C dL_law_357 (by decide) ?_
  refine r_iadd C dL_law_358 ?_
  refine r_sld CL (i + 2) (nI_p i 2) (by omega) hL dL_law_359 ?_
  refine r_bool9 C dL_law_360 dL_law_363 dL_law_364 dL_law_367 ?_
  refine r_aload_n C dL_law_368 rfl rfl ?_
  refine cl9_RL_112 CL (con_L_setColumn l hfl _ hD) dL_law_369 rfl ⟨Nat.le_of_ble_eq_true rfl, Nat.le_of_ble_eq_true rfl⟩ (by omega) (Nat.le_of_ble_eq_true rfl) (fun r_369 X_369 h_369 => ?_)
  obtain ⟨hM1, hN⟩ := lw_setColumn hD hM h_369
  refine r_istore C dL_law_372 (by decide) ?_
  refine r_aload_n C dL_law_374 rfl rfl ?_
  refine r_aload_n C dL_law_375 rfl rfl ?_
  refine r_iload C dL_law_376 rfl ?_
  refine r_iconst (v := 1) C dL_law_378 (by decide) ?_
  refine r_iadd C dL_law_379 ?_
  refine r_sld CL (i + 1) (nI_p i 1) (by omega) hL dL_law_380 ?_
  refine r_aload_n C dL_law_381 rfl rfl ?_
  refine r_iload C dL_law_382 rfl ?_
  refine r_iconst (v := 2) C dL_law_384 (by decide) ?_
  refine r_iadd C dL_law_385 ?_
  refine r_sld CL (i + 2) (nI_p i 2) (by omega) hL dL_law_386 ?_
  refine r_bool9 C dL_law_387 dL_law_390 dL_law_391 dL_law_394 ?_
  refine cl_RL_114 C (con_X6_setColumn l hfl _ hM1) dL_law_395 rfl ⟨Nat.le_of_ble_eq_true rfl, Nat.le_of_ble_eq_true rfl⟩ (by omega) (Nat.le_of_ble_eq_true rfl) (fun r_395 X_395 h_395 => ?_)
  obtain ⟨A1, hD1, hM2, ht, ho⟩ := hN _ _ h_395
  refine r_istore C dL_law_398 (by decide) ?_
  refine r_aload_n C dL_law_400 rfl rfl ?_
  refine cl_RL_102 C (con_X6_thrown l hfl _) dL_law_401 rfl ⟨Nat.le_of_ble_eq_true rfl, Nat.le_of_ble_eq_true rfl⟩ (by omega) (Nat.le_of_ble_eq_true rfl) (fun r_401 X_401 h_401 => ?_)
  obtain ⟨rfl, rfl⟩ := h_401
  refine r_iload C dL_law_404 rfl ?_
  refine r_icmp_eq (tgt := 411) C dL_law_406 (by decide) (fun c_406 => ?_) (fun c_406 => absurd (ht) c_406)
  refine r_iload C dL_law_411 rfl ?_
  refine r_if_ne (tgt := 435) C dL_law_413 (by decide) (fun c_413 => ?_) (fun c_413 => ?_)
  · -- 435
    refine r_goto (tgt := 1743) C dL_law_435 (by decide) ?_
    exact r_sub C (lv' := [(4, .int (nI i)), (3, .ref (G.2.1 36)), (2, .ref (G.2.1 37)), (1, .ref (G.2.1 0)), (0, .ref b)]) ⟨rfl, rfl, rfl, rfl, rfl, trivial⟩ (kk _ _ _ hD1 hM2 (by omega))
  · -- 416
    refine r_aload_n C dL_law_416 rfl rfl ?_
    refine r_iconst (v := 0) C dL_law_417 (by decide) ?_
    refine r_lald C (0) (by decide) rfl rfl (by decide) dL_law_418 ?_
    refine r_iload C dL_law_419 rfl ?_
    refine r_bool8 C dL_law_421 dL_law_424 dL_law_425 dL_law_428 ?_
    refine r_lcmp C dL_law_429 ?_
    refine r_if_eq (tgt := 435) C dL_law_430 (by decide) (fun c_430 => ?_) (fun c_430 => absurd ((lcmp_e _ _).mpr (ho c_413)) c_430)
    refine r_goto (tgt := 1743) C dL_law_435 (by decide) ?_
    exact r_sub C (lv' := [(4, .int (nI i)), (3, .ref (G.2.1 36)), (2, .ref (G.2.1 37)), (1, .ref (G.2.1 0)), (0, .ref b)]) ⟨rfl, rfl, rfl, rfl, rfl, trivial⟩ (kk _ _ _ hD1 hM2 (by omega))
set_option maxHeartbeats 4000000 in
set_option maxRecDepth 100000 in
theorem op_4 {l : Launch} (hfl : l.stackTraces = false) {G : Geo} {b L : Nat} {xs : Nat → Int32} {um : Nat} {J : JT} {JX : JXT} (CL : CbL l G b L xs um J JX) {A : DA} {X : St} {u i : Nat} (hL : L ≤ 2048) (hi : i + 4 ≤ L) (hu : u + 3 ≤ um) (hD : DInv X A) (hM : MInv X A) (kk : ∀ (X' : St) (A' : DA) (u' : Nat), DInv X' A' → MInv X' A' → u' ≤ u + 3 → J X' u' 1743 [(4, .int (nI i)), (3, .ref (G.2.1 36)), (2, .ref (G.2.1 37)), (1, .ref (G.2.1 0)), (0, .ref b)] []) : J X u 438 [(4, .int (nI i)), (3, .ref (G.2.1 36)), (2, .ref (G.2.1 37)), (1, .ref (G.2.1 0)), (0, .ref b)] [] := by
  have C := CL.c
  refine r_aload_n C dL_law_438 rfl rfl ?_
  refine r_aload_n C dL_law_439 rfl rfl ?_
  refine r_iload C dL_law_440 rfl ?_
  refine r_iconst (v := 1) C dL_law_442 (by decide) ?_
  refine r_iadd C dL_law_443 ?_
  refine r_sld CL (i + 1) (nI_p i 1) (by omega) hL dL_law_444 ?_
  refine r_aload_n C dL_law_445 rfl rfl ?_
  refine r_iload C dL_law_446 rfl ?_
  refine r_iconst (v := 2) C dL_law_448 (by decide) ?_
  refine r_iadd C dL_law_449 ?_
  refine r_sld CL (i + 2) (nI_p i 2) (by omega) hL dL_law_450 ?_
  refine r_aload_n C dL_law_451 rfl rfl ?_
  refine r_iload C dL_law_452 rfl ?_
  refine r_iconst (v := 3) C dL_law_454 (by decide) ?_
  refine r_iadd C dL_law_455 ?_
  refine r_sld CL (i + 3) (nI_p i 3) (by omega) hL dL_law_456 ?_
  refine r_aload_n C dL_law_457 rfl rfl ?_
  refine cl9_RL_115 CL (con_L_setCost l hfl _ hD) dL_law_458 rfl ⟨Nat.le_of_ble_eq_true rfl, Nat.le_of_ble_eq_true rfl⟩ (by omega) (Nat.le_of_ble_eq_true rfl) (fun r_458 X_458 h_458 => ?_)
  obtain ⟨hM1, hN⟩ := lw_setCost hD hM h_458
  refine r_istore C dL_law_461 (by decide) ?_
  refine r_aload_n C dL_law_463 rfl rfl ?_
  refine r_aload_n C dL_law_464 rfl rfl ?_
  refine r_iload C dL_law_465 rfl ?_
  refine r_iconst (v := 1) C dL_law_467 (by decide) ?_
  refine r_iadd C dL_law_468 ?_
  refine r_sld CL (i + 1) (nI_p i 1) (by omega) hL dL_law_469 ?_
  refine r_aload_n C dL_law_470 rfl rfl ?_
  refine r_iload C dL_law_471 rfl ?_
  refine r_iconst (v := 2) C dL_law_473 (by decide) ?_
  refine r_iadd C dL_law_474 ?_
  refine r_sld CL (i + 2) (nI_p i 2) (by omega) hL dL_law_475 ?_
  refine r_aload_n C dL_law_476 rfl rfl ?_
  refine r_iload C dL_law_477 rfl ?_
  refine r_iconst (v := 3) C dL_law_479 (by decide) ?_
  refine r_iadd C dL_law_480 ?_
  refine r_sld CL (i + 3) (nI_p i 3) (by omega) hL dL_law_481 ?_
  refine cl_RL_118 C (con_X6_setCost l hfl _ hM1) dL_law_482 rfl ⟨Nat.le_of_ble_eq_true rfl, Nat.le_of_ble_eq_true rfl⟩ (by omega) (Nat.le_of_ble_eq_true rfl) (fun r_482 X_482 h_482 => ?_)
  obtain ⟨A1, hD1, hM2, ht, ho⟩ := hN _ _ h_482
  refine r_istore C dL_law_485 (by decide) ?_
  refine r_aload_n C dL_law_487 rfl rfl ?_
  refine cl_RL_102 C (con_X6_thrown l hfl _) dL_law_488 rfl ⟨Nat.le_of_ble_eq_true rfl, Nat.le_of_ble_eq_true rfl⟩ (by omega) (Nat.le_of_ble_eq_true rfl) (fun r_488 X_488 h_488 => ?_)
  obtain ⟨rfl, rfl⟩ := h_488
  refine r_iload C dL_law_491 rfl ?_
  refine r_icmp_eq (tgt := 498) C dL_law_493 (by decide) (fun c_493 => ?_) (fun c_493 => absurd (ht) c_493)
  refine r_iload C dL_law_498 rfl ?_
  refine r_if_ne (tgt := 522) C dL_law_500 (by decide) (fun c_500 => ?_) (fun c_500 => ?_)
  · -- 522
    refine r_goto (tgt := 1743) C dL_law_522 (by decide) ?_
    exact r_sub C (lv' := [(4, .int (nI i)), (3, .ref (G.2.1 36)), (2, .ref (G.2.1 37)), (1, .ref (G.2.1 0)), (0, .ref b)]) ⟨rfl, rfl, rfl, rfl, rfl, trivial⟩ (kk _ _ _ hD1 hM2 (by omega))
  · -- 503
    refine r_aload_n C dL_law_503 rfl rfl ?_
    refine r_iconst (v := 0) C dL_law_504 (by decide) ?_
    refine r_lald C (0) (by decide) rfl rfl (by decide) dL_law_505 ?_
    refine r_iload C dL_law_506 rfl ?_
    refine r_bool8 C dL_law_508 dL_law_511 dL_law_512 dL_law_515 ?_
    refine r_lcmp C dL_law_516 ?_
    refine r_if_eq (tgt := 522) C dL_law_517 (by decide) (fun c_517 => ?_) (fun c_517 => absurd ((lcmp_e _ _).mpr (ho c_500)) c_517)
    refine r_goto (tgt := 1743) C dL_law_522 (by decide) ?_
    exact r_sub C (lv' := [(4, .int (nI i)), (3, .ref (G.2.1 36)), (2, .ref (G.2.1 37)), (1, .ref (G.2.1 0)), (0, .ref b)]) ⟨rfl, rfl, rfl, rfl, rfl, trivial⟩ (kk _ _ _ hD1 hM2 (by omega))
set_option maxHeartbeats 4000000 in
set_option maxRecDepth 100000 in
theorem op_5 {l : Launch} (hfl : l.stackTraces = false) {G : Geo} {b L : Nat} {xs : Nat → Int32} {um : Nat} {J : JT} {JX : JXT} (CL : CbL l G b L xs um J JX) {A : DA} {X : St} {u i : Nat} (hL : L ≤ 2048) (hi : i + 4 ≤ L) (hu : u + 3 ≤ um) (hD : DInv X A) (hM : MInv X A) (kk : ∀ (X' : St) (A' : DA) (u' : Nat), DInv X' A' → MInv X' A' → u' ≤ u + 3 → J X' u' 1743 [(4, .int (nI i)), (3, .ref (G.2.1 36)), (2, .ref (G.2.1 37)), (1, .ref (G.2.1 0)), (0, .ref b)] []) : J X u 525 [(4, .int (nI i)), (3, .ref (G.2.1 36)), (2, .ref (G.2.1 37)), (1, .ref (G.2.1 0)), (0, .ref b)] [] := by
  have C := CL.c
  refine r_aload_n C dL_law_525 rfl rfl ?_
  refine r_aload_n C dL_law_526 rfl rfl ?_
  refine r_iload C dL_law_527 rfl ?_
  refine r_iconst (v := 1) C dL_law_529 (by decide) ?_
  refine r_iadd C dL_law_530 ?_
  refine r_sld CL (i + 1) (nI_p i 1) (by omega) hL dL_law_531 ?_
  refine r_aload_n C dL_law_532 rfl rfl ?_
  refine r_iload C dL_law_533 rfl ?_
  refine r_iconst (v := 2) C dL_law_535 (by decide) ?_
  refine r_iadd C dL_law_536 ?_
  refine r_sld CL (i + 2) (nI_p i 2) (by omega) hL dL_law_537 ?_
  refine r_aload_n C dL_law_538 rfl rfl ?_
  refine cl9_RL_119 CL (con_L_forbid l hfl _ hD) dL_law_539 rfl ⟨Nat.le_of_ble_eq_true rfl, Nat.le_of_ble_eq_true rfl⟩ (by omega) (Nat.le_of_ble_eq_true rfl) (fun r_539 X_539 h_539 => ?_)
  obtain ⟨hM1, hN⟩ := lw_forbid hD hM h_539
  refine r_istore C dL_law_542 (by decide) ?_
  refine r_aload_n C dL_law_544 rfl rfl ?_
  refine r_aload_n C dL_law_545 rfl rfl ?_
  refine r_iload C dL_law_546 rfl ?_
  refine r_iconst (v := 1) C dL_law_548 (by decide) ?_
  refine r_iadd C dL_law_549 ?_
  refine r_sld CL (i + 1) (nI_p i 1) (by omega) hL dL_law_550 ?_
  refine r_aload_n C dL_law_551 rfl rfl ?_
  refine r_iload C dL_law_552 rfl ?_
  refine r_iconst (v := 2) C dL_law_554 (by decide) ?_
  refine r_iadd C dL_law_555 ?_
  refine r_sld CL (i + 2) (nI_p i 2) (by omega) hL dL_law_556 ?_
  refine cl_RL_122 C (con_X6_forbid l hfl _ hM1) dL_law_557 rfl ⟨Nat.le_of_ble_eq_true rfl, Nat.le_of_ble_eq_true rfl⟩ (by omega) (Nat.le_of_ble_eq_true rfl) (fun r_557 X_557 h_557 => ?_)
  obtain ⟨A1, hD1, hM2, ht, ho⟩ := hN _ _ h_557
  refine r_istore C dL_law_560 (by decide) ?_
  refine r_aload_n C dL_law_562 rfl rfl ?_
  refine cl_RL_102 C (con_X6_thrown l hfl _) dL_law_563 rfl ⟨Nat.le_of_ble_eq_true rfl, Nat.le_of_ble_eq_true rfl⟩ (by omega) (Nat.le_of_ble_eq_true rfl) (fun r_563 X_563 h_563 => ?_)
  obtain ⟨rfl, rfl⟩ := h_563
  refine r_iload C dL_law_566 rfl ?_
  refine r_icmp_eq (tgt := 573) C dL_law_568 (by decide) (fun c_568 => ?_) (fun c_568 => absurd (ht) c_568)
  refine r_iload C dL_law_573 rfl ?_
  refine r_if_ne (tgt := 597) C dL_law_575 (by decide) (fun c_575 => ?_) (fun c_575 => ?_)
  · -- 597
    refine r_goto (tgt := 1743) C dL_law_597 (by decide) ?_
    exact r_sub C (lv' := [(4, .int (nI i)), (3, .ref (G.2.1 36)), (2, .ref (G.2.1 37)), (1, .ref (G.2.1 0)), (0, .ref b)]) ⟨rfl, rfl, rfl, rfl, rfl, trivial⟩ (kk _ _ _ hD1 hM2 (by omega))
  · -- 578
    refine r_aload_n C dL_law_578 rfl rfl ?_
    refine r_iconst (v := 0) C dL_law_579 (by decide) ?_
    refine r_lald C (0) (by decide) rfl rfl (by decide) dL_law_580 ?_
    refine r_iload C dL_law_581 rfl ?_
    refine r_bool8 C dL_law_583 dL_law_586 dL_law_587 dL_law_590 ?_
    refine r_lcmp C dL_law_591 ?_
    refine r_if_eq (tgt := 597) C dL_law_592 (by decide) (fun c_592 => ?_) (fun c_592 => absurd ((lcmp_e _ _).mpr (ho c_575)) c_592)
    refine r_goto (tgt := 1743) C dL_law_597 (by decide) ?_
    exact r_sub C (lv' := [(4, .int (nI i)), (3, .ref (G.2.1 36)), (2, .ref (G.2.1 37)), (1, .ref (G.2.1 0)), (0, .ref b)]) ⟨rfl, rfl, rfl, rfl, rfl, trivial⟩ (kk _ _ _ hD1 hM2 (by omega))
set_option maxHeartbeats 4000000 in
set_option maxRecDepth 100000 in
theorem op_6 {l : Launch} (hfl : l.stackTraces = false) {G : Geo} {b L : Nat} {xs : Nat → Int32} {um : Nat} {J : JT} {JX : JXT} (CL : CbL l G b L xs um J JX) {A : DA} {X : St} {u i : Nat} (hL : L ≤ 2048) (hi : i + 4 ≤ L) (hu : u + 3 ≤ um) (hD : DInv X A) (hM : MInv X A) (kk : ∀ (X' : St) (A' : DA) (u' : Nat), DInv X' A' → MInv X' A' → u' ≤ u + 3 → J X' u' 1743 [(4, .int (nI i)), (3, .ref (G.2.1 36)), (2, .ref (G.2.1 37)), (1, .ref (G.2.1 0)), (0, .ref b)] []) : J X u 600 [(4, .int (nI i)), (3, .ref (G.2.1 36)), (2, .ref (G.2.1 37)), (1, .ref (G.2.1 0)), (0, .ref b)] [] := by
  have C := CL.c
  refine r_aload_n C dL_law_600 rfl rfl ?_
  refine r_aload_n C dL_law_601 rfl rfl ?_
  refine r_iload C dL_law_602 rfl ?_
  refine r_iconst (v := 1) C dL_law_604 (by decide) ?_
  refine r_iadd C dL_law_605 ?_
  refine r_sld CL (i + 1) (nI_p i 1) (by omega) hL dL_law_606 ?_
  refine r_aload_n C dL_law_607 rfl rfl ?_
  refine r_iload C dL_law_608 rfl ?_
  refine r_iconst (v := 2) C dL_law_610 (by decide) ?_
  refine r_iadd C dL_law_611 ?_
  refine r_sld CL (i + 2) (nI_p i 2) (by omega) hL dL_law_612 ?_
  refine r_aload_n C dL_law_613 rfl rfl ?_
  refine cl9_RL_123 CL (con_L_addToRow l hfl _ hD) dL_law_614 rfl ⟨Nat.le_of_ble_eq_true rfl, Nat.le_of_ble_eq_true rfl⟩ (by omega) (Nat.le_of_ble_eq_true rfl) (fun r_614 X_614 h_614 => ?_)
  obtain ⟨hM1, hN⟩ := lw_addToRow hD hM h_614
  refine r_istore C dL_law_617 (by decide) ?_
  refine r_aload_n C dL_law_619 rfl rfl ?_
  refine r_aload_n C dL_law_620 rfl rfl ?_
  refine r_iload C dL_law_621 rfl ?_
  refine r_iconst (v := 1) C dL_law_623 (by decide) ?_
  refine r_iadd C dL_law_624 ?_
  refine r_sld CL (i + 1) (nI_p i 1) (by omega) hL dL_law_625 ?_
  refine r_aload_n C dL_law_626 rfl rfl ?_
  refine r_iload C dL_law_627 rfl ?_
  refine r_iconst (v := 2) C dL_law_629 (by decide) ?_
  refine r_iadd C dL_law_630 ?_
  refine r_sld CL (i + 2) (nI_p i 2) (by omega) hL dL_law_631 ?_
  refine cl_RL_125 C (con_X6_addToRow l hfl _ hM1) dL_law_632 rfl ⟨Nat.le_of_ble_eq_true rfl, Nat.le_of_ble_eq_true rfl⟩ (by omega) (Nat.le_of_ble_eq_true rfl) (fun r_632 X_632 h_632 => ?_)
  obtain ⟨A1, hD1, hM2, ht, ho⟩ := hN _ _ h_632
  refine r_istore C dL_law_635 (by decide) ?_
  refine r_aload_n C dL_law_637 rfl rfl ?_
  refine cl_RL_102 C (con_X6_thrown l hfl _) dL_law_638 rfl ⟨Nat.le_of_ble_eq_true rfl, Nat.le_of_ble_eq_true rfl⟩ (by omega) (Nat.le_of_ble_eq_true rfl) (fun r_638 X_638 h_638 => ?_)
  obtain ⟨rfl, rfl⟩ := h_638
  refine r_iload C dL_law_641 rfl ?_
  refine r_icmp_eq (tgt := 648) C dL_law_643 (by decide) (fun c_643 => ?_) (fun c_643 => absurd (ht) c_643)
  refine r_iload C dL_law_648 rfl ?_
  refine r_if_ne (tgt := 665) C dL_law_650 (by decide) (fun c_650 => ?_) (fun c_650 => ?_)
  · -- 665
    refine r_goto (tgt := 1743) C dL_law_665 (by decide) ?_
    exact r_sub C (lv' := [(4, .int (nI i)), (3, .ref (G.2.1 36)), (2, .ref (G.2.1 37)), (1, .ref (G.2.1 0)), (0, .ref b)]) ⟨rfl, rfl, rfl, rfl, rfl, trivial⟩ (kk _ _ _ hD1 hM2 (by omega))
  · -- 653
    refine r_aload_n C dL_law_653 rfl rfl ?_
    refine r_iconst (v := 0) C dL_law_654 (by decide) ?_
    refine r_lald C (0) (by decide) rfl rfl (by decide) dL_law_655 ?_
    refine r_iload C dL_law_656 rfl ?_
    refine r_i2l C dL_law_658 ?_
    refine r_lcmp C dL_law_659 ?_
    refine r_if_eq (tgt := 665) C dL_law_660 (by decide) (fun c_660 => ?_) (fun c_660 => absurd ((lcmp_e _ _).mpr (ho c_650)) c_660)
    refine r_goto (tgt := 1743) C dL_law_665 (by decide) ?_
    exact r_sub C (lv' := [(4, .int (nI i)), (3, .ref (G.2.1 36)), (2, .ref (G.2.1 37)), (1, .ref (G.2.1 0)), (0, .ref b)]) ⟨rfl, rfl, rfl, rfl, rfl, trivial⟩ (kk _ _ _ hD1 hM2 (by omega))
set_option maxHeartbeats 4000000 in
set_option maxRecDepth 100000 in
theorem op_7 {l : Launch} (hfl : l.stackTraces = false) {G : Geo} {b L : Nat} {xs : Nat → Int32} {um : Nat} {J : JT} {JX : JXT} (CL : CbL l G b L xs um J JX) {A : DA} {X : St} {u i : Nat} (hL : L ≤ 2048) (hi : i + 4 ≤ L) (hu : u + 3 ≤ um) (hD : DInv X A) (hM : MInv X A) (kk : ∀ (X' : St) (A' : DA) (u' : Nat), DInv X' A' → MInv X' A' → u' ≤ u + 3 → J X' u' 1743 [(4, .int (nI i)), (3, .ref (G.2.1 36)), (2, .ref (G.2.1 37)), (1, .ref (G.2.1 0)), (0, .ref b)] []) : J X u 668 [(4, .int (nI i)), (3, .ref (G.2.1 36)), (2, .ref (G.2.1 37)), (1, .ref (G.2.1 0)), (0, .ref b)] [] := by
  have C := CL.c
  have hf := Pd_mul (Pd_i2d (xs (i + 2))) Pd_8th (by decide) (by have := (xs (i + 2)).toInt_lt; have := (xs (i + 2)).le_toInt; omega)
  refine r_aload_n C dL_law_668 rfl rfl ?_
  refine r_aload_n C dL_law_669 rfl rfl ?_
  refine r_iload C dL_law_670 rfl ?_
  refine r_iconst (v := 1) C dL_law_672 (by decide) ?_
  refine r_iadd C dL_law_673 ?_
  refine r_sld CL (i + 1) (nI_p i 1) (by omega) hL dL_law_674 ?_
  refine r_aload_n C dL_law_675 rfl rfl ?_
  refine r_iload C dL_law_676 rfl ?_
  refine r_iconst (v := 2) C dL_law_678 (by decide) ?_
  refine r_iadd C dL_law_679 ?_
  refine r_sld CL (i + 2) (nI_p i 2) (by omega) hL dL_law_680 ?_
  refine r_i2d C dL_law_681 ?_
  refine r_ldc2d C dL_law_682 nk_RL_126 ?_
  refine r_dmul C dL_law_685 (Pd_n64 hf) ?_
  refine r_aload_n C dL_law_686 rfl rfl ?_
  refine cl9_RL_128 CL (con_L_scaleColumn l hfl _ hD hf) dL_law_687 rfl ⟨Nat.le_of_ble_eq_true rfl, Nat.le_of_ble_eq_true rfl⟩ (by omega) (Nat.le_of_ble_eq_true rfl) (fun r_687 X_687 h_687 => ?_)
  obtain ⟨hM1, hN⟩ := lw_scaleColumn hD hM hf h_687
  refine r_istore C dL_law_690 (by decide) ?_
  refine r_aload_n C dL_law_692 rfl rfl ?_
  refine r_aload_n C dL_law_693 rfl rfl ?_
  refine r_iload C dL_law_694 rfl ?_
  refine r_iconst (v := 1) C dL_law_696 (by decide) ?_
  refine r_iadd C dL_law_697 ?_
  refine r_sld CL (i + 1) (nI_p i 1) (by omega) hL dL_law_698 ?_
  refine r_aload_n C dL_law_699 rfl rfl ?_
  refine r_iload C dL_law_700 rfl ?_
  refine r_iconst (v := 2) C dL_law_702 (by decide) ?_
  refine r_iadd C dL_law_703 ?_
  refine r_sld CL (i + 2) (nI_p i 2) (by omega) hL dL_law_704 ?_
  refine r_i2d C dL_law_705 ?_
  refine r_ldc2d C dL_law_706 nk_RL_126 ?_
  refine r_dmul C dL_law_709 (Pd_n64 hf) ?_
  refine cl_RL_131 C (con_X6_scaleColumn l hfl _ hM1 hf) dL_law_710 rfl ⟨Nat.le_of_ble_eq_true rfl, Nat.le_of_ble_eq_true rfl⟩ (by omega) (Nat.le_of_ble_eq_true rfl) (fun r_710 X_710 h_710 => ?_)
  obtain ⟨A1, hD1, hM2, ht, ho⟩ := hN _ _ h_710
  refine r_istore C dL_law_713 (by decide) ?_
  refine r_aload_n C dL_law_715 rfl rfl ?_
  refine cl_RL_102 C (con_X6_thrown l hfl _) dL_law_716 rfl ⟨Nat.le_of_ble_eq_true rfl, Nat.le_of_ble_eq_true rfl⟩ (by omega) (Nat.le_of_ble_eq_true rfl) (fun r_716 X_716 h_716 => ?_)
  obtain ⟨rfl, rfl⟩ := h_716
  refine r_iload C dL_law_719 rfl ?_
  refine r_icmp_eq (tgt := 726) C dL_law_721 (by decide) (fun c_721 => ?_) (fun c_721 => absurd (ht) c_721)
  refine r_iload C dL_law_726 rfl ?_
  refine r_if_ne (tgt := 743) C dL_law_728 (by decide) (fun c_728 => ?_) (fun c_728 => ?_)
  · -- 743
    refine r_goto (tgt := 1743) C dL_law_743 (by decide) ?_
    exact r_sub C (lv' := [(4, .int (nI i)), (3, .ref (G.2.1 36)), (2, .ref (G.2.1 37)), (1, .ref (G.2.1 0)), (0, .ref b)]) ⟨rfl, rfl, rfl, rfl, rfl, trivial⟩ (kk _ _ _ hD1 hM2 (by omega))
  · -- 731
    refine r_aload_n C dL_law_731 rfl rfl ?_
    refine r_iconst (v := 0) C dL_law_732 (by decide) ?_
    refine r_lald C (0) (by decide) rfl rfl (by decide) dL_law_733 ?_
    refine r_iload C dL_law_734 rfl ?_
    refine r_i2l C dL_law_736 ?_
    refine r_lcmp C dL_law_737 ?_
    refine r_if_eq (tgt := 743) C dL_law_738 (by decide) (fun c_738 => ?_) (fun c_738 => absurd ((lcmp_e _ _).mpr (ho c_728)) c_738)
    refine r_goto (tgt := 1743) C dL_law_743 (by decide) ?_
    exact r_sub C (lv' := [(4, .int (nI i)), (3, .ref (G.2.1 36)), (2, .ref (G.2.1 37)), (1, .ref (G.2.1 0)), (0, .ref b)]) ⟨rfl, rfl, rfl, rfl, rfl, trivial⟩ (kk _ _ _ hD1 hM2 (by omega))
set_option maxHeartbeats 4000000 in
set_option maxRecDepth 100000 in
theorem op_8 {l : Launch} (hfl : l.stackTraces = false) {G : Geo} {b L : Nat} {xs : Nat → Int32} {um : Nat} {J : JT} {JX : JXT} (CL : CbL l G b L xs um J JX) {A : DA} {X : St} {u i : Nat} (hL : L ≤ 2048) (hi : i + 4 ≤ L) (hu : u + 3 ≤ um) (hD : DInv X A) (hM : MInv X A) (kk : ∀ (X' : St) (A' : DA) (u' : Nat), DInv X' A' → MInv X' A' → u' ≤ u + 3 → J X' u' 1743 [(4, .int (nI i)), (3, .ref (G.2.1 36)), (2, .ref (G.2.1 37)), (1, .ref (G.2.1 0)), (0, .ref b)] []) : J X u 746 [(4, .int (nI i)), (3, .ref (G.2.1 36)), (2, .ref (G.2.1 37)), (1, .ref (G.2.1 0)), (0, .ref b)] [] := by
  have C := CL.c
  refine r_aload_n C dL_law_746 rfl rfl ?_
  refine cl_RL_132 C (con_X5_rowCount l hfl _ hD) dL_law_747 rfl ⟨Nat.le_of_ble_eq_true rfl, Nat.le_of_ble_eq_true rfl⟩ (by omega) (Nat.le_of_ble_eq_true rfl) (fun r_747 X_747 h_747 => ?_)
  obtain ⟨rfl, rfl⟩ := h_747
  refine r_aload_n C dL_law_750 rfl rfl ?_
  refine cl_RL_135 C (con_X6_rowCount l hfl _ hM) dL_law_751 rfl ⟨Nat.le_of_ble_eq_true rfl, Nat.le_of_ble_eq_true rfl⟩ (by omega) (Nat.le_of_ble_eq_true rfl) (fun r_751 X_751 h_751 => ?_)
  obtain ⟨rfl, -, hM2, hF2⟩ := h_751
  refine r_icmp_eq (tgt := 1743) C dL_law_754 (by decide) (fun c_754 => ?_) (fun c_754 => absurd (rfl) c_754)
  exact r_sub C (lv' := [(4, .int (nI i)), (3, .ref (G.2.1 36)), (2, .ref (G.2.1 37)), (1, .ref (G.2.1 0)), (0, .ref b)]) ⟨rfl, rfl, rfl, rfl, rfl, trivial⟩ (kk _ _ _ (di_fr hD hF2) hM2 (by omega))
set_option maxHeartbeats 4000000 in
set_option maxRecDepth 100000 in
theorem op_9 {l : Launch} (hfl : l.stackTraces = false) {G : Geo} {b L : Nat} {xs : Nat → Int32} {um : Nat} {J : JT} {JX : JXT} (CL : CbL l G b L xs um J JX) {A : DA} {X : St} {u i : Nat} (hL : L ≤ 2048) (hi : i + 4 ≤ L) (hu : u + 3 ≤ um) (hD : DInv X A) (hM : MInv X A) (kk : ∀ (X' : St) (A' : DA) (u' : Nat), DInv X' A' → MInv X' A' → u' ≤ u + 3 → J X' u' 1743 [(4, .int (nI i)), (3, .ref (G.2.1 36)), (2, .ref (G.2.1 37)), (1, .ref (G.2.1 0)), (0, .ref b)] []) : J X u 759 [(4, .int (nI i)), (3, .ref (G.2.1 36)), (2, .ref (G.2.1 37)), (1, .ref (G.2.1 0)), (0, .ref b)] [] := by
  have C := CL.c
  refine r_aload_n C dL_law_759 rfl rfl ?_
  refine cl_RL_136 C (con_X5_columnCount l hfl _ hD) dL_law_760 rfl ⟨Nat.le_of_ble_eq_true rfl, Nat.le_of_ble_eq_true rfl⟩ (by omega) (Nat.le_of_ble_eq_true rfl) (fun r_760 X_760 h_760 => ?_)
  obtain ⟨rfl, rfl⟩ := h_760
  refine r_aload_n C dL_law_763 rfl rfl ?_
  refine cl_RL_139 C (con_X6_columnCount l hfl _ hM) dL_law_764 rfl ⟨Nat.le_of_ble_eq_true rfl, Nat.le_of_ble_eq_true rfl⟩ (by omega) (Nat.le_of_ble_eq_true rfl) (fun r_764 X_764 h_764 => ?_)
  obtain ⟨rfl, -, hM2, hF2⟩ := h_764
  refine r_icmp_eq (tgt := 1743) C dL_law_767 (by decide) (fun c_767 => ?_) (fun c_767 => absurd (rfl) c_767)
  exact r_sub C (lv' := [(4, .int (nI i)), (3, .ref (G.2.1 36)), (2, .ref (G.2.1 37)), (1, .ref (G.2.1 0)), (0, .ref b)]) ⟨rfl, rfl, rfl, rfl, rfl, trivial⟩ (kk _ _ _ (di_fr hD hF2) hM2 (by omega))
set_option maxHeartbeats 4000000 in
set_option maxRecDepth 100000 in
theorem op_10 {l : Launch} (hfl : l.stackTraces = false) {G : Geo} {b L : Nat} {xs : Nat → Int32} {um : Nat} {J : JT} {JX : JXT} (CL : CbL l G b L xs um J JX) {A : DA} {X : St} {u i : Nat} (hL : L ≤ 2048) (hi : i + 4 ≤ L) (hu : u + 3 ≤ um) (hD : DInv X A) (hM : MInv X A) (kk : ∀ (X' : St) (A' : DA) (u' : Nat), DInv X' A' → MInv X' A' → u' ≤ u + 3 → J X' u' 1743 [(4, .int (nI i)), (3, .ref (G.2.1 36)), (2, .ref (G.2.1 37)), (1, .ref (G.2.1 0)), (0, .ref b)] []) : J X u 772 [(4, .int (nI i)), (3, .ref (G.2.1 36)), (2, .ref (G.2.1 37)), (1, .ref (G.2.1 0)), (0, .ref b)] [] := by
  have C := CL.c
  refine r_aload_n C dL_law_772 rfl rfl ?_
  refine r_aload_n C dL_law_773 rfl rfl ?_
  refine r_iload C dL_law_774 rfl ?_
  refine r_iconst (v := 1) C dL_law_776 (by decide) ?_
  refine r_iadd C dL_law_777 ?_
  refine r_sld CL (i + 1) (nI_p i 1) (by omega) hL dL_law_778 ?_
  refine r_aload_n C dL_law_779 rfl rfl ?_
  refine r_iload C dL_law_780 rfl ?_
  refine r_iconst (v := 2) C dL_law_782 (by decide) ?_
  refine r_iadd C dL_law_783 ?_
  refine r_sld CL (i + 2) (nI_p i 2) (by omega) hL dL_law_784 ?_
  refine r_aload_n C dL_law_785 rfl rfl ?_
  refine cl9_RL_140 CL (con_L_isAllowed l hfl _ hD) dL_law_786 rfl ⟨Nat.le_of_ble_eq_true rfl, Nat.le_of_ble_eq_true rfl⟩ (by omega) (Nat.le_of_ble_eq_true rfl) (fun r_786 X_786 h_786 => ?_)
  obtain ⟨hM1, hN⟩ := lw_isAllowed hD hM h_786
  refine r_istore C dL_law_789 (by decide) ?_
  refine r_aload_n C dL_law_791 rfl rfl ?_
  refine r_aload_n C dL_law_792 rfl rfl ?_
  refine r_iload C dL_law_793 rfl ?_
  refine r_iconst (v := 1) C dL_law_795 (by decide) ?_
  refine r_iadd C dL_law_796 ?_
  refine r_sld CL (i + 1) (nI_p i 1) (by omega) hL dL_law_797 ?_
  refine r_aload_n C dL_law_798 rfl rfl ?_
  refine r_iload C dL_law_799 rfl ?_
  refine r_iconst (v := 2) C dL_law_801 (by decide) ?_
  refine r_iadd C dL_law_802 ?_
  refine r_sld CL (i + 2) (nI_p i 2) (by omega) hL dL_law_803 ?_
  refine cl_RL_142 C (con_X6_isAllowed l hfl _ hM1) dL_law_804 rfl ⟨Nat.le_of_ble_eq_true rfl, Nat.le_of_ble_eq_true rfl⟩ (by omega) (Nat.le_of_ble_eq_true rfl) (fun r_804 X_804 h_804 => ?_)
  obtain ⟨A1, hD1, hM2, ht, ho⟩ := hN _ _ h_804
  refine r_istore C dL_law_807 (by decide) ?_
  refine r_aload_n C dL_law_809 rfl rfl ?_
  refine cl_RL_102 C (con_X6_thrown l hfl _) dL_law_810 rfl ⟨Nat.le_of_ble_eq_true rfl, Nat.le_of_ble_eq_true rfl⟩ (by omega) (Nat.le_of_ble_eq_true rfl) (fun r_810 X_810 h_810 => ?_)
  obtain ⟨rfl, rfl⟩ := h_810
  refine r_iload C dL_law_813 rfl ?_
  refine r_icmp_eq (tgt := 820) C dL_law_815 (by decide) (fun c_815 => ?_) (fun c_815 => absurd (ht) c_815)
  refine r_iload C dL_law_820 rfl ?_
  refine r_if_ne (tgt := 844) C dL_law_822 (by decide) (fun c_822 => ?_) (fun c_822 => ?_)
  · -- 844
    refine r_goto (tgt := 1743) C dL_law_844 (by decide) ?_
    exact r_sub C (lv' := [(4, .int (nI i)), (3, .ref (G.2.1 36)), (2, .ref (G.2.1 37)), (1, .ref (G.2.1 0)), (0, .ref b)]) ⟨rfl, rfl, rfl, rfl, rfl, trivial⟩ (kk _ _ _ hD1 hM2 (by omega))
  · -- 825
    refine r_aload_n C dL_law_825 rfl rfl ?_
    refine r_iconst (v := 0) C dL_law_826 (by decide) ?_
    refine r_lald C (0) (by decide) rfl rfl (by decide) dL_law_827 ?_
    refine r_iload C dL_law_828 rfl ?_
    refine r_bool8 C dL_law_830 dL_law_833 dL_law_834 dL_law_837 ?_
    refine r_lcmp C dL_law_838 ?_
    refine r_if_eq (tgt := 844) C dL_law_839 (by decide) (fun c_839 => ?_) (fun c_839 => absurd ((lcmp_e _ _).mpr (ho c_822)) c_839)
    refine r_goto (tgt := 1743) C dL_law_844 (by decide) ?_
    exact r_sub C (lv' := [(4, .int (nI i)), (3, .ref (G.2.1 36)), (2, .ref (G.2.1 37)), (1, .ref (G.2.1 0)), (0, .ref b)]) ⟨rfl, rfl, rfl, rfl, rfl, trivial⟩ (kk _ _ _ hD1 hM2 (by omega))
set_option maxHeartbeats 4000000 in
set_option maxRecDepth 100000 in
theorem op_11 {l : Launch} (hfl : l.stackTraces = false) {G : Geo} {b L : Nat} {xs : Nat → Int32} {um : Nat} {J : JT} {JX : JXT} (CL : CbL l G b L xs um J JX) {A : DA} {X : St} {u i : Nat} (hL : L ≤ 2048) (hi : i + 4 ≤ L) (hu : u + 3 ≤ um) (hD : DInv X A) (hM : MInv X A) (kk : ∀ (X' : St) (A' : DA) (u' : Nat), DInv X' A' → MInv X' A' → u' ≤ u + 3 → J X' u' 1743 [(4, .int (nI i)), (3, .ref (G.2.1 36)), (2, .ref (G.2.1 37)), (1, .ref (G.2.1 0)), (0, .ref b)] []) : J X u 847 [(4, .int (nI i)), (3, .ref (G.2.1 36)), (2, .ref (G.2.1 37)), (1, .ref (G.2.1 0)), (0, .ref b)] [] := by
  have C := CL.c
  refine r_aload_n C dL_law_847 rfl rfl ?_
  refine r_aload_n C dL_law_848 rfl rfl ?_
  refine r_iload C dL_law_849 rfl ?_
  refine r_iconst (v := 1) C dL_law_851 (by decide) ?_
  refine r_iadd C dL_law_852 ?_
  refine r_sld CL (i + 1) (nI_p i 1) (by omega) hL dL_law_853 ?_
  refine r_aload_n C dL_law_854 rfl rfl ?_
  refine r_iload C dL_law_855 rfl ?_
  refine r_iconst (v := 2) C dL_law_857 (by decide) ?_
  refine r_iadd C dL_law_858 ?_
  refine r_sld CL (i + 2) (nI_p i 2) (by omega) hL dL_law_859 ?_
  refine r_aload_n C dL_law_860 rfl rfl ?_
  refine cl9_RL_143 CL (con_L_cost l hfl _ hD) dL_law_861 rfl ⟨Nat.le_of_ble_eq_true rfl, Nat.le_of_ble_eq_true rfl⟩ (by omega) (Nat.le_of_ble_eq_true rfl) (fun r_861 X_861 h_861 => ?_)
  obtain ⟨hM1, hN⟩ := lw_cost hD hM h_861
  refine r_istore C dL_law_864 (by decide) ?_
  refine r_aload_n C dL_law_866 rfl rfl ?_
  refine r_aload_n C dL_law_867 rfl rfl ?_
  refine r_iload C dL_law_868 rfl ?_
  refine r_iconst (v := 1) C dL_law_870 (by decide) ?_
  refine r_iadd C dL_law_871 ?_
  refine r_sld CL (i + 1) (nI_p i 1) (by omega) hL dL_law_872 ?_
  refine r_aload_n C dL_law_873 rfl rfl ?_
  refine r_iload C dL_law_874 rfl ?_
  refine r_iconst (v := 2) C dL_law_876 (by decide) ?_
  refine r_iadd C dL_law_877 ?_
  refine r_sld CL (i + 2) (nI_p i 2) (by omega) hL dL_law_878 ?_
  refine cl_RL_145 C (con_X6_cost l hfl _ hM1) dL_law_879 rfl ⟨Nat.le_of_ble_eq_true rfl, Nat.le_of_ble_eq_true rfl⟩ (by omega) (Nat.le_of_ble_eq_true rfl) (fun r_879 X_879 h_879 => ?_)
  obtain ⟨A1, hD1, hM2, ht, ho⟩ := hN _ _ h_879
  refine r_istore C dL_law_882 (by decide) ?_
  refine r_aload_n C dL_law_884 rfl rfl ?_
  refine cl_RL_102 C (con_X6_thrown l hfl _) dL_law_885 rfl ⟨Nat.le_of_ble_eq_true rfl, Nat.le_of_ble_eq_true rfl⟩ (by omega) (Nat.le_of_ble_eq_true rfl) (fun r_885 X_885 h_885 => ?_)
  obtain ⟨rfl, rfl⟩ := h_885
  refine r_iload C dL_law_888 rfl ?_
  refine r_icmp_eq (tgt := 895) C dL_law_890 (by decide) (fun c_890 => ?_) (fun c_890 => absurd (ht) c_890)
  refine r_iload C dL_law_895 rfl ?_
  refine r_if_ne (tgt := 912) C dL_law_897 (by decide) (fun c_897 => ?_) (fun c_897 => ?_)
  · -- 912
    refine r_goto (tgt := 1743) C dL_law_912 (by decide) ?_
    exact r_sub C (lv' := [(4, .int (nI i)), (3, .ref (G.2.1 36)), (2, .ref (G.2.1 37)), (1, .ref (G.2.1 0)), (0, .ref b)]) ⟨rfl, rfl, rfl, rfl, rfl, trivial⟩ (kk _ _ _ hD1 hM2 (by omega))
  · -- 900
    refine r_aload_n C dL_law_900 rfl rfl ?_
    refine r_iconst (v := 0) C dL_law_901 (by decide) ?_
    refine r_lald C (0) (by decide) rfl rfl (by decide) dL_law_902 ?_
    refine r_iload C dL_law_903 rfl ?_
    refine r_i2l C dL_law_905 ?_
    refine r_lcmp C dL_law_906 ?_
    refine r_if_eq (tgt := 912) C dL_law_907 (by decide) (fun c_907 => ?_) (fun c_907 => absurd ((lcmp_e _ _).mpr (ho c_897)) c_907)
    refine r_goto (tgt := 1743) C dL_law_912 (by decide) ?_
    exact r_sub C (lv' := [(4, .int (nI i)), (3, .ref (G.2.1 36)), (2, .ref (G.2.1 37)), (1, .ref (G.2.1 0)), (0, .ref b)]) ⟨rfl, rfl, rfl, rfl, rfl, trivial⟩ (kk _ _ _ hD1 hM2 (by omega))
set_option maxHeartbeats 4000000 in
set_option maxRecDepth 100000 in
theorem op_12 {l : Launch} (hfl : l.stackTraces = false) {G : Geo} {b L : Nat} {xs : Nat → Int32} {um : Nat} {J : JT} {JX : JXT} (CL : CbL l G b L xs um J JX) {A : DA} {X : St} {u i : Nat} (hL : L ≤ 2048) (hi : i + 4 ≤ L) (hu : u + 3 ≤ um) (hD : DInv X A) (hM : MInv X A) (kk : ∀ (X' : St) (A' : DA) (u' : Nat), DInv X' A' → MInv X' A' → u' ≤ u + 3 → J X' u' 1743 [(4, .int (nI i)), (3, .ref (G.2.1 36)), (2, .ref (G.2.1 37)), (1, .ref (G.2.1 0)), (0, .ref b)] []) : J X u 915 [(4, .int (nI i)), (3, .ref (G.2.1 36)), (2, .ref (G.2.1 37)), (1, .ref (G.2.1 0)), (0, .ref b)] [] := by
  have C := CL.c
  refine r_aload_n C dL_law_915 rfl rfl ?_
  refine cl_RL_146 C (con_X5_size l hfl _ hD) dL_law_916 rfl ⟨Nat.le_of_ble_eq_true rfl, Nat.le_of_ble_eq_true rfl⟩ (by omega) (Nat.le_of_ble_eq_true rfl) (fun r_916 X_916 h_916 => ?_)
  obtain ⟨e1, hD1, hF1⟩ := h_916
  refine r_aload_n C dL_law_919 rfl rfl ?_
  refine cl_RL_149 C (con_X6_size l hfl _ (mi_fr hM hF1)) dL_law_920 rfl ⟨Nat.le_of_ble_eq_true rfl, Nat.le_of_ble_eq_true rfl⟩ (by omega) (Nat.le_of_ble_eq_true rfl) (fun r_920 X_920 h_920 => ?_)
  obtain ⟨e2, -, hM2, hF2⟩ := h_920
  have e3 : r_916 = r_920 := e1.trans e2.symm
  clear e1 e2
  subst e3
  refine r_icmp_eq (tgt := 1743) C dL_law_923 (by decide) (fun c_923 => ?_) (fun c_923 => absurd (rfl) c_923)
  exact r_sub C (lv' := [(4, .int (nI i)), (3, .ref (G.2.1 36)), (2, .ref (G.2.1 37)), (1, .ref (G.2.1 0)), (0, .ref b)]) ⟨rfl, rfl, rfl, rfl, rfl, trivial⟩ (kk _ _ _ (di_fr hD1 hF2) hM2 (by omega))
set_option maxHeartbeats 4000000 in
set_option maxRecDepth 100000 in
theorem op_13 {l : Launch} (hfl : l.stackTraces = false) {G : Geo} {b L : Nat} {xs : Nat → Int32} {um : Nat} {J : JT} {JX : JXT} (CL : CbL l G b L xs um J JX) {A : DA} {X : St} {u i : Nat} (hL : L ≤ 2048) (hi : i + 4 ≤ L) (hu : u + 3 ≤ um) (hD : DInv X A) (hM : MInv X A) (kk : ∀ (X' : St) (A' : DA) (u' : Nat), DInv X' A' → MInv X' A' → u' ≤ u + 3 → J X' u' 1743 [(4, .int (nI i)), (3, .ref (G.2.1 36)), (2, .ref (G.2.1 37)), (1, .ref (G.2.1 0)), (0, .ref b)] []) : J X u 928 [(4, .int (nI i)), (3, .ref (G.2.1 36)), (2, .ref (G.2.1 37)), (1, .ref (G.2.1 0)), (0, .ref b)] [] := by
  have C := CL.c
  refine r_aload_n C dL_law_928 rfl rfl ?_
  refine cl_RL_150 C (con_X5_total l hfl _ hD) dL_law_929 rfl ⟨Nat.le_of_ble_eq_true rfl, Nat.le_of_ble_eq_true rfl⟩ (by omega) (Nat.le_of_ble_eq_true rfl) (fun r_929 X_929 h_929 => ?_)
  obtain ⟨e1, hD1, hF1⟩ := h_929
  refine r_aload_n C dL_law_932 rfl rfl ?_
  refine cl_RL_153 C (con_X6_total l hfl _ (mi_fr hM hF1)) dL_law_933 rfl ⟨Nat.le_of_ble_eq_true rfl, Nat.le_of_ble_eq_true rfl⟩ (by omega) (Nat.le_of_ble_eq_true rfl) (fun r_933 X_933 h_933 => ?_)
  obtain ⟨e2, -, hM2, hF2⟩ := h_933
  have e3 : r_929 = r_933 := e1.trans e2.symm
  clear e1 e2
  subst e3
  refine r_icmp_eq (tgt := 1743) C dL_law_936 (by decide) (fun c_936 => ?_) (fun c_936 => absurd (rfl) c_936)
  exact r_sub C (lv' := [(4, .int (nI i)), (3, .ref (G.2.1 36)), (2, .ref (G.2.1 37)), (1, .ref (G.2.1 0)), (0, .ref b)]) ⟨rfl, rfl, rfl, rfl, rfl, trivial⟩ (kk _ _ _ (di_fr hD1 hF2) hM2 (by omega))
set_option maxHeartbeats 4000000 in
set_option maxRecDepth 100000 in
theorem op_14 {l : Launch} (hfl : l.stackTraces = false) {G : Geo} {b L : Nat} {xs : Nat → Int32} {um : Nat} {J : JT} {JX : JXT} (CL : CbL l G b L xs um J JX) {A : DA} {X : St} {u i : Nat} (hL : L ≤ 2048) (hi : i + 4 ≤ L) (hu : u + 3 ≤ um) (hD : DInv X A) (hM : MInv X A) (kk : ∀ (X' : St) (A' : DA) (u' : Nat), DInv X' A' → MInv X' A' → u' ≤ u + 3 → J X' u' 1743 [(4, .int (nI i)), (3, .ref (G.2.1 36)), (2, .ref (G.2.1 37)), (1, .ref (G.2.1 0)), (0, .ref b)] []) : J X u 941 [(4, .int (nI i)), (3, .ref (G.2.1 36)), (2, .ref (G.2.1 37)), (1, .ref (G.2.1 0)), (0, .ref b)] [] := by
  have C := CL.c
  refine r_aload_n C dL_law_941 rfl rfl ?_
  refine cl_RL_154 C (con_X5_meanCost l hfl _ hD) dL_law_942 rfl ⟨Nat.le_of_ble_eq_true rfl, Nat.le_of_ble_eq_true rfl⟩ (by omega) (Nat.le_of_ble_eq_true rfl) (fun r_942 X_942 h_942 => ?_)
  obtain ⟨e1, hD1, hF1⟩ := h_942
  refine r_dstore C dL_law_945 (by decide) ?_
  refine r_aload_n C dL_law_947 rfl rfl ?_
  refine cl_RL_158 C (con_X6_meanCost l hfl _ (mi_fr hM hF1)) dL_law_948 rfl ⟨Nat.le_of_ble_eq_true rfl, Nat.le_of_ble_eq_true rfl⟩ (by omega) (Nat.le_of_ble_eq_true rfl) (fun r_948 X_948 h_948 => ?_)
  obtain ⟨e2, -, hM2, hF2⟩ := h_948
  have e3 : r_942 = r_948 := e1.trans e2.symm
  clear e1 e2
  subst e3
  refine r_dstore C dL_law_951 (by decide) ?_
  refine r_dload C dL_law_953 rfl ?_
  refine r_dload C dL_law_955 rfl ?_
  refine r_dcmp C dL_law_957 ?_
  refine r_if_eq (tgt := 979) C dL_law_958 (by decide) (fun c_958 => ?_) (fun c_958 => ?_)
  · -- 979
    refine r_goto (tgt := 1743) C dL_law_979 (by decide) ?_
    exact r_sub C (lv' := [(4, .int (nI i)), (3, .ref (G.2.1 36)), (2, .ref (G.2.1 37)), (1, .ref (G.2.1 0)), (0, .ref b)]) ⟨rfl, rfl, rfl, rfl, rfl, trivial⟩ (kk _ _ _ (di_fr hD1 hF2) hM2 (by omega))
  · -- 961
    refine r_dload C dL_law_961 rfl ?_
    refine r_dload C dL_law_963 rfl ?_
    refine r_dcmp C dL_law_965 ?_
    refine r_if_eq (tgt := 977) C dL_law_966 (by decide) (fun c_966 => absurd c_966 (c_958)) (fun c_966 => ?_)
    refine r_dload C dL_law_969 rfl ?_
    refine r_dload C dL_law_971 rfl ?_
    refine r_dcmp C dL_law_973 ?_
    refine r_if_ne (tgt := 979) C dL_law_974 (by decide) (fun c_974 => ?_) (fun c_974 => absurd c_974 (c_958))
    refine r_goto (tgt := 1743) C dL_law_979 (by decide) ?_
    exact r_sub C (lv' := [(4, .int (nI i)), (3, .ref (G.2.1 36)), (2, .ref (G.2.1 37)), (1, .ref (G.2.1 0)), (0, .ref b)]) ⟨rfl, rfl, rfl, rfl, rfl, trivial⟩ (kk _ _ _ (di_fr hD1 hF2) hM2 (by omega))
