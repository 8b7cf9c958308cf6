/-! PART 98: the calls of the law -/
section ZL9
variable {g : zCtx} {l0 : Launch} {nm : String} {M00 : zMem} {post : Option Value → zMem → Prop} {tab : List ExceptionTableEntry} {L : Nat} {xs : Nat → Int32} {ix : Int32} {k nn : Nat}
variable {n : Nat → Nat} {i x : Nat → Nat → Int32} {lm : Nat → Nat → Int64} {y : Nat → Nat → Nat} {t : Nat} {ol : Int64} {od : UInt64}
set_option maxRecDepth 100000 in
set_option maxHeartbeats 4000000 in
theorem k_now (hl0 : l0.stackTraces = false) (X : zCx g l0 cL_law 9 (some .boolean) RL nm wsL_law 19 10812 603072 7215210 M00 post zno tab) (S : zScr g L xs) (hb : ∀ i : Int, 1 ≤ i → i ≤ 4 → vp_in (ix + Int32.ofInt i) L) (h : CI n i x lm y t) (hk : k + 8 ≤ 603072 ∧ nn + 1100 ≤ 7215210) (K : zKK g ix (k + 8) (nn + 1100)) : zE g 9 216 (lB ix) [] (zmg (cmm n i x lm y ol od) (zmm i lm)) k nn := by
  refine z_wide (a := 8) (b := 1100) ?_
  refine z_aload_n X 4 dL_law_216 rfl rfl ?_
  refine z_callViN (As := []) (rest := []) (n1 := 0) (ci := 10) X dL_law_217 (zC_i (c_X7_now l0 hl0 n i x lm y ol od h.1) zCok_cmm (fun _ C' hv => by obtain ⟨-, rfl⟩ := hv; exact zCok_cmm) rfl) gL_law_X7_now rfl rfl (by decide +kernel) ⟨by decide, by decide⟩ zg1 rfl rfl (Nat.le_of_ble_eq_true rfl) ⟨by omega, by omega⟩ ?_
  rintro v9 G9 ⟨C9, ⟨hv9, rfl⟩, rfl⟩
  refine z_aload_n X 3 dL_law_220 rfl rfl ?_
  refine z_callViN (As := []) (rest := [.int v9]) (n1 := 0) (ci := 11) X dL_law_221 (zM_i (av' := [.ref 48]) (c_X8_now l0 i lm) zCok_cmm rfl) gL_law_X8_now rfl rfl (by decide +kernel) ⟨by decide, by decide⟩ zg48 rfl rfl (Nat.le_of_ble_eq_true rfl) ⟨by omega, by omega⟩ ?_
  rintro w9 G9 ⟨rfl, rfl⟩
  exact z_icmp_eq (tgt := 2357) X dL_law_224 (by decide) (fun _ => z_mem (M' := zmg (cmm n (zup i 1 43 0) x lm y ol od) (zmm (zup i 1 43 0) lm)) (by rw [c43]; rfl) (K _ _ _ _ _ _ _ _ (CI_43 h))) (fun q => absurd (hv9) q)
set_option maxRecDepth 100000 in
set_option maxHeartbeats 4000000 in
theorem k_pass (hl0 : l0.stackTraces = false) (X : zCx g l0 cL_law 9 (some .boolean) RL nm wsL_law 19 10812 603072 7215210 M00 post zno tab) (S : zScr g L xs) (hb : ∀ i : Int, 1 ≤ i → i ≤ 4 → vp_in (ix + Int32.ofInt i) L) (h : CI n i x lm y t) (hk : k + 8 ≤ 603072 ∧ nn + 1100 ≤ 7215210) (K : zKK g ix (k + 8) (nn + 1100)) : zE g 9 229 (lB ix) [] (zmg (cmm n i x lm y ol od) (zmm i lm)) k nn := by
  refine z_aload_n X 4 dL_law_229 rfl rfl ?_
  refine zl_arg (i := 1) X S 5 0 (hb 1 (by decide) (by decide)) dL_law_230 dL_law_231 dL_law_233 dL_law_234 dL_law_235 rfl rfl ?_
  refine z_aload_n X 2 dL_law_236 rfl rfl ?_
  refine z_callSWiN (As := [.ref 1, .int (zar xs ix 1), .ref 14]) (rest := []) (n1 := 3) X dL_law_237 (zC_i (h_pass l0 hl0 h ol od (zar xs ix 1)) zCok_cmm (fun _ _ hv => zO_ok hv) rfl) gL_law_L_pass rfl rfl (by decide +kernel) ⟨by decide, by decide⟩ rfl (Nat.le_of_ble_eq_true rfl) hk ?_
  rintro k6 G9 ⟨C9, ⟨n', x', y', t', ol', od', rfl, hci, hk6, hv⟩, rfl⟩
  refine z_istore (ls' := (6, .int k6) :: lB ix) X dL_law_240 (by decide) rfl ?_
  refine z_aload_n X 4 dL_law_242 rfl rfl ?_
  refine zl_arg (i := 1) X S 6 1 (hb 1 (by decide) (by decide)) dL_law_243 dL_law_244 dL_law_246 dL_law_247 dL_law_248 rfl rfl ?_
  refine z_callViN (As := [.int (zar xs ix 1)]) (rest := []) (n1 := 1) (ci := 11) X dL_law_249 (zM_i (av' := [.ref 48, .int (zar xs ix 1)]) (c_X8_pass l0 i lm (n 5) (n 7) (n 8) (CI_mWF h) (zar xs ix 1)) zCok_cmm rfl) gL_law_X8_pass rfl rfl (by decide +kernel) ⟨by decide, by decide⟩ zg48 rfl rfl (Nat.le_of_ble_eq_true rfl) hk ?_
  rintro v9 G9 ⟨rfl, rfl⟩
  refine z_istore (ls' := (7, .int _) :: (6, .int k6) :: lB ix) X dL_law_252 (by decide) rfl ?_
  exact zl_tI X hk dL_law_254 dL_law_255 dL_law_258 dL_law_260 dL_law_265 dL_law_267 dL_law_270 dL_law_271 dL_law_272 dL_law_273 dL_law_275 dL_law_276 dL_law_277 dL_law_282 (by decide) ((t43_pass _ _ _ _ _).trans hk6.symm) hv hci K
set_option maxRecDepth 100000 in
set_option maxHeartbeats 4000000 in
theorem k_setOutside (hl0 : l0.stackTraces = false) (X : zCx g l0 cL_law 9 (some .boolean) RL nm wsL_law 19 10812 603072 7215210 M00 post zno tab) (S : zScr g L xs) (hb : ∀ i : Int, 1 ≤ i → i ≤ 4 → vp_in (ix + Int32.ofInt i) L) (h : CI n i x lm y t) (hk : k + 8 ≤ 603072 ∧ nn + 1100 ≤ 7215210) (K : zKK g ix (k + 8) (nn + 1100)) : zE g 9 285 (lB ix) [] (zmg (cmm n i x lm y ol od) (zmm i lm)) k nn := by
  refine z_aload_n X 4 dL_law_285 rfl rfl ?_
  refine zl_arg (i := 1) X S 5 0 (hb 1 (by decide) (by decide)) dL_law_286 dL_law_287 dL_law_289 dL_law_290 dL_law_291 rfl rfl ?_
  refine z_aload_n X 2 dL_law_292 rfl rfl ?_
  refine z_callSWiN (As := [.ref 1, .int (zar xs ix 1), .ref 14]) (rest := []) (n1 := 3) X dL_law_293 (zC_i (h_setOutside l0 hl0 h ol od (zar xs ix 1)) zCok_cmm (fun _ _ hv => zO_ok hv) rfl) gL_law_L_setOutside rfl rfl (by decide +kernel) ⟨by decide, by decide⟩ rfl (Nat.le_of_ble_eq_true rfl) hk ?_
  rintro k6 G9 ⟨C9, ⟨n', x', y', t', ol', od', rfl, hci, hk6, hv⟩, rfl⟩
  refine z_istore (ls' := (6, .int k6) :: lB ix) X dL_law_296 (by decide) rfl ?_
  refine z_aload_n X 4 dL_law_298 rfl rfl ?_
  refine zl_arg (i := 1) X S 6 1 (hb 1 (by decide) (by decide)) dL_law_299 dL_law_300 dL_law_302 dL_law_303 dL_law_304 rfl rfl ?_
  refine z_callViN (As := [.int (zar xs ix 1)]) (rest := []) (n1 := 1) (ci := 11) X dL_law_305 (zM_i (av' := [.ref 48, .int (zar xs ix 1)]) (c_X8_setOutside l0 i lm (zar xs ix 1)) zCok_cmm rfl) gL_law_X8_setOutside rfl rfl (by decide +kernel) ⟨by decide, by decide⟩ zg48 rfl rfl (Nat.le_of_ble_eq_true rfl) hk ?_
  rintro v9 G9 ⟨rfl, rfl⟩
  refine z_istore (ls' := (7, .int _) :: (6, .int k6) :: lB ix) X dL_law_308 (by decide) rfl ?_
  exact zl_tI X hk dL_law_310 dL_law_311 dL_law_314 dL_law_316 dL_law_321 dL_law_323 dL_law_326 dL_law_327 dL_law_328 dL_law_329 dL_law_331 dL_law_332 dL_law_333 dL_law_338 (by decide) ((t43_setOutside _ _).trans hk6.symm) hv hci K
set_option maxRecDepth 100000 in
set_option maxHeartbeats 4000000 in
theorem k_addRoom (hl0 : l0.stackTraces = false) (X : zCx g l0 cL_law 9 (some .boolean) RL nm wsL_law 19 10812 603072 7215210 M00 post zno tab) (S : zScr g L xs) (hb : ∀ i : Int, 1 ≤ i → i ≤ 4 → vp_in (ix + Int32.ofInt i) L) (h : CI n i x lm y t) (hk : k + 8 ≤ 603072 ∧ nn + 1100 ≤ 7215210) (K : zKK g ix (k + 8) (nn + 1100)) : zE g 9 341 (lB ix) [] (zmg (cmm n i x lm y ol od) (zmm i lm)) k nn := by
  refine z_aload_n X 4 dL_law_341 rfl rfl ?_
  refine zl_arg (i := 1) X S 5 0 (hb 1 (by decide) (by decide)) dL_law_342 dL_law_343 dL_law_345 dL_law_346 dL_law_347 rfl rfl ?_
  refine zl_arg (i := 2) X S 5 0 (hb 2 (by decide) (by decide)) dL_law_348 dL_law_349 dL_law_351 dL_law_352 dL_law_353 rfl rfl ?_
  refine zl_arg (i := 3) X S 5 0 (hb 3 (by decide) (by decide)) dL_law_354 dL_law_355 dL_law_357 dL_law_358 dL_law_359 rfl rfl ?_
  refine z_aload_n X 2 dL_law_360 rfl rfl ?_
  refine z_callSWiN (As := [.ref 1, .int (zar xs ix 1), .int (zar xs ix 2), .int (zar xs ix 3), .ref 14]) (rest := []) (n1 := 5) X dL_law_361 (zC_i (h_addRoom l0 hl0 h ol od (zar xs ix 1) (zar xs ix 2) (zar xs ix 3)) zCok_cmm (fun _ _ hv => zO_ok hv) rfl) gL_law_L_addRoom rfl rfl (by decide +kernel) ⟨by decide, by decide⟩ rfl (Nat.le_of_ble_eq_true rfl) hk ?_
  rintro k6 G9 ⟨C9, ⟨n', x', y', t', ol', od', rfl, hci, hk6, hv⟩, rfl⟩
  refine z_istore (ls' := (6, .int k6) :: lB ix) X dL_law_364 (by decide) rfl ?_
  refine z_aload_n X 4 dL_law_366 rfl rfl ?_
  refine zl_arg (i := 1) X S 6 1 (hb 1 (by decide) (by decide)) dL_law_367 dL_law_368 dL_law_370 dL_law_371 dL_law_372 rfl rfl ?_
  refine zl_arg (i := 2) X S 6 1 (hb 2 (by decide) (by decide)) dL_law_373 dL_law_374 dL_law_376 dL_law_377 dL_law_378 rfl rfl ?_
  refine zl_arg (i := 3) X S 6 1 (hb 3 (by decide) (by decide)) dL_law_379 dL_law_380 dL_law_382 dL_law_383 dL_law_384 rfl rfl ?_
  refine z_callViN (As := [.int (zar xs ix 1), .int (zar xs ix 2), .int (zar xs ix 3)]) (rest := []) (n1 := 3) (ci := 11) X dL_law_385 (zM_i (av' := [.ref 48, .int (zar xs ix 1), .int (zar xs ix 2), .int (zar xs ix 3)]) (c_X8_addRoom l0 i lm (n 5) h.2.1.2.2.1 h.1.2.1.1 (zar xs ix 1) (zar xs ix 2) (zar xs ix 3)) zCok_cmm rfl) gL_law_X8_addRoom rfl rfl (by decide +kernel) ⟨by decide, by decide⟩ zg48 rfl rfl (Nat.le_of_ble_eq_true rfl) hk ?_
  rintro v9 G9 ⟨rfl, rfl⟩
  refine z_istore (ls' := (7, .int _) :: (6, .int k6) :: lB ix) X dL_law_388 (by decide) rfl ?_
  exact zl_tI X hk dL_law_390 dL_law_391 dL_law_394 dL_law_396 dL_law_401 dL_law_403 dL_law_406 dL_law_407 dL_law_408 dL_law_409 dL_law_411 dL_law_412 dL_law_413 dL_law_418 (by decide) ((t43_addRoom _ _ _ _ _).trans hk6.symm) hv hci K
set_option maxRecDepth 100000 in
set_option maxHeartbeats 4000000 in
theorem k_setLimits (hl0 : l0.stackTraces = false) (X : zCx g l0 cL_law 9 (some .boolean) RL nm wsL_law 19 10812 603072 7215210 M00 post zno tab) (S : zScr g L xs) (hb : ∀ i : Int, 1 ≤ i → i ≤ 4 → vp_in (ix + Int32.ofInt i) L) (h : CI n i x lm y t) (hk : k + 8 ≤ 603072 ∧ nn + 1100 ≤ 7215210) (K : zKK g ix (k + 8) (nn + 1100)) : zE g 9 421 (lB ix) [] (zmg (cmm n i x lm y ol od) (zmm i lm)) k nn := by
  refine z_aload_n X 4 dL_law_421 rfl rfl ?_
  refine zl_arg (i := 1) X S 5 0 (hb 1 (by decide) (by decide)) dL_law_422 dL_law_423 dL_law_425 dL_law_426 dL_law_427 rfl rfl ?_
  refine zl_arg (i := 2) X S 5 0 (hb 2 (by decide) (by decide)) dL_law_428 dL_law_429 dL_law_431 dL_law_432 dL_law_433 rfl rfl ?_
  refine zl_arg (i := 3) X S 5 0 (hb 3 (by decide) (by decide)) dL_law_434 dL_law_435 dL_law_437 dL_law_438 dL_law_439 rfl rfl ?_
  refine z_aload_n X 2 dL_law_440 rfl rfl ?_
  refine z_callSWiN (As := [.ref 1, .int (zar xs ix 1), .int (zar xs ix 2), .int (zar xs ix 3), .ref 14]) (rest := []) (n1 := 5) X dL_law_441 (zC_i (h_setLimits l0 hl0 h ol od (zar xs ix 1) (zar xs ix 2) (zar xs ix 3)) zCok_cmm (fun _ _ hv => zO_ok hv) rfl) gL_law_L_setLimits rfl rfl (by decide +kernel) ⟨by decide, by decide⟩ rfl (Nat.le_of_ble_eq_true rfl) hk ?_
  rintro k6 G9 ⟨C9, ⟨n', x', y', t', ol', od', rfl, hci, hk6, hv⟩, rfl⟩
  refine z_istore (ls' := (6, .int k6) :: lB ix) X dL_law_444 (by decide) rfl ?_
  refine z_aload_n X 4 dL_law_446 rfl rfl ?_
  refine zl_arg (i := 1) X S 6 1 (hb 1 (by decide) (by decide)) dL_law_447 dL_law_448 dL_law_450 dL_law_451 dL_law_452 rfl rfl ?_
  refine zl_arg (i := 2) X S 6 1 (hb 2 (by decide) (by decide)) dL_law_453 dL_law_454 dL_law_456 dL_law_457 dL_law_458 rfl rfl ?_
  refine zl_arg (i := 3) X S 6 1 (hb 3 (by decide) (by decide)) dL_law_459 dL_law_460 dL_law_462 dL_law_463 dL_law_464 rfl rfl ?_
  refine z_callViN (As := [.int (zar xs ix 1), .int (zar xs ix 2), .int (zar xs ix 3)]) (rest := []) (n1 := 3) (ci := 11) X dL_law_465 (zM_i (av' := [.ref 48, .int (zar xs ix 1), .int (zar xs ix 2), .int (zar xs ix 3)]) (c_X8_setLimits l0 i lm (n 5) h.2.1.2.2.1 h.1.2.1.1 (zar xs ix 1) (zar xs ix 2) (zar xs ix 3)) zCok_cmm rfl) gL_law_X8_setLimits rfl rfl (by decide +kernel) ⟨by decide, by decide⟩ zg48 rfl rfl (Nat.le_of_ble_eq_true rfl) hk ?_
  rintro v9 G9 ⟨rfl, rfl⟩
  refine z_istore (ls' := (7, .int _) :: (6, .int k6) :: lB ix) X dL_law_468 (by decide) rfl ?_
  exact zl_tI X hk dL_law_470 dL_law_471 dL_law_474 dL_law_476 dL_law_481 dL_law_483 dL_law_486 dL_law_487 dL_law_488 dL_law_489 dL_law_491 dL_law_492 dL_law_493 dL_law_498 (by decide) ((t43_setLimits _ _ _ _).trans hk6.symm) hv hci K
set_option maxRecDepth 100000 in
set_option maxHeartbeats 4000000 in
theorem k_setMode (hl0 : l0.stackTraces = false) (X : zCx g l0 cL_law 9 (some .boolean) RL nm wsL_law 19 10812 603072 7215210 M00 post zno tab) (S : zScr g L xs) (hb : ∀ i : Int, 1 ≤ i → i ≤ 4 → vp_in (ix + Int32.ofInt i) L) (h : CI n i x lm y t) (hk : k + 8 ≤ 603072 ∧ nn + 1100 ≤ 7215210) (K : zKK g ix (k + 8) (nn + 1100)) : zE g 9 501 (lB ix) [] (zmg (cmm n i x lm y ol od) (zmm i lm)) k nn := by
  refine z_aload_n X 4 dL_law_501 rfl rfl ?_
  refine zl_arg (i := 1) X S 5 0 (hb 1 (by decide) (by decide)) dL_law_502 dL_law_503 dL_law_505 dL_law_506 dL_law_507 rfl rfl ?_
  refine zl_arg (i := 2) X S 5 0 (hb 2 (by decide) (by decide)) dL_law_508 dL_law_509 dL_law_511 dL_law_512 dL_law_513 rfl rfl ?_
  refine z_i2c X dL_law_514 ?_
  refine z_aload_n X 2 dL_law_515 rfl rfl ?_
  refine z_callSWiN (As := [.ref 1, .int (zar xs ix 1), .int (((zar xs ix 2).toUInt32 % 65536).toInt32), .ref 14]) (rest := []) (n1 := 4) X dL_law_516 (zC_i (h_setMode l0 hl0 h ol od (zar xs ix 1) (((zar xs ix 2).toUInt32 % 65536).toInt32) (zchr _)) zCok_cmm (fun _ _ hv => zO_ok hv) rfl) gL_law_L_setMode rfl rfl (by decide +kernel) ⟨by decide, by decide⟩ rfl (Nat.le_of_ble_eq_true rfl) hk ?_
  rintro k6 G9 ⟨C9, ⟨n', x', y', t', ol', od', rfl, hci, hk6, hv⟩, rfl⟩
  refine z_istore (ls' := (6, .int k6) :: lB ix) X dL_law_519 (by decide) rfl ?_
  refine z_aload_n X 4 dL_law_521 rfl rfl ?_
  refine zl_arg (i := 1) X S 6 1 (hb 1 (by decide) (by decide)) dL_law_522 dL_law_523 dL_law_525 dL_law_526 dL_law_527 rfl rfl ?_
  refine zl_arg (i := 2) X S 6 1 (hb 2 (by decide) (by decide)) dL_law_528 dL_law_529 dL_law_531 dL_law_532 dL_law_533 rfl rfl ?_
  refine z_i2c X dL_law_534 ?_
  refine z_callViN (As := [.int (zar xs ix 1), .int (((zar xs ix 2).toUInt32 % 65536).toInt32)]) (rest := []) (n1 := 2) (ci := 11) X dL_law_535 (zM_i (av' := [.ref 48, .int (zar xs ix 1), .int (((zar xs ix 2).toUInt32 % 65536).toInt32)]) (c_X8_setMode l0 i lm (n 5) h.2.1.2.2.1 h.1.2.1.1 (zar xs ix 1) (((zar xs ix 2).toUInt32 % 65536).toInt32) (zchr _) h.2.2.1.2.2.1) zCok_cmm rfl) gL_law_X8_setMode rfl rfl (by decide +kernel) ⟨by decide, by decide⟩ zg48 rfl rfl (Nat.le_of_ble_eq_true rfl) hk ?_
  rintro v9 G9 ⟨rfl, rfl⟩
  refine z_istore (ls' := (7, .int _) :: (6, .int k6) :: lB ix) X dL_law_538 (by decide) rfl ?_
  exact zl_tI X hk dL_law_540 dL_law_541 dL_law_544 dL_law_546 dL_law_551 dL_law_553 dL_law_556 dL_law_557 dL_law_558 dL_law_559 dL_law_561 dL_law_562 dL_law_563 dL_law_568 (by decide) ((t43_setMode _ _ _).trans hk6.symm) hv hci K
set_option maxRecDepth 100000 in
set_option maxHeartbeats 4000000 in
theorem k_setLead (hl0 : l0.stackTraces = false) (X : zCx g l0 cL_law 9 (some .boolean) RL nm wsL_law 19 10812 603072 7215210 M00 post zno tab) (S : zScr g L xs) (hb : ∀ i : Int, 1 ≤ i → i ≤ 4 → vp_in (ix + Int32.ofInt i) L) (h : CI n i x lm y t) (hk : k + 8 ≤ 603072 ∧ nn + 1100 ≤ 7215210) (K : zKK g ix (k + 8) (nn + 1100)) : zE g 9 571 (lB ix) [] (zmg (cmm n i x lm y ol od) (zmm i lm)) k nn := by
  refine z_aload_n X 4 dL_law_571 rfl rfl ?_
  refine zl_arg (i := 1) X S 5 0 (hb 1 (by decide) (by decide)) dL_law_572 dL_law_573 dL_law_575 dL_law_576 dL_law_577 rfl rfl ?_
  refine zl_arg (i := 2) X S 5 0 (hb 2 (by decide) (by decide)) dL_law_578 dL_law_579 dL_law_581 dL_law_582 dL_law_583 rfl rfl ?_
  refine zl_arg (i := 3) X S 5 0 (hb 3 (by decide) (by decide)) dL_law_584 dL_law_585 dL_law_587 dL_law_588 dL_law_589 rfl rfl ?_
  refine z_aload_n X 2 dL_law_590 rfl rfl ?_
  refine z_callSWiN (As := [.ref 1, .int (zar xs ix 1), .int (zar xs ix 2), .int (zar xs ix 3), .ref 14]) (rest := []) (n1 := 5) X dL_law_591 (zC_i (h_setLead l0 hl0 h ol od (zar xs ix 1) (zar xs ix 2) (zar xs ix 3)) zCok_cmm (fun _ _ hv => zO_ok hv) rfl) gL_law_L_setLead rfl rfl (by decide +kernel) ⟨by decide, by decide⟩ rfl (Nat.le_of_ble_eq_true rfl) hk ?_
  rintro k6 G9 ⟨C9, ⟨n', x', y', t', ol', od', rfl, hci, hk6, hv⟩, rfl⟩
  refine z_istore (ls' := (6, .int k6) :: lB ix) X dL_law_594 (by decide) rfl ?_
  refine z_aload_n X 4 dL_law_596 rfl rfl ?_
  refine zl_arg (i := 1) X S 6 1 (hb 1 (by decide) (by decide)) dL_law_597 dL_law_598 dL_law_600 dL_law_601 dL_law_602 rfl rfl ?_
  refine zl_arg (i := 2) X S 6 1 (hb 2 (by decide) (by decide)) dL_law_603 dL_law_604 dL_law_606 dL_law_607 dL_law_608 rfl rfl ?_
  refine zl_arg (i := 3) X S 6 1 (hb 3 (by decide) (by decide)) dL_law_609 dL_law_610 dL_law_612 dL_law_613 dL_law_614 rfl rfl ?_
  refine z_callViN (As := [.int (zar xs ix 1), .int (zar xs ix 2), .int (zar xs ix 3)]) (rest := []) (n1 := 3) (ci := 11) X dL_law_615 (zM_i (av' := [.ref 48, .int (zar xs ix 1), .int (zar xs ix 2), .int (zar xs ix 3)]) (c_X8_setLead l0 i lm (n 5) h.2.1.2.2.1 h.1.2.1.1 (zar xs ix 1) (zar xs ix 2) (zar xs ix 3)) zCok_cmm rfl) gL_law_X8_setLead rfl rfl (by decide +kernel) ⟨by decide, by decide⟩ zg48 rfl rfl (Nat.le_of_ble_eq_true rfl) hk ?_
  rintro v9 G9 ⟨rfl, rfl⟩
  refine z_istore (ls' := (7, .int _) :: (6, .int k6) :: lB ix) X dL_law_618 (by decide) rfl ?_
  exact zl_tI X hk dL_law_620 dL_law_621 dL_law_624 dL_law_626 dL_law_631 dL_law_633 dL_law_636 dL_law_637 dL_law_638 dL_law_639 dL_law_641 dL_law_642 dL_law_643 dL_law_648 (by decide) ((t43_setLead _ _ _ _).trans hk6.symm) hv hci K
set_option maxRecDepth 100000 in
set_option maxHeartbeats 4000000 in
theorem k_temperature (hl0 : l0.stackTraces = false) (X : zCx g l0 cL_law 9 (some .boolean) RL nm wsL_law 19 10812 603072 7215210 M00 post zno tab) (S : zScr g L xs) (hb : ∀ i : Int, 1 ≤ i → i ≤ 4 → vp_in (ix + Int32.ofInt i) L) (h : CI n i x lm y t) (hk : k + 8 ≤ 603072 ∧ nn + 1100 ≤ 7215210) (K : zKK g ix (k + 8) (nn + 1100)) : zE g 9 651 (lB ix) [] (zmg (cmm n i x lm y ol od) (zmm i lm)) k nn := by
  refine z_aload_n X 4 dL_law_651 rfl rfl ?_
  refine zl_arg (i := 1) X S 5 0 (hb 1 (by decide) (by decide)) dL_law_652 dL_law_653 dL_law_655 dL_law_656 dL_law_657 rfl rfl ?_
  refine z_aload_n X 2 dL_law_658 rfl rfl ?_
  refine z_callSWiN (As := [.ref 1, .int (zar xs ix 1), .ref 14]) (rest := []) (n1 := 3) X dL_law_659 (zC_i (h_temperature l0 hl0 h ol od (zar xs ix 1)) zCok_cmm (fun _ _ hv => zO_ok hv) rfl) gL_law_L_temperature rfl rfl (by decide +kernel) ⟨by decide, by decide⟩ rfl (Nat.le_of_ble_eq_true rfl) hk ?_
  rintro k6 G9 ⟨C9, ⟨n', x', y', t', ol', od', rfl, hci, hk6, hv⟩, rfl⟩
  refine z_istore (ls' := (6, .int k6) :: lB ix) X dL_law_662 (by decide) rfl ?_
  refine z_aload_n X 4 dL_law_664 rfl rfl ?_
  refine zl_arg (i := 1) X S 6 1 (hb 1 (by decide) (by decide)) dL_law_665 dL_law_666 dL_law_668 dL_law_669 dL_law_670 rfl rfl ?_
  refine z_callViN (As := [.int (zar xs ix 1)]) (rest := []) (n1 := 1) (ci := 11) X dL_law_671 (zM_i (av' := [.ref 48, .int (zar xs ix 1)]) (c_X8_temperature l0 i lm (n 5) h.2.1.2.2.1 h.1.2.1.1 (zar xs ix 1)) zCok_cmm rfl) gL_law_X8_temperature rfl rfl (by decide +kernel) ⟨by decide, by decide⟩ zg48 rfl rfl (Nat.le_of_ble_eq_true rfl) hk ?_
  rintro v9 G9 ⟨rfl, rfl⟩
  refine z_istore (ls' := (7, .int _) :: (6, .int k6) :: lB ix) X dL_law_674 (by decide) rfl ?_
  exact zl_tI X hk dL_law_676 dL_law_677 dL_law_680 dL_law_682 dL_law_687 dL_law_689 dL_law_692 dL_law_693 dL_law_694 dL_law_695 dL_law_697 dL_law_698 dL_law_699 dL_law_704 (by decide) ((t43_temperature _ _).trans hk6.symm) hv hci K
set_option maxRecDepth 100000 in
set_option maxHeartbeats 4000000 in
theorem k_isCooled (hl0 : l0.stackTraces = false) (X : zCx g l0 cL_law 9 (some .boolean) RL nm wsL_law 19 10812 603072 7215210 M00 post zno tab) (S : zScr g L xs) (hb : ∀ i : Int, 1 ≤ i → i ≤ 4 → vp_in (ix + Int32.ofInt i) L) (h : CI n i x lm y t) (hk : k + 8 ≤ 603072 ∧ nn + 1100 ≤ 7215210) (K : zKK g ix (k + 8) (nn + 1100)) : zE g 9 707 (lB ix) [] (zmg (cmm n i x lm y ol od) (zmm i lm)) k nn := by
  refine z_aload_n X 4 dL_law_707 rfl rfl ?_
  refine zl_arg (i := 1) X S 5 0 (hb 1 (by decide) (by decide)) dL_law_708 dL_law_709 dL_law_711 dL_law_712 dL_law_713 rfl rfl ?_
  refine z_aload_n X 2 dL_law_714 rfl rfl ?_
  refine z_callSWiN (As := [.ref 1, .int (zar xs ix 1), .ref 14]) (rest := []) (n1 := 3) X dL_law_715 (zC_i (h_isCooled l0 hl0 h ol od (zar xs ix 1)) zCok_cmm (fun _ _ hv => zO_ok hv) rfl) gL_law_L_isCooled rfl rfl (by decide +kernel) ⟨by decide, by decide⟩ rfl (Nat.le_of_ble_eq_true rfl) hk ?_
  rintro k6 G9 ⟨C9, ⟨n', x', y', t', ol', od', rfl, hci, hk6, hv⟩, rfl⟩
  refine z_istore (ls' := (6, .int k6) :: lB ix) X dL_law_718 (by decide) rfl ?_
  refine z_aload_n X 4 dL_law_720 rfl rfl ?_
  refine zl_arg (i := 1) X S 6 1 (hb 1 (by decide) (by decide)) dL_law_721 dL_law_722 dL_law_724 dL_law_725 dL_law_726 rfl rfl ?_
  refine z_callViN (As := [.int (zar xs ix 1)]) (rest := []) (n1 := 1) (ci := 11) X dL_law_727 (zM_i (av' := [.ref 48, .int (zar xs ix 1)]) (c_X8_isCooled l0 i lm (n 5) h.2.1.2.2.1 h.1.2.1.1 (zar xs ix 1)) zCok_cmm rfl) gL_law_X8_isCooled rfl rfl (by decide +kernel) ⟨by decide, by decide⟩ zg48 rfl rfl (Nat.le_of_ble_eq_true rfl) hk ?_
  rintro v9 G9 ⟨rfl, rfl⟩
  refine z_istore (ls' := (7, .int _) :: (6, .int k6) :: lB ix) X dL_law_730 (by decide) rfl ?_
  exact zl_tB X hk dL_law_732 dL_law_733 dL_law_736 dL_law_738 dL_law_743 dL_law_745 dL_law_748 dL_law_749 dL_law_750 dL_law_751 dL_law_753 dL_law_756 dL_law_757 dL_law_760 dL_law_761 dL_law_762 dL_law_767 (by decide) ((t43_isCooled _ _).trans hk6.symm) hv hci K
set_option maxRecDepth 100000 in
set_option maxHeartbeats 4000000 in
theorem k_warmest (hl0 : l0.stackTraces = false) (X : zCx g l0 cL_law 9 (some .boolean) RL nm wsL_law 19 10812 603072 7215210 M00 post zno tab) (S : zScr g L xs) (hb : ∀ i : Int, 1 ≤ i → i ≤ 4 → vp_in (ix + Int32.ofInt i) L) (h : CI n i x lm y t) (hk : k + 8 ≤ 603072 ∧ nn + 1100 ≤ 7215210) (K : zKK g ix (k + 8) (nn + 1100)) : zE g 9 770 (lB ix) [] (zmg (cmm n i x lm y ol od) (zmm i lm)) k nn := by
  refine z_aload_n X 4 dL_law_770 rfl rfl ?_
  refine zl_arg (i := 1) X S 5 0 (hb 1 (by decide) (by decide)) dL_law_771 dL_law_772 dL_law_774 dL_law_775 dL_law_776 rfl rfl ?_
  refine z_aload_n X 2 dL_law_777 rfl rfl ?_
  refine z_callSWiN (As := [.ref 1, .int (zar xs ix 1), .ref 14]) (rest := []) (n1 := 3) X dL_law_778 (zC_i (h_warmest l0 hl0 h ol od (zar xs ix 1)) zCok_cmm (fun _ _ hv => zO_ok hv) rfl) gL_law_L_warmest rfl rfl (by decide +kernel) ⟨by decide, by decide⟩ rfl (Nat.le_of_ble_eq_true rfl) hk ?_
  rintro k6 G9 ⟨C9, ⟨n', x', y', t', ol', od', rfl, hci, hk6, hv⟩, rfl⟩
  refine z_istore (ls' := (6, .int k6) :: lB ix) X dL_law_781 (by decide) rfl ?_
  refine z_aload_n X 4 dL_law_783 rfl rfl ?_
  refine zl_arg (i := 1) X S 6 1 (hb 1 (by decide) (by decide)) dL_law_784 dL_law_785 dL_law_787 dL_law_788 dL_law_789 rfl rfl ?_
  refine z_callViN (As := [.int (zar xs ix 1)]) (rest := []) (n1 := 1) (ci := 11) X dL_law_790 (zM_i (av' := [.ref 48, .int (zar xs ix 1)]) (c_X8_warmest l0 i lm (n 5) h.2.1.2.2.1 h.1.2.1.1 (zar xs ix 1)) zCok_cmm rfl) gL_law_X8_warmest rfl rfl (by decide +kernel) ⟨by decide, by decide⟩ zg48 rfl rfl (Nat.le_of_ble_eq_true rfl) hk ?_
  rintro v9 G9 ⟨rfl, rfl⟩
  refine z_istore (ls' := (7, .int _) :: (6, .int k6) :: lB ix) X dL_law_793 (by decide) rfl ?_
  exact zl_tI X hk dL_law_795 dL_law_796 dL_law_799 dL_law_801 dL_law_806 dL_law_808 dL_law_811 dL_law_812 dL_law_813 dL_law_814 dL_law_816 dL_law_817 dL_law_818 dL_law_823 (by decide) ((t43_warmest _ _).trans hk6.symm) hv hci K
set_option maxRecDepth 100000 in
set_option maxHeartbeats 4000000 in
theorem k_meanTemperature (hl0 : l0.stackTraces = false) (X : zCx g l0 cL_law 9 (some .boolean) RL nm wsL_law 19 10812 603072 7215210 M00 post zno tab) (S : zScr g L xs) (hb : ∀ i : Int, 1 ≤ i → i ≤ 4 → vp_in (ix + Int32.ofInt i) L) (h : CI n i x lm y t) (hk : k + 8 ≤ 603072 ∧ nn + 1100 ≤ 7215210) (K : zKK g ix (k + 8) (nn + 1100)) : zE g 9 826 (lB ix) [] (zmg (cmm n i x lm y ol od) (zmm i lm)) k nn := by
  refine z_aload_n X 4 dL_law_826 rfl rfl ?_
  refine zl_arg (i := 1) X S 5 0 (hb 1 (by decide) (by decide)) dL_law_827 dL_law_828 dL_law_830 dL_law_831 dL_law_832 rfl rfl ?_
  refine z_aload X 1 dL_law_833 rfl ?_
  refine z_callSWiN (As := [.ref 1, .int (zar xs ix 1), .ref 15]) (rest := []) (n1 := 3) X dL_law_835 (zC_i (h_meanTemperature l0 hl0 h ol od (zar xs ix 1)) zCok_cmm (fun _ _ hv => zOd_ok hv) rfl) gL_law_L_meanTemperature rfl rfl (by decide +kernel) ⟨by decide, by decide⟩ rfl (Nat.le_of_ble_eq_true rfl) hk ?_
  rintro k6 G9 ⟨C9, ⟨n', x', y', t', ol', od', rfl, hci, hk6, hv⟩, rfl⟩
  refine z_istore (ls' := (6, .int k6) :: lB ix) X dL_law_838 (by decide) rfl ?_
  refine z_aload_n X 4 dL_law_840 rfl rfl ?_
  refine zl_arg (i := 1) X S 6 1 (hb 1 (by decide) (by decide)) dL_law_841 dL_law_842 dL_law_844 dL_law_845 dL_law_846 rfl rfl ?_
  refine z_callVdN (As := [.int (zar xs ix 1)]) (rest := []) (n1 := 1) (ci := 11) X dL_law_847 (zM_d (av' := [.ref 48, .int (zar xs ix 1)]) (c_X8_meanTemperature l0 i lm (n 5) h.2.1.2.2.1 h.1.2.1.1 (zar xs ix 1)) zCok_cmm rfl) gL_law_X8_meanTemperature rfl rfl (by decide +kernel) ⟨by decide, by decide⟩ zg48 rfl rfl (Nat.le_of_ble_eq_true rfl) hk ?_
  rintro v9 G9 ⟨rfl, rfl⟩
  refine z_dstore (ls' := (7, .double _) :: (6, .int k6) :: lB ix) X dL_law_850 (by decide) rfl ?_
  exact zl_tD X hk dL_law_852 dL_law_853 dL_law_856 dL_law_858 dL_law_863 dL_law_865 dL_law_868 dL_law_870 dL_law_871 dL_law_872 dL_law_874 dL_law_875 dL_law_878 dL_law_880 dL_law_881 dL_law_882 dL_law_884 dL_law_885 dL_law_886 dL_law_887 dL_law_890 dL_law_892 dL_law_894 dL_law_895 dL_law_900 (by decide) ((t43_meanTemperature _ _).trans hk6.symm) hv hci K
set_option maxRecDepth 100000 in
set_option maxHeartbeats 4000000 in
theorem k_freeSpace (hl0 : l0.stackTraces = false) (X : zCx g l0 cL_law 9 (some .boolean) RL nm wsL_law 19 10812 603072 7215210 M00 post zno tab) (S : zScr g L xs) (hb : ∀ i : Int, 1 ≤ i → i ≤ 4 → vp_in (ix + Int32.ofInt i) L) (h : CI n i x lm y t) (hk : k + 8 ≤ 603072 ∧ nn + 1100 ≤ 7215210) (K : zKK g ix (k + 8) (nn + 1100)) : zE g 9 903 (lB ix) [] (zmg (cmm n i x lm y ol od) (zmm i lm)) k nn := by
  refine z_aload_n X 4 dL_law_903 rfl rfl ?_
  refine zl_arg (i := 1) X S 5 0 (hb 1 (by decide) (by decide)) dL_law_904 dL_law_905 dL_law_907 dL_law_908 dL_law_909 rfl rfl ?_
  refine z_aload_n X 2 dL_law_910 rfl rfl ?_
  refine z_callSWiN (As := [.ref 1, .int (zar xs ix 1), .ref 14]) (rest := []) (n1 := 3) X dL_law_911 (zC_i (h_freeSpace l0 hl0 h ol od (zar xs ix 1)) zCok_cmm (fun _ _ hv => zO_ok hv) rfl) gL_law_L_freeSpace rfl rfl (by decide +kernel) ⟨by decide, by decide⟩ rfl (Nat.le_of_ble_eq_true rfl) hk ?_
  rintro k6 G9 ⟨C9, ⟨n', x', y', t', ol', od', rfl, hci, hk6, hv⟩, rfl⟩
  refine z_istore (ls' := (6, .int k6) :: lB ix) X dL_law_914 (by decide) rfl ?_
  refine z_aload_n X 4 dL_law_916 rfl rfl ?_
  refine zl_arg (i := 1) X S 6 1 (hb 1 (by decide) (by decide)) dL_law_917 dL_law_918 dL_law_920 dL_law_921 dL_law_922 rfl rfl ?_
  refine z_callViN (As := [.int (zar xs ix 1)]) (rest := []) (n1 := 1) (ci := 11) X dL_law_923 (zM_i (av' := [.ref 48, .int (zar xs ix 1)]) (c_X8_freeSpace l0 i lm (n 5) h.2.1.2.2.1 h.1.2.1.1 (n 7) h.2.1.2.2.2.2.1 h.1.2.1.2.2.1 (zar xs ix 1)) zCok_cmm rfl) gL_law_X8_freeSpace rfl rfl (by decide +kernel) ⟨by decide, by decide⟩ zg48 rfl rfl (Nat.le_of_ble_eq_true rfl) hk ?_
  rintro v9 G9 ⟨rfl, rfl⟩
  refine z_istore (ls' := (7, .int _) :: (6, .int k6) :: lB ix) X dL_law_926 (by decide) rfl ?_
  exact zl_tI X hk dL_law_928 dL_law_929 dL_law_932 dL_law_934 dL_law_939 dL_law_941 dL_law_944 dL_law_945 dL_law_946 dL_law_947 dL_law_949 dL_law_950 dL_law_951 dL_law_956 (by decide) ((t43_freeSpace _ _ _).trans hk6.symm) hv hci K
set_option maxRecDepth 100000 in
set_option maxHeartbeats 4000000 in
theorem k_setPrices (hl0 : l0.stackTraces = false) (X : zCx g l0 cL_law 9 (some .boolean) RL nm wsL_law 19 10812 603072 7215210 M00 post zno tab) (S : zScr g L xs) (hb : ∀ i : Int, 1 ≤ i → i ≤ 4 → vp_in (ix + Int32.ofInt i) L) (h : CI n i x lm y t) (hk : k + 8 ≤ 603072 ∧ nn + 1100 ≤ 7215210) (K : zKK g ix (k + 8) (nn + 1100)) : zE g 9 959 (lB ix) [] (zmg (cmm n i x lm y ol od) (zmm i lm)) k nn := by
  refine z_aload_n X 4 dL_law_959 rfl rfl ?_
  refine zl_arg (i := 1) X S 5 0 (hb 1 (by decide) (by decide)) dL_law_960 dL_law_961 dL_law_963 dL_law_964 dL_law_965 rfl rfl ?_
  refine zl_arg (i := 2) X S 5 0 (hb 2 (by decide) (by decide)) dL_law_966 dL_law_967 dL_law_969 dL_law_970 dL_law_971 rfl rfl ?_
  refine zl_arg (i := 3) X S 5 0 (hb 3 (by decide) (by decide)) dL_law_972 dL_law_973 dL_law_975 dL_law_976 dL_law_977 rfl rfl ?_
  refine zl_arg (i := 4) X S 5 0 (hb 4 (by decide) (by decide)) dL_law_978 dL_law_979 dL_law_981 dL_law_982 dL_law_983 rfl rfl ?_
  refine z_aload_n X 2 dL_law_984 rfl rfl ?_
  refine z_callSWiN (As := [.ref 1, .int (zar xs ix 1), .int (zar xs ix 2), .int (zar xs ix 3), .int (zar xs ix 4), .ref 14]) (rest := []) (n1 := 6) X dL_law_985 (zC_i (h_setPrices l0 hl0 h ol od (zar xs ix 1) (zar xs ix 2) (zar xs ix 3) (zar xs ix 4)) zCok_cmm (fun _ _ hv => zO_ok hv) rfl) gL_law_L_setPrices rfl rfl (by decide +kernel) ⟨by decide, by decide⟩ rfl (Nat.le_of_ble_eq_true rfl) hk ?_
  rintro k6 G9 ⟨C9, ⟨n', x', y', t', ol', od', rfl, hci, hk6, hv⟩, rfl⟩
  refine z_istore (ls' := (6, .int k6) :: lB ix) X dL_law_988 (by decide) rfl ?_
  refine z_aload_n X 4 dL_law_990 rfl rfl ?_
  refine zl_arg (i := 1) X S 6 1 (hb 1 (by decide) (by decide)) dL_law_991 dL_law_992 dL_law_994 dL_law_995 dL_law_996 rfl rfl ?_
  refine zl_arg (i := 2) X S 6 1 (hb 2 (by decide) (by decide)) dL_law_997 dL_law_998 dL_law_1000 dL_law_1001 dL_law_1002 rfl rfl ?_
  refine zl_arg (i := 3) X S 6 1 (hb 3 (by decide) (by decide)) dL_law_1003 dL_law_1004 dL_law_1006 dL_law_1007 dL_law_1008 rfl rfl ?_
  refine zl_arg (i := 4) X S 6 1 (hb 4 (by decide) (by decide)) dL_law_1009 dL_law_1010 dL_law_1012 dL_law_1013 dL_law_1014 rfl rfl ?_
  refine z_callViN (As := [.int (zar xs ix 1), .int (zar xs ix 2), .int (zar xs ix 3), .int (zar xs ix 4)]) (rest := []) (n1 := 4) (ci := 11) X dL_law_1015 (zM_i (av' := [.ref 48, .int (zar xs ix 1), .int (zar xs ix 2), .int (zar xs ix 3), .int (zar xs ix 4)]) (c_X8_setPrices l0 i lm (zar xs ix 1) (zar xs ix 2) (zar xs ix 3) (zar xs ix 4)) zCok_cmm rfl) gL_law_X8_setPrices rfl rfl (by decide +kernel) ⟨by decide, by decide⟩ zg48 rfl rfl (Nat.le_of_ble_eq_true rfl) hk ?_
  rintro v9 G9 ⟨rfl, rfl⟩
  refine z_istore (ls' := (7, .int _) :: (6, .int k6) :: lB ix) X dL_law_1018 (by decide) rfl ?_
  exact zl_tI X hk dL_law_1020 dL_law_1021 dL_law_1024 dL_law_1026 dL_law_1031 dL_law_1033 dL_law_1036 dL_law_1037 dL_law_1038 dL_law_1039 dL_law_1041 dL_law_1042 dL_law_1043 dL_law_1048 (by decide) ((t43_setPrices _ _ _ _ _).trans hk6.symm) hv hci K
set_option maxRecDepth 100000 in
set_option maxHeartbeats 4000000 in
theorem k_setCharge (hl0 : l0.stackTraces = false) (X : zCx g l0 cL_law 9 (some .boolean) RL nm wsL_law 19 10812 603072 7215210 M00 post zno tab) (S : zScr g L xs) (hb : ∀ i : Int, 1 ≤ i → i ≤ 4 → vp_in (ix + Int32.ofInt i) L) (h : CI n i x lm y t) (hk : k + 8 ≤ 603072 ∧ nn + 1100 ≤ 7215210) (K : zKK g ix (k + 8) (nn + 1100)) : zE g 9 1051 (lB ix) [] (zmg (cmm n i x lm y ol od) (zmm i lm)) k nn := by
  refine z_aload_n X 4 dL_law_1051 rfl rfl ?_
  refine zl_arg (i := 1) X S 5 0 (hb 1 (by decide) (by decide)) dL_law_1052 dL_law_1053 dL_law_1055 dL_law_1056 dL_law_1057 rfl rfl ?_
  refine z_aload_n X 2 dL_law_1058 rfl rfl ?_
  refine z_callSWiN (As := [.ref 1, .int (zar xs ix 1), .ref 14]) (rest := []) (n1 := 3) X dL_law_1059 (zC_i (h_setCharge l0 hl0 h ol od (zar xs ix 1)) zCok_cmm (fun _ _ hv => zO_ok hv) rfl) gL_law_L_setCharge rfl rfl (by decide +kernel) ⟨by decide, by decide⟩ rfl (Nat.le_of_ble_eq_true rfl) hk ?_
  rintro k6 G9 ⟨C9, ⟨n', x', y', t', ol', od', rfl, hci, hk6, hv⟩, rfl⟩
  refine z_istore (ls' := (6, .int k6) :: lB ix) X dL_law_1062 (by decide) rfl ?_
  refine z_aload_n X 4 dL_law_1064 rfl rfl ?_
  refine zl_arg (i := 1) X S 6 1 (hb 1 (by decide) (by decide)) dL_law_1065 dL_law_1066 dL_law_1068 dL_law_1069 dL_law_1070 rfl rfl ?_
  refine z_callViN (As := [.int (zar xs ix 1)]) (rest := []) (n1 := 1) (ci := 11) X dL_law_1071 (zM_i (av' := [.ref 48, .int (zar xs ix 1)]) (c_X8_setCharge l0 i lm (zar xs ix 1)) zCok_cmm rfl) gL_law_X8_setCharge rfl rfl (by decide +kernel) ⟨by decide, by decide⟩ zg48 rfl rfl (Nat.le_of_ble_eq_true rfl) hk ?_
  rintro v9 G9 ⟨rfl, rfl⟩
  refine z_istore (ls' := (7, .int _) :: (6, .int k6) :: lB ix) X dL_law_1074 (by decide) rfl ?_
  exact zl_tI X hk dL_law_1076 dL_law_1077 dL_law_1080 dL_law_1082 dL_law_1087 dL_law_1089 dL_law_1092 dL_law_1093 dL_law_1094 dL_law_1095 dL_law_1097 dL_law_1098 dL_law_1099 dL_law_1104 (by decide) ((t43_setCharge _ _).trans hk6.symm) hv hci K
set_option maxRecDepth 100000 in
set_option maxHeartbeats 4000000 in
theorem k_setPowerLimit (hl0 : l0.stackTraces = false) (X : zCx g l0 cL_law 9 (some .boolean) RL nm wsL_law 19 10812 603072 7215210 M00 post zno tab) (S : zScr g L xs) (hb : ∀ i : Int, 1 ≤ i → i ≤ 4 → vp_in (ix + Int32.ofInt i) L) (h : CI n i x lm y t) (hk : k + 8 ≤ 603072 ∧ nn + 1100 ≤ 7215210) (K : zKK g ix (k + 8) (nn + 1100)) : zE g 9 1107 (lB ix) [] (zmg (cmm n i x lm y ol od) (zmm i lm)) k nn := by
  refine z_aload_n X 4 dL_law_1107 rfl rfl ?_
  refine zl_arg (i := 1) X S 5 0 (hb 1 (by decide) (by decide)) dL_law_1108 dL_law_1109 dL_law_1111 dL_law_1112 dL_law_1113 rfl rfl ?_
  refine z_aload_n X 2 dL_law_1114 rfl rfl ?_
  refine z_callSWiN (As := [.ref 1, .int (zar xs ix 1), .ref 14]) (rest := []) (n1 := 3) X dL_law_1115 (zC_i (h_setPowerLimit l0 hl0 h ol od (zar xs ix 1)) zCok_cmm (fun _ _ hv => zO_ok hv) rfl) gL_law_L_setPowerLimit rfl rfl (by decide +kernel) ⟨by decide, by decide⟩ rfl (Nat.le_of_ble_eq_true rfl) hk ?_
  rintro k6 G9 ⟨C9, ⟨n', x', y', t', ol', od', rfl, hci, hk6, hv⟩, rfl⟩
  refine z_istore (ls' := (6, .int k6) :: lB ix) X dL_law_1118 (by decide) rfl ?_
  refine z_aload_n X 4 dL_law_1120 rfl rfl ?_
  refine zl_arg (i := 1) X S 6 1 (hb 1 (by decide) (by decide)) dL_law_1121 dL_law_1122 dL_law_1124 dL_law_1125 dL_law_1126 rfl rfl ?_
  refine z_callViN (As := [.int (zar xs ix 1)]) (rest := []) (n1 := 1) (ci := 11) X dL_law_1127 (zM_i (av' := [.ref 48, .int (zar xs ix 1)]) (c_X8_setPowerLimit l0 i lm (zar xs ix 1)) zCok_cmm rfl) gL_law_X8_setPowerLimit rfl rfl (by decide +kernel) ⟨by decide, by decide⟩ zg48 rfl rfl (Nat.le_of_ble_eq_true rfl) hk ?_
  rintro v9 G9 ⟨rfl, rfl⟩
  refine z_istore (ls' := (7, .int _) :: (6, .int k6) :: lB ix) X dL_law_1130 (by decide) rfl ?_
  exact zl_tI X hk dL_law_1132 dL_law_1133 dL_law_1136 dL_law_1138 dL_law_1143 dL_law_1145 dL_law_1148 dL_law_1149 dL_law_1150 dL_law_1151 dL_law_1153 dL_law_1154 dL_law_1155 dL_law_1160 (by decide) ((t43_setPowerLimit _ _).trans hk6.symm) hv hci K
set_option maxRecDepth 100000 in
set_option maxHeartbeats 4000000 in
theorem k_power (hl0 : l0.stackTraces = false) (X : zCx g l0 cL_law 9 (some .boolean) RL nm wsL_law 19 10812 603072 7215210 M00 post zno tab) (S : zScr g L xs) (hb : ∀ i : Int, 1 ≤ i → i ≤ 4 → vp_in (ix + Int32.ofInt i) L) (h : CI n i x lm y t) (hk : k + 8 ≤ 603072 ∧ nn + 1100 ≤ 7215210) (K : zKK g ix (k + 8) (nn + 1100)) : zE g 9 1163 (lB ix) [] (zmg (cmm n i x lm y ol od) (zmm i lm)) k nn := by
  refine z_wide (a := 8) (b := 1100) ?_
  refine z_aload_n X 4 dL_law_1163 rfl rfl ?_
  refine z_callViN (As := []) (rest := []) (n1 := 0) (ci := 10) X dL_law_1164 (zC_i (c_X7_power l0 hl0 n i x lm y ol od h.1) zCok_cmm (fun _ C' hv => by obtain ⟨-, rfl⟩ := hv; exact zCok_cmm) rfl) gL_law_X7_power rfl rfl (by decide +kernel) ⟨by decide, by decide⟩ zg1 rfl rfl (Nat.le_of_ble_eq_true rfl) ⟨by omega, by omega⟩ ?_
  rintro v9 G9 ⟨C9, ⟨hv9, rfl⟩, rfl⟩
  refine z_aload_n X 3 dL_law_1167 rfl rfl ?_
  refine z_callViN (As := []) (rest := [.int v9]) (n1 := 0) (ci := 11) X dL_law_1168 (zM_i (av' := [.ref 48]) (c_X8_power l0 i lm) zCok_cmm rfl) gL_law_X8_power rfl rfl (by decide +kernel) ⟨by decide, by decide⟩ zg48 rfl rfl (Nat.le_of_ble_eq_true rfl) ⟨by omega, by omega⟩ ?_
  rintro w9 G9 ⟨rfl, rfl⟩
  exact z_icmp_eq (tgt := 2357) X dL_law_1171 (by decide) (fun _ => z_mem (M' := zmg (cmm n (zup i 1 43 0) x lm y ol od) (zmm (zup i 1 43 0) lm)) (by rw [c43]; rfl) (K _ _ _ _ _ _ _ _ (CI_43 h))) (fun q => absurd (hv9) q)
set_option maxRecDepth 100000 in
set_option maxHeartbeats 4000000 in
theorem k_greatestPower (hl0 : l0.stackTraces = false) (X : zCx g l0 cL_law 9 (some .boolean) RL nm wsL_law 19 10812 603072 7215210 M00 post zno tab) (S : zScr g L xs) (hb : ∀ i : Int, 1 ≤ i → i ≤ 4 → vp_in (ix + Int32.ofInt i) L) (h : CI n i x lm y t) (hk : k + 8 ≤ 603072 ∧ nn + 1100 ≤ 7215210) (K : zKK g ix (k + 8) (nn + 1100)) : zE g 9 1176 (lB ix) [] (zmg (cmm n i x lm y ol od) (zmm i lm)) k nn := by
  refine z_wide (a := 8) (b := 1100) ?_
  refine z_aload_n X 4 dL_law_1176 rfl rfl ?_
  refine z_callViN (As := []) (rest := []) (n1 := 0) (ci := 10) X dL_law_1177 (zC_i (c_X7_greatestPower l0 hl0 n i x lm y ol od h.1) zCok_cmm (fun _ C' hv => by obtain ⟨-, rfl⟩ := hv; exact zCok_cmm) rfl) gL_law_X7_greatestPower rfl rfl (by decide +kernel) ⟨by decide, by decide⟩ zg1 rfl rfl (Nat.le_of_ble_eq_true rfl) ⟨by omega, by omega⟩ ?_
  rintro v9 G9 ⟨C9, ⟨hv9, rfl⟩, rfl⟩
  refine z_aload_n X 3 dL_law_1180 rfl rfl ?_
  refine z_callViN (As := []) (rest := [.int v9]) (n1 := 0) (ci := 11) X dL_law_1181 (zM_i (av' := [.ref 48]) (c_X8_greatestPower l0 i lm) zCok_cmm rfl) gL_law_X8_greatestPower rfl rfl (by decide +kernel) ⟨by decide, by decide⟩ zg48 rfl rfl (Nat.le_of_ble_eq_true rfl) ⟨by omega, by omega⟩ ?_
  rintro w9 G9 ⟨rfl, rfl⟩
  exact z_icmp_eq (tgt := 2357) X dL_law_1184 (by decide) (fun _ => z_mem (M' := zmg (cmm n (zup i 1 43 0) x lm y ol od) (zmm (zup i 1 43 0) lm)) (by rw [c43]; rfl) (K _ _ _ _ _ _ _ _ (CI_43 h))) (fun q => absurd (hv9) q)
set_option maxRecDepth 100000 in
set_option maxHeartbeats 4000000 in
theorem k_bill (hl0 : l0.stackTraces = false) (X : zCx g l0 cL_law 9 (some .boolean) RL nm wsL_law 19 10812 603072 7215210 M00 post zno tab) (S : zScr g L xs) (hb : ∀ i : Int, 1 ≤ i → i ≤ 4 → vp_in (ix + Int32.ofInt i) L) (h : CI n i x lm y t) (hk : k + 8 ≤ 603072 ∧ nn + 1100 ≤ 7215210) (K : zKK g ix (k + 8) (nn + 1100)) : zE g 9 1189 (lB ix) [] (zmg (cmm n i x lm y ol od) (zmm i lm)) k nn := by
  refine z_wide (a := 8) (b := 1100) ?_
  refine z_aload_n X 4 dL_law_1189 rfl rfl ?_
  refine z_callVlN (As := []) (rest := []) (n1 := 0) (ci := 10) X dL_law_1190 (zC_l (c_X7_bill l0 hl0 n i x lm y ol od h.1) zCok_cmm (fun _ C' hv => by obtain ⟨-, rfl⟩ := hv; exact zCok_cmm) rfl) gL_law_X7_bill rfl rfl (by decide +kernel) ⟨by decide, by decide⟩ zg1 rfl rfl (Nat.le_of_ble_eq_true rfl) ⟨by omega, by omega⟩ ?_
  rintro v9 G9 ⟨C9, ⟨hv9, rfl⟩, rfl⟩
  refine z_aload_n X 3 dL_law_1193 rfl rfl ?_
  refine z_callVlN (As := []) (rest := [.long v9]) (n1 := 0) (ci := 11) X dL_law_1194 (zM_l (av' := [.ref 48]) (c_X8_bill l0 i lm) zCok_cmm rfl) gL_law_X8_bill rfl rfl (by decide +kernel) ⟨by decide, by decide⟩ zg48 rfl rfl (Nat.le_of_ble_eq_true rfl) ⟨by omega, by omega⟩ ?_
  rintro w9 G9 ⟨rfl, rfl⟩
  refine z_lcmp X dL_law_1197 ?_
  refine z_if_eq (tgt := 2357) X dL_law_1198 (by decide) (fun _ => z_mem (M' := zmg (cmm n (zup i 1 43 0) x lm y ol od) (zmm (zup i 1 43 0) lm)) (by rw [c43]; rfl) (K _ _ _ _ _ _ _ _ (CI_43 h))) (fun q => absurd ?_ q)
  rw [show v9 = _ from hv9]
  exact zcmp0 _
set_option maxRecDepth 100000 in
set_option maxHeartbeats 4000000 in
theorem k_billByRecords (hl0 : l0.stackTraces = false) (X : zCx g l0 cL_law 9 (some .boolean) RL nm wsL_law 19 10812 603072 7215210 M00 post zno tab) (S : zScr g L xs) (hb : ∀ i : Int, 1 ≤ i → i ≤ 4 → vp_in (ix + Int32.ofInt i) L) (h : CI n i x lm y t) (hk : k + 8 ≤ 603072 ∧ nn + 1100 ≤ 7215210) (K : zKK g ix (k + 8) (nn + 1100)) : zE g 9 1203 (lB ix) [] (zmg (cmm n i x lm y ol od) (zmm i lm)) k nn := by
  refine z_wide (a := 8) (b := 1100) ?_
  refine z_aload_n X 4 dL_law_1203 rfl rfl ?_
  refine z_callVlN (As := []) (rest := []) (n1 := 0) (ci := 10) X dL_law_1204 (zC_l (c_X7_billByRecords l0 hl0 n i x lm y ol od h.1 t h.2.1.2.1 h.2.1.1) zCok_cmm (fun _ C' hv => by obtain ⟨-, rfl⟩ := hv; exact zCok_cmm) rfl) gL_law_X7_billByRecords rfl rfl (by decide +kernel) ⟨by decide, by decide⟩ zg1 rfl rfl (Nat.le_of_ble_eq_true rfl) ⟨by omega, by omega⟩ ?_
  rintro v9 G9 ⟨C9, ⟨hv9, rfl⟩, rfl⟩
  refine z_aload_n X 3 dL_law_1207 rfl rfl ?_
  refine z_callVlN (As := []) (rest := [.long v9]) (n1 := 0) (ci := 11) X dL_law_1208 (zM_l (av' := [.ref 48]) (c_X8_billByRecords l0 i lm) zCok_cmm rfl) gL_law_X8_billByRecords rfl rfl (by decide +kernel) ⟨by decide, by decide⟩ zg48 rfl rfl (Nat.le_of_ble_eq_true rfl) ⟨by omega, by omega⟩ ?_
  rintro w9 G9 ⟨rfl, rfl⟩
  refine z_lcmp X dL_law_1211 ?_
  refine z_if_eq (tgt := 2357) X dL_law_1212 (by decide) (fun _ => z_mem (M' := zmg (cmm n (zup i 1 43 0) x lm y ol od) (zmm (zup i 1 43 0) lm)) (by rw [c43]; rfl) (K _ _ _ _ _ _ _ _ (CI_43 h))) (fun q => absurd ?_ q)
  rw [show v9 = _ from hv9.trans (show _ = q_billByRecordsV i lm by rw [← h.2.2.2.2.2.2.2.2.1.1, ← h.2.2.2.2.2.2.2.2.1.2.1]; rfl)]
  exact zcmp0 _
set_option maxRecDepth 100000 in
set_option maxHeartbeats 4000000 in
theorem k_addKind (hl0 : l0.stackTraces = false) (X : zCx g l0 cL_law 9 (some .boolean) RL nm wsL_law 19 10812 603072 7215210 M00 post zno tab) (S : zScr g L xs) (hb : ∀ i : Int, 1 ≤ i → i ≤ 4 → vp_in (ix + Int32.ofInt i) L) (h : CI n i x lm y t) (hk : k + 8 ≤ 603072 ∧ nn + 1100 ≤ 7215210) (K : zKK g ix (k + 8) (nn + 1100)) : zE g 9 1217 (lB ix) [] (zmg (cmm n i x lm y ol od) (zmm i lm)) k nn := by
  refine z_aload_n X 4 dL_law_1217 rfl rfl ?_
  refine zl_arg (i := 1) X S 5 0 (hb 1 (by decide) (by decide)) dL_law_1218 dL_law_1219 dL_law_1221 dL_law_1222 dL_law_1223 rfl rfl ?_
  refine zl_arg (i := 2) X S 5 0 (hb 2 (by decide) (by decide)) dL_law_1224 dL_law_1225 dL_law_1227 dL_law_1228 dL_law_1229 rfl rfl ?_
  refine zl_arg (i := 3) X S 5 0 (hb 3 (by decide) (by decide)) dL_law_1230 dL_law_1231 dL_law_1233 dL_law_1234 dL_law_1235 rfl rfl ?_
  refine z_aload_n X 2 dL_law_1236 rfl rfl ?_
  refine z_callSWiN (As := [.ref 1, .int (zar xs ix 1), .int (zar xs ix 2), .int (zar xs ix 3), .ref 14]) (rest := []) (n1 := 5) X dL_law_1237 (zC_i (h_addKind l0 hl0 h ol od (zar xs ix 1) (zar xs ix 2) (zar xs ix 3)) zCok_cmm (fun _ _ hv => zO_ok hv) rfl) gL_law_L_addKind rfl rfl (by decide +kernel) ⟨by decide, by decide⟩ rfl (Nat.le_of_ble_eq_true rfl) hk ?_
  rintro k6 G9 ⟨C9, ⟨n', x', y', t', ol', od', rfl, hci, hk6, hv⟩, rfl⟩
  refine z_istore (ls' := (6, .int k6) :: lB ix) X dL_law_1240 (by decide) rfl ?_
  refine z_aload_n X 4 dL_law_1242 rfl rfl ?_
  refine zl_arg (i := 1) X S 6 1 (hb 1 (by decide) (by decide)) dL_law_1243 dL_law_1244 dL_law_1246 dL_law_1247 dL_law_1248 rfl rfl ?_
  refine zl_arg (i := 2) X S 6 1 (hb 2 (by decide) (by decide)) dL_law_1249 dL_law_1250 dL_law_1252 dL_law_1253 dL_law_1254 rfl rfl ?_
  refine zl_arg (i := 3) X S 6 1 (hb 3 (by decide) (by decide)) dL_law_1255 dL_law_1256 dL_law_1258 dL_law_1259 dL_law_1260 rfl rfl ?_
  refine z_callViN (As := [.int (zar xs ix 1), .int (zar xs ix 2), .int (zar xs ix 3)]) (rest := []) (n1 := 3) (ci := 11) X dL_law_1261 (zM_i (av' := [.ref 48, .int (zar xs ix 1), .int (zar xs ix 2), .int (zar xs ix 3)]) (c_X8_addKind l0 i lm (n 6) h.2.1.2.2.2.1 h.1.2.1.2.1 (zar xs ix 1) (zar xs ix 2) (zar xs ix 3)) zCok_cmm rfl) gL_law_X8_addKind rfl rfl (by decide +kernel) ⟨by decide, by decide⟩ zg48 rfl rfl (Nat.le_of_ble_eq_true rfl) hk ?_
  rintro v9 G9 ⟨rfl, rfl⟩
  refine z_istore (ls' := (7, .int _) :: (6, .int k6) :: lB ix) X dL_law_1264 (by decide) rfl ?_
  exact zl_tI X hk dL_law_1266 dL_law_1267 dL_law_1270 dL_law_1272 dL_law_1277 dL_law_1279 dL_law_1282 dL_law_1283 dL_law_1284 dL_law_1285 dL_law_1287 dL_law_1288 dL_law_1289 dL_law_1294 (by decide) ((t43_addKind _ _ _ _ _).trans hk6.symm) hv hci K
set_option maxRecDepth 100000 in
set_option maxHeartbeats 4000000 in
theorem k_addPallet (hl0 : l0.stackTraces = false) (X : zCx g l0 cL_law 9 (some .boolean) RL nm wsL_law 19 10812 603072 7215210 M00 post zno tab) (S : zScr g L xs) (hb : ∀ i : Int, 1 ≤ i → i ≤ 4 → vp_in (ix + Int32.ofInt i) L) (h : CI n i x lm y t) (hk : k + 8 ≤ 603072 ∧ nn + 1100 ≤ 7215210) (K : zKK g ix (k + 8) (nn + 1100)) : zE g 9 1297 (lB ix) [] (zmg (cmm n i x lm y ol od) (zmm i lm)) k nn := by
  refine z_aload_n X 4 dL_law_1297 rfl rfl ?_
  refine zl_arg (i := 1) X S 5 0 (hb 1 (by decide) (by decide)) dL_law_1298 dL_law_1299 dL_law_1301 dL_law_1302 dL_law_1303 rfl rfl ?_
  refine zl_arg (i := 2) X S 5 0 (hb 2 (by decide) (by decide)) dL_law_1304 dL_law_1305 dL_law_1307 dL_law_1308 dL_law_1309 rfl rfl ?_
  refine z_aload_n X 2 dL_law_1310 rfl rfl ?_
  refine z_callSWiN (As := [.ref 1, .int (zar xs ix 1), .int (zar xs ix 2), .ref 14]) (rest := []) (n1 := 4) X dL_law_1311 (zC_i (h_addPallet l0 hl0 h ol od (zar xs ix 1) (zar xs ix 2)) zCok_cmm (fun _ _ hv => zO_ok hv) rfl) gL_law_L_addPallet rfl rfl (by decide +kernel) ⟨by decide, by decide⟩ rfl (Nat.le_of_ble_eq_true rfl) hk ?_
  rintro k6 G9 ⟨C9, ⟨n', x', y', t', ol', od', rfl, hci, hk6, hv⟩, rfl⟩
  refine z_istore (ls' := (6, .int k6) :: lB ix) X dL_law_1314 (by decide) rfl ?_
  refine z_aload_n X 4 dL_law_1316 rfl rfl ?_
  refine zl_arg (i := 1) X S 6 1 (hb 1 (by decide) (by decide)) dL_law_1317 dL_law_1318 dL_law_1320 dL_law_1321 dL_law_1322 rfl rfl ?_
  refine zl_arg (i := 2) X S 6 1 (hb 2 (by decide) (by decide)) dL_law_1323 dL_law_1324 dL_law_1326 dL_law_1327 dL_law_1328 rfl rfl ?_
  refine z_callViN (As := [.int (zar xs ix 1), .int (zar xs ix 2)]) (rest := []) (n1 := 2) (ci := 11) X dL_law_1329 (zM_i (av' := [.ref 48, .int (zar xs ix 1), .int (zar xs ix 2)]) (c_X8_addPallet l0 i lm (n 5) h.2.1.2.2.1 h.1.2.1.1 (n 6) h.2.1.2.2.2.1 h.1.2.1.2.1 (n 7) h.2.1.2.2.2.2.1 h.1.2.1.2.2.1 (zar xs ix 1) (zar xs ix 2)) zCok_cmm rfl) gL_law_X8_addPallet rfl rfl (by decide +kernel) ⟨by decide, by decide⟩ zg48 rfl rfl (Nat.le_of_ble_eq_true rfl) hk ?_
  rintro v9 G9 ⟨rfl, rfl⟩
  refine z_istore (ls' := (7, .int _) :: (6, .int k6) :: lB ix) X dL_law_1332 (by decide) rfl ?_
  exact zl_tI X hk dL_law_1334 dL_law_1335 dL_law_1338 dL_law_1340 dL_law_1345 dL_law_1347 dL_law_1350 dL_law_1351 dL_law_1352 dL_law_1353 dL_law_1355 dL_law_1356 dL_law_1357 dL_law_1362 (by decide) ((t43_addPallet _ _ _ _ _).trans hk6.symm) hv hci K
set_option maxRecDepth 100000 in
set_option maxHeartbeats 4000000 in
theorem k_movePallet (hl0 : l0.stackTraces = false) (X : zCx g l0 cL_law 9 (some .boolean) RL nm wsL_law 19 10812 603072 7215210 M00 post zno tab) (S : zScr g L xs) (hb : ∀ i : Int, 1 ≤ i → i ≤ 4 → vp_in (ix + Int32.ofInt i) L) (h : CI n i x lm y t) (hk : k + 8 ≤ 603072 ∧ nn + 1100 ≤ 7215210) (K : zKK g ix (k + 8) (nn + 1100)) : zE g 9 1365 (lB ix) [] (zmg (cmm n i x lm y ol od) (zmm i lm)) k nn := by
  refine z_aload_n X 4 dL_law_1365 rfl rfl ?_
  refine zl_arg (i := 1) X S 5 0 (hb 1 (by decide) (by decide)) dL_law_1366 dL_law_1367 dL_law_1369 dL_law_1370 dL_law_1371 rfl rfl ?_
  refine zl_arg (i := 2) X S 5 0 (hb 2 (by decide) (by decide)) dL_law_1372 dL_law_1373 dL_law_1375 dL_law_1376 dL_law_1377 rfl rfl ?_
  refine z_aload_n X 2 dL_law_1378 rfl rfl ?_
  refine z_callSWiN (As := [.ref 1, .int (zar xs ix 1), .int (zar xs ix 2), .ref 14]) (rest := []) (n1 := 4) X dL_law_1379 (zC_i (h_movePallet l0 hl0 h ol od (zar xs ix 1) (zar xs ix 2)) zCok_cmm (fun _ _ hv => zO_ok hv) rfl) gL_law_L_movePallet rfl rfl (by decide +kernel) ⟨by decide, by decide⟩ rfl (Nat.le_of_ble_eq_true rfl) hk ?_
  rintro k6 G9 ⟨C9, ⟨n', x', y', t', ol', od', rfl, hci, hk6, hv⟩, rfl⟩
  refine z_istore (ls' := (6, .int k6) :: lB ix) X dL_law_1382 (by decide) rfl ?_
  refine z_aload_n X 4 dL_law_1384 rfl rfl ?_
  refine zl_arg (i := 1) X S 6 1 (hb 1 (by decide) (by decide)) dL_law_1385 dL_law_1386 dL_law_1388 dL_law_1389 dL_law_1390 rfl rfl ?_
  refine zl_arg (i := 2) X S 6 1 (hb 2 (by decide) (by decide)) dL_law_1391 dL_law_1392 dL_law_1394 dL_law_1395 dL_law_1396 rfl rfl ?_
  refine z_callViN (As := [.int (zar xs ix 1), .int (zar xs ix 2)]) (rest := []) (n1 := 2) (ci := 11) X dL_law_1397 (zM_i (av' := [.ref 48, .int (zar xs ix 1), .int (zar xs ix 2)]) (c_X8_movePallet l0 i lm (n 5) h.2.1.2.2.1 h.1.2.1.1 (n 7) h.2.1.2.2.2.2.1 h.1.2.1.2.2.1 (zar xs ix 1) (zar xs ix 2)) zCok_cmm rfl) gL_law_X8_movePallet rfl rfl (by decide +kernel) ⟨by decide, by decide⟩ zg48 rfl rfl (Nat.le_of_ble_eq_true rfl) hk ?_
  rintro v9 G9 ⟨rfl, rfl⟩
  refine z_istore (ls' := (7, .int _) :: (6, .int k6) :: lB ix) X dL_law_1400 (by decide) rfl ?_
  exact zl_tI X hk dL_law_1402 dL_law_1403 dL_law_1406 dL_law_1408 dL_law_1413 dL_law_1415 dL_law_1418 dL_law_1419 dL_law_1420 dL_law_1421 dL_law_1423 dL_law_1424 dL_law_1425 dL_law_1430 (by decide) ((t43_movePallet _ _ _ _).trans hk6.symm) hv hci K
set_option maxRecDepth 100000 in
set_option maxHeartbeats 4000000 in
theorem k_scrap (hl0 : l0.stackTraces = false) (X : zCx g l0 cL_law 9 (some .boolean) RL nm wsL_law 19 10812 603072 7215210 M00 post zno tab) (S : zScr g L xs) (hb : ∀ i : Int, 1 ≤ i → i ≤ 4 → vp_in (ix + Int32.ofInt i) L) (h : CI n i x lm y t) (hk : k + 8 ≤ 603072 ∧ nn + 1100 ≤ 7215210) (K : zKK g ix (k + 8) (nn + 1100)) : zE g 9 1433 (lB ix) [] (zmg (cmm n i x lm y ol od) (zmm i lm)) k nn := by
  refine z_aload_n X 4 dL_law_1433 rfl rfl ?_
  refine zl_arg (i := 1) X S 5 0 (hb 1 (by decide) (by decide)) dL_law_1434 dL_law_1435 dL_law_1437 dL_law_1438 dL_law_1439 rfl rfl ?_
  refine z_aload_n X 2 dL_law_1440 rfl rfl ?_
  refine z_callSWiN (As := [.ref 1, .int (zar xs ix 1), .ref 14]) (rest := []) (n1 := 3) X dL_law_1441 (zC_i (h_scrap l0 hl0 h ol od (zar xs ix 1)) zCok_cmm (fun _ _ hv => zO_ok hv) rfl) gL_law_L_scrap rfl rfl (by decide +kernel) ⟨by decide, by decide⟩ rfl (Nat.le_of_ble_eq_true rfl) hk ?_
  rintro k6 G9 ⟨C9, ⟨n', x', y', t', ol', od', rfl, hci, hk6, hv⟩, rfl⟩
  refine z_istore (ls' := (6, .int k6) :: lB ix) X dL_law_1444 (by decide) rfl ?_
  refine z_aload_n X 4 dL_law_1446 rfl rfl ?_
  refine zl_arg (i := 1) X S 6 1 (hb 1 (by decide) (by decide)) dL_law_1447 dL_law_1448 dL_law_1450 dL_law_1451 dL_law_1452 rfl rfl ?_
  refine z_callViN (As := [.int (zar xs ix 1)]) (rest := []) (n1 := 1) (ci := 11) X dL_law_1453 (zM_i (av' := [.ref 48, .int (zar xs ix 1)]) (c_X8_scrap l0 i lm (n 7) h.2.1.2.2.2.2.1 h.1.2.1.2.2.1 (zar xs ix 1)) zCok_cmm rfl) gL_law_X8_scrap rfl rfl (by decide +kernel) ⟨by decide, by decide⟩ zg48 rfl rfl (Nat.le_of_ble_eq_true rfl) hk ?_
  rintro v9 G9 ⟨rfl, rfl⟩
  refine z_istore (ls' := (7, .int _) :: (6, .int k6) :: lB ix) X dL_law_1456 (by decide) rfl ?_
  exact zl_tI X hk dL_law_1458 dL_law_1459 dL_law_1462 dL_law_1464 dL_law_1469 dL_law_1471 dL_law_1474 dL_law_1475 dL_law_1476 dL_law_1477 dL_law_1479 dL_law_1480 dL_law_1481 dL_law_1486 (by decide) ((t43_scrap _ _).trans hk6.symm) hv hci K
set_option maxRecDepth 100000 in
set_option maxHeartbeats 4000000 in
theorem k_pallets (hl0 : l0.stackTraces = false) (X : zCx g l0 cL_law 9 (some .boolean) RL nm wsL_law 19 10812 603072 7215210 M00 post zno tab) (S : zScr g L xs) (hb : ∀ i : Int, 1 ≤ i → i ≤ 4 → vp_in (ix + Int32.ofInt i) L) (h : CI n i x lm y t) (hk : k + 8 ≤ 603072 ∧ nn + 1100 ≤ 7215210) (K : zKK g ix (k + 8) (nn + 1100)) : zE g 9 1489 (lB ix) [] (zmg (cmm n i x lm y ol od) (zmm i lm)) k nn := by
  refine z_wide (a := 8) (b := 1100) ?_
  refine z_aload_n X 4 dL_law_1489 rfl rfl ?_
  refine z_callViN (As := []) (rest := []) (n1 := 0) (ci := 10) X dL_law_1490 (zC_i (c_X7_pallets l0 hl0 n i x lm y ol od h.1) zCok_cmm (fun _ C' hv => by obtain ⟨-, rfl⟩ := hv; exact zCok_cmm) rfl) gL_law_X7_pallets rfl rfl (by decide +kernel) ⟨by decide, by decide⟩ zg1 rfl rfl (Nat.le_of_ble_eq_true rfl) ⟨by omega, by omega⟩ ?_
  rintro v9 G9 ⟨C9, ⟨hv9, rfl⟩, rfl⟩
  refine z_aload_n X 3 dL_law_1493 rfl rfl ?_
  refine z_callViN (As := []) (rest := [.int v9]) (n1 := 0) (ci := 11) X dL_law_1494 (zM_i (av' := [.ref 48]) (c_X8_pallets l0 i lm) zCok_cmm rfl) gL_law_X8_pallets rfl rfl (by decide +kernel) ⟨by decide, by decide⟩ zg48 rfl rfl (Nat.le_of_ble_eq_true rfl) ⟨by omega, by omega⟩ ?_
  rintro w9 G9 ⟨rfl, rfl⟩
  exact z_icmp_eq (tgt := 2357) X dL_law_1497 (by decide) (fun _ => z_mem (M' := zmg (cmm n (zup i 1 43 0) x lm y ol od) (zmm (zup i 1 43 0) lm)) (by rw [c43]; rfl) (K _ _ _ _ _ _ _ _ (CI_43 h))) (fun q => absurd (hv9.trans h.2.1.2.2.2.2.1.symm) q)
set_option maxRecDepth 100000 in
set_option maxHeartbeats 4000000 in
theorem k_state (hl0 : l0.stackTraces = false) (X : zCx g l0 cL_law 9 (some .boolean) RL nm wsL_law 19 10812 603072 7215210 M00 post zno tab) (S : zScr g L xs) (hb : ∀ i : Int, 1 ≤ i → i ≤ 4 → vp_in (ix + Int32.ofInt i) L) (h : CI n i x lm y t) (hk : k + 8 ≤ 603072 ∧ nn + 1100 ≤ 7215210) (K : zKK g ix (k + 8) (nn + 1100)) : zE g 9 1502 (lB ix) [] (zmg (cmm n i x lm y ol od) (zmm i lm)) k nn := by
  refine z_aload_n X 4 dL_law_1502 rfl rfl ?_
  refine zl_arg (i := 1) X S 5 0 (hb 1 (by decide) (by decide)) dL_law_1503 dL_law_1504 dL_law_1506 dL_law_1507 dL_law_1508 rfl rfl ?_
  refine z_aload_n X 2 dL_law_1509 rfl rfl ?_
  refine z_callSWiN (As := [.ref 1, .int (zar xs ix 1), .ref 14]) (rest := []) (n1 := 3) X dL_law_1510 (zC_i (h_state l0 hl0 h ol od (zar xs ix 1)) zCok_cmm (fun _ _ hv => zO_ok hv) rfl) gL_law_L_state rfl rfl (by decide +kernel) ⟨by decide, by decide⟩ rfl (Nat.le_of_ble_eq_true rfl) hk ?_
  rintro k6 G9 ⟨C9, ⟨n', x', y', t', ol', od', rfl, hci, hk6, hv⟩, rfl⟩
  refine z_istore (ls' := (6, .int k6) :: lB ix) X dL_law_1513 (by decide) rfl ?_
  refine z_aload_n X 4 dL_law_1515 rfl rfl ?_
  refine zl_arg (i := 1) X S 6 1 (hb 1 (by decide) (by decide)) dL_law_1516 dL_law_1517 dL_law_1519 dL_law_1520 dL_law_1521 rfl rfl ?_
  refine z_callViN (As := [.int (zar xs ix 1)]) (rest := []) (n1 := 1) (ci := 11) X dL_law_1522 (zM_i (av' := [.ref 48, .int (zar xs ix 1)]) (c_X8_state l0 i lm (n 7) h.2.1.2.2.2.2.1 h.1.2.1.2.2.1 (zar xs ix 1) h.2.2.1.2.2.2.1) zCok_cmm rfl) gL_law_X8_state rfl rfl (by decide +kernel) ⟨by decide, by decide⟩ zg48 rfl rfl (Nat.le_of_ble_eq_true rfl) hk ?_
  rintro v9 G9 ⟨rfl, rfl⟩
  refine z_istore (ls' := (7, .int _) :: (6, .int k6) :: lB ix) X dL_law_1525 (by decide) rfl ?_
  exact zl_tI X hk dL_law_1527 dL_law_1528 dL_law_1531 dL_law_1533 dL_law_1538 dL_law_1540 dL_law_1543 dL_law_1544 dL_law_1545 dL_law_1546 dL_law_1548 dL_law_1549 dL_law_1550 dL_law_1555 (by decide) ((t43_state _ _).trans hk6.symm) hv hci K
set_option maxRecDepth 100000 in
set_option maxHeartbeats 4000000 in
theorem k_roomOf (hl0 : l0.stackTraces = false) (X : zCx g l0 cL_law 9 (some .boolean) RL nm wsL_law 19 10812 603072 7215210 M00 post zno tab) (S : zScr g L xs) (hb : ∀ i : Int, 1 ≤ i → i ≤ 4 → vp_in (ix + Int32.ofInt i) L) (h : CI n i x lm y t) (hk : k + 8 ≤ 603072 ∧ nn + 1100 ≤ 7215210) (K : zKK g ix (k + 8) (nn + 1100)) : zE g 9 1558 (lB ix) [] (zmg (cmm n i x lm y ol od) (zmm i lm)) k nn := by
  refine z_aload_n X 4 dL_law_1558 rfl rfl ?_
  refine zl_arg (i := 1) X S 5 0 (hb 1 (by decide) (by decide)) dL_law_1559 dL_law_1560 dL_law_1562 dL_law_1563 dL_law_1564 rfl rfl ?_
  refine z_aload_n X 2 dL_law_1565 rfl rfl ?_
  refine z_callSWiN (As := [.ref 1, .int (zar xs ix 1), .ref 14]) (rest := []) (n1 := 3) X dL_law_1566 (zC_i (h_roomOf l0 hl0 h ol od (zar xs ix 1)) zCok_cmm (fun _ _ hv => zO_ok hv) rfl) gL_law_L_roomOf rfl rfl (by decide +kernel) ⟨by decide, by decide⟩ rfl (Nat.le_of_ble_eq_true rfl) hk ?_
  rintro k6 G9 ⟨C9, ⟨n', x', y', t', ol', od', rfl, hci, hk6, hv⟩, rfl⟩
  refine z_istore (ls' := (6, .int k6) :: lB ix) X dL_law_1569 (by decide) rfl ?_
  refine z_aload_n X 4 dL_law_1571 rfl rfl ?_
  refine zl_arg (i := 1) X S 6 1 (hb 1 (by decide) (by decide)) dL_law_1572 dL_law_1573 dL_law_1575 dL_law_1576 dL_law_1577 rfl rfl ?_
  refine z_callViN (As := [.int (zar xs ix 1)]) (rest := []) (n1 := 1) (ci := 11) X dL_law_1578 (zM_i (av' := [.ref 48, .int (zar xs ix 1)]) (c_X8_roomOf l0 i lm (n 7) h.2.1.2.2.2.2.1 h.1.2.1.2.2.1 (zar xs ix 1)) zCok_cmm rfl) gL_law_X8_roomOf rfl rfl (by decide +kernel) ⟨by decide, by decide⟩ zg48 rfl rfl (Nat.le_of_ble_eq_true rfl) hk ?_
  rintro v9 G9 ⟨rfl, rfl⟩
  refine z_istore (ls' := (7, .int _) :: (6, .int k6) :: lB ix) X dL_law_1581 (by decide) rfl ?_
  exact zl_tI X hk dL_law_1583 dL_law_1584 dL_law_1587 dL_law_1589 dL_law_1594 dL_law_1596 dL_law_1599 dL_law_1600 dL_law_1601 dL_law_1602 dL_law_1604 dL_law_1605 dL_law_1606 dL_law_1611 (by decide) ((t43_roomOf _ _).trans hk6.symm) hv hci K
set_option maxRecDepth 100000 in
set_option maxHeartbeats 4000000 in
theorem k_life (hl0 : l0.stackTraces = false) (X : zCx g l0 cL_law 9 (some .boolean) RL nm wsL_law 19 10812 603072 7215210 M00 post zno tab) (S : zScr g L xs) (hb : ∀ i : Int, 1 ≤ i → i ≤ 4 → vp_in (ix + Int32.ofInt i) L) (h : CI n i x lm y t) (hk : k + 8 ≤ 603072 ∧ nn + 1100 ≤ 7215210) (K : zKK g ix (k + 8) (nn + 1100)) : zE g 9 1614 (lB ix) [] (zmg (cmm n i x lm y ol od) (zmm i lm)) k nn := by
  refine z_aload_n X 4 dL_law_1614 rfl rfl ?_
  refine zl_arg (i := 1) X S 5 0 (hb 1 (by decide) (by decide)) dL_law_1615 dL_law_1616 dL_law_1618 dL_law_1619 dL_law_1620 rfl rfl ?_
  refine z_aload_n X 2 dL_law_1621 rfl rfl ?_
  refine z_callSWiN (As := [.ref 1, .int (zar xs ix 1), .ref 14]) (rest := []) (n1 := 3) X dL_law_1622 (zC_i (h_life l0 hl0 h ol od (zar xs ix 1)) zCok_cmm (fun _ _ hv => zO_ok hv) rfl) gL_law_L_life rfl rfl (by decide +kernel) ⟨by decide, by decide⟩ rfl (Nat.le_of_ble_eq_true rfl) hk ?_
  rintro k6 G9 ⟨C9, ⟨n', x', y', t', ol', od', rfl, hci, hk6, hv⟩, rfl⟩
  refine z_istore (ls' := (6, .int k6) :: lB ix) X dL_law_1625 (by decide) rfl ?_
  refine z_aload_n X 4 dL_law_1627 rfl rfl ?_
  refine zl_arg (i := 1) X S 6 1 (hb 1 (by decide) (by decide)) dL_law_1628 dL_law_1629 dL_law_1631 dL_law_1632 dL_law_1633 rfl rfl ?_
  refine z_callViN (As := [.int (zar xs ix 1)]) (rest := []) (n1 := 1) (ci := 11) X dL_law_1634 (zM_i (av' := [.ref 48, .int (zar xs ix 1)]) (c_X8_life l0 i lm (n 7) h.2.1.2.2.2.2.1 h.1.2.1.2.2.1 (zar xs ix 1)) zCok_cmm rfl) gL_law_X8_life rfl rfl (by decide +kernel) ⟨by decide, by decide⟩ zg48 rfl rfl (Nat.le_of_ble_eq_true rfl) hk ?_
  rintro v9 G9 ⟨rfl, rfl⟩
  refine z_istore (ls' := (7, .int _) :: (6, .int k6) :: lB ix) X dL_law_1637 (by decide) rfl ?_
  exact zl_tI X hk dL_law_1639 dL_law_1640 dL_law_1643 dL_law_1645 dL_law_1650 dL_law_1652 dL_law_1655 dL_law_1656 dL_law_1657 dL_law_1658 dL_law_1660 dL_law_1661 dL_law_1662 dL_law_1667 (by decide) ((t43_life _ _).trans hk6.symm) hv hci K
set_option maxRecDepth 100000 in
set_option maxHeartbeats 4000000 in
theorem k_lifeByRecords (hl0 : l0.stackTraces = false) (X : zCx g l0 cL_law 9 (some .boolean) RL nm wsL_law 19 10812 603072 7215210 M00 post zno tab) (S : zScr g L xs) (hb : ∀ i : Int, 1 ≤ i → i ≤ 4 → vp_in (ix + Int32.ofInt i) L) (h : CI n i x lm y t) (hk : k + 8 ≤ 603072 ∧ nn + 1100 ≤ 7215210) (K : zKK g ix (k + 8) (nn + 1100)) : zE g 9 1670 (lB ix) [] (zmg (cmm n i x lm y ol od) (zmm i lm)) k nn := by
  refine z_aload_n X 4 dL_law_1670 rfl rfl ?_
  refine zl_arg (i := 1) X S 5 0 (hb 1 (by decide) (by decide)) dL_law_1671 dL_law_1672 dL_law_1674 dL_law_1675 dL_law_1676 rfl rfl ?_
  refine z_aload_n X 2 dL_law_1677 rfl rfl ?_
  refine z_callSWiN (As := [.ref 1, .int (zar xs ix 1), .ref 14]) (rest := []) (n1 := 3) X dL_law_1678 (zC_i (h_lifeByRecords l0 hl0 h ol od (zar xs ix 1)) zCok_cmm (fun _ _ hv => zO_ok hv) rfl) gL_law_L_lifeByRecords rfl rfl (by decide +kernel) ⟨by decide, by decide⟩ rfl (Nat.le_of_ble_eq_true rfl) hk ?_
  rintro k6 G9 ⟨C9, ⟨n', x', y', t', ol', od', rfl, hci, hk6, hv⟩, rfl⟩
  refine z_istore (ls' := (6, .int k6) :: lB ix) X dL_law_1681 (by decide) rfl ?_
  refine z_aload_n X 4 dL_law_1683 rfl rfl ?_
  refine zl_arg (i := 1) X S 6 1 (hb 1 (by decide) (by decide)) dL_law_1684 dL_law_1685 dL_law_1687 dL_law_1688 dL_law_1689 rfl rfl ?_
  refine z_callViN (As := [.int (zar xs ix 1)]) (rest := []) (n1 := 1) (ci := 11) X dL_law_1690 (zM_i (av' := [.ref 48, .int (zar xs ix 1)]) (c_X8_lifeByRecords l0 i lm (n 7) h.2.1.2.2.2.2.1 h.1.2.1.2.2.1 (zar xs ix 1)) zCok_cmm rfl) gL_law_X8_lifeByRecords rfl rfl (by decide +kernel) ⟨by decide, by decide⟩ zg48 rfl rfl (Nat.le_of_ble_eq_true rfl) hk ?_
  rintro v9 G9 ⟨rfl, rfl⟩
  refine z_istore (ls' := (7, .int _) :: (6, .int k6) :: lB ix) X dL_law_1693 (by decide) rfl ?_
  exact zl_tI X hk dL_law_1695 dL_law_1696 dL_law_1699 dL_law_1701 dL_law_1706 dL_law_1708 dL_law_1711 dL_law_1712 dL_law_1713 dL_law_1714 dL_law_1716 dL_law_1717 dL_law_1718 dL_law_1723 (by decide) ((t43_lifeByRecords _ _).trans hk6.symm) hv hci K
set_option maxRecDepth 100000 in
set_option maxHeartbeats 4000000 in
theorem k_forecast (hl0 : l0.stackTraces = false) (X : zCx g l0 cL_law 9 (some .boolean) RL nm wsL_law 19 10812 603072 7215210 M00 post zno tab) (S : zScr g L xs) (hb : ∀ i : Int, 1 ≤ i → i ≤ 4 → vp_in (ix + Int32.ofInt i) L) (h : CI n i x lm y t) (hk : k + 8 ≤ 603072 ∧ nn + 1100 ≤ 7215210) (K : zKK g ix (k + 8) (nn + 1100)) : zE g 9 1726 (lB ix) [] (zmg (cmm n i x lm y ol od) (zmm i lm)) k nn := by
  refine z_aload_n X 4 dL_law_1726 rfl rfl ?_
  refine zl_arg (i := 1) X S 5 0 (hb 1 (by decide) (by decide)) dL_law_1727 dL_law_1728 dL_law_1730 dL_law_1731 dL_law_1732 rfl rfl ?_
  refine zl_arg (i := 2) X S 5 0 (hb 2 (by decide) (by decide)) dL_law_1733 dL_law_1734 dL_law_1736 dL_law_1737 dL_law_1738 rfl rfl ?_
  refine z_aload_n X 2 dL_law_1739 rfl rfl ?_
  refine z_callSWiN (As := [.ref 1, .int (zar xs ix 1), .int (zar xs ix 2), .ref 14]) (rest := []) (n1 := 4) X dL_law_1740 (zC_i (h_forecast l0 hl0 h ol od (zar xs ix 1) (zar xs ix 2)) zCok_cmm (fun _ _ hv => zO_ok hv) rfl) gL_law_L_forecast rfl rfl (by decide +kernel) ⟨by decide, by decide⟩ rfl (Nat.le_of_ble_eq_true rfl) hk ?_
  rintro k6 G9 ⟨C9, ⟨n', x', y', t', ol', od', rfl, hci, hk6, hv⟩, rfl⟩
  refine z_istore (ls' := (6, .int k6) :: lB ix) X dL_law_1743 (by decide) rfl ?_
  refine z_aload_n X 4 dL_law_1745 rfl rfl ?_
  refine zl_arg (i := 1) X S 6 1 (hb 1 (by decide) (by decide)) dL_law_1746 dL_law_1747 dL_law_1749 dL_law_1750 dL_law_1751 rfl rfl ?_
  refine zl_arg (i := 2) X S 6 1 (hb 2 (by decide) (by decide)) dL_law_1752 dL_law_1753 dL_law_1755 dL_law_1756 dL_law_1757 rfl rfl ?_
  refine z_callViN (As := [.int (zar xs ix 1), .int (zar xs ix 2)]) (rest := []) (n1 := 2) (ci := 11) X dL_law_1758 (zM_i (av' := [.ref 48, .int (zar xs ix 1), .int (zar xs ix 2)]) (c_X8_forecast l0 i lm (n 7) h.2.1.2.2.2.2.1 h.1.2.1.2.2.1 (zar xs ix 1) (zar xs ix 2) (CI_mWF h).2.2.2.1) zCok_cmm rfl) gL_law_X8_forecast rfl rfl (by decide +kernel) ⟨by decide, by decide⟩ zg48 rfl rfl (Nat.le_of_ble_eq_true rfl) hk ?_
  rintro v9 G9 ⟨rfl, rfl⟩
  refine z_istore (ls' := (7, .int _) :: (6, .int k6) :: lB ix) X dL_law_1761 (by decide) rfl ?_
  exact zl_tI X hk dL_law_1763 dL_law_1764 dL_law_1767 dL_law_1769 dL_law_1774 dL_law_1776 dL_law_1779 dL_law_1780 dL_law_1781 dL_law_1782 dL_law_1784 dL_law_1785 dL_law_1786 dL_law_1791 (by decide) ((t43_forecast _ _ _).trans hk6.symm) hv hci K
set_option maxRecDepth 100000 in
set_option maxHeartbeats 4000000 in
theorem k_soonest (hl0 : l0.stackTraces = false) (X : zCx g l0 cL_law 9 (some .boolean) RL nm wsL_law 19 10812 603072 7215210 M00 post zno tab) (S : zScr g L xs) (hb : ∀ i : Int, 1 ≤ i → i ≤ 4 → vp_in (ix + Int32.ofInt i) L) (h : CI n i x lm y t) (hk : k + 8 ≤ 603072 ∧ nn + 1100 ≤ 7215210) (K : zKK g ix (k + 8) (nn + 1100)) : zE g 9 1794 (lB ix) [] (zmg (cmm n i x lm y ol od) (zmm i lm)) k nn := by
  refine z_aload_n X 4 dL_law_1794 rfl rfl ?_
  refine z_aload_n X 2 dL_law_1795 rfl rfl ?_
  refine z_callSWiN (As := [.ref 1, .ref 14]) (rest := []) (n1 := 2) X dL_law_1796 (zC_i (h_soonest l0 hl0 h ol od ) zCok_cmm (fun _ _ hv => zO_ok hv) rfl) gL_law_L_soonest rfl rfl (by decide +kernel) ⟨by decide, by decide⟩ rfl (Nat.le_of_ble_eq_true rfl) hk ?_
  rintro k6 G9 ⟨C9, ⟨n', x', y', t', ol', od', rfl, hci, hk6, hv⟩, rfl⟩
  refine z_istore (ls' := (6, .int k6) :: lB ix) X dL_law_1799 (by decide) rfl ?_
  refine z_aload_n X 4 dL_law_1801 rfl rfl ?_
  refine z_callViN (As := []) (rest := []) (n1 := 0) (ci := 11) X dL_law_1802 (zM_i (av' := [.ref 48]) (c_X8_soonest l0 i lm (n 7) h.2.1.2.2.2.2.1 h.1.2.1.2.2.1) zCok_cmm rfl) gL_law_X8_soonest rfl rfl (by decide +kernel) ⟨by decide, by decide⟩ zg48 rfl rfl (Nat.le_of_ble_eq_true rfl) hk ?_
  rintro v9 G9 ⟨rfl, rfl⟩
  refine z_istore (ls' := (7, .int _) :: (6, .int k6) :: lB ix) X dL_law_1805 (by decide) rfl ?_
  exact zl_tI X hk dL_law_1807 dL_law_1808 dL_law_1811 dL_law_1813 dL_law_1818 dL_law_1820 dL_law_1823 dL_law_1824 dL_law_1825 dL_law_1826 dL_law_1828 dL_law_1829 dL_law_1830 dL_law_1835 (by decide) ((t43_soonest _ _).trans hk6.symm) hv hci K
set_option maxRecDepth 100000 in
set_option maxHeartbeats 4000000 in
theorem k_lostShare (hl0 : l0.stackTraces = false) (X : zCx g l0 cL_law 9 (some .boolean) RL nm wsL_law 19 10812 603072 7215210 M00 post zno tab) (S : zScr g L xs) (hb : ∀ i : Int, 1 ≤ i → i ≤ 4 → vp_in (ix + Int32.ofInt i) L) (h : CI n i x lm y t) (hk : k + 8 ≤ 603072 ∧ nn + 1100 ≤ 7215210) (K : zKK g ix (k + 8) (nn + 1100)) : zE g 9 1838 (lB ix) [] (zmg (cmm n i x lm y ol od) (zmm i lm)) k nn := by
  refine z_aload_n X 4 dL_law_1838 rfl rfl ?_
  refine z_aload X 1 dL_law_1839 rfl ?_
  refine z_callSWiN (As := [.ref 1, .ref 15]) (rest := []) (n1 := 2) X dL_law_1841 (zC_i (h_lostShare l0 hl0 h ol od ) zCok_cmm (fun _ _ hv => zOd_ok hv) rfl) gL_law_L_lostShare rfl rfl (by decide +kernel) ⟨by decide, by decide⟩ rfl (Nat.le_of_ble_eq_true rfl) hk ?_
  rintro k6 G9 ⟨C9, ⟨n', x', y', t', ol', od', rfl, hci, hk6, hv⟩, rfl⟩
  refine z_istore (ls' := (6, .int k6) :: lB ix) X dL_law_1844 (by decide) rfl ?_
  refine z_aload_n X 4 dL_law_1846 rfl rfl ?_
  refine z_callVfN (As := []) (rest := []) (n1 := 0) (ci := 11) X dL_law_1847 (zM_f (av' := [.ref 48]) (c_X8_lostShare l0 i lm (n 7) h.2.1.2.2.2.2.1 h.1.2.1.2.2.1) zCok_cmm rfl) gL_law_X8_lostShare rfl rfl (by decide +kernel) ⟨by decide, by decide⟩ zg48 rfl rfl (Nat.le_of_ble_eq_true rfl) hk ?_
  rintro v9 G9 ⟨rfl, rfl⟩
  refine z_fstore (ls' := (7, .float _) :: (6, .int k6) :: lB ix) X dL_law_1850 (by decide) rfl ?_
  exact zl_tF X hk dL_law_1852 dL_law_1853 dL_law_1856 dL_law_1858 dL_law_1863 dL_law_1865 dL_law_1868 dL_law_1870 dL_law_1871 dL_law_1872 dL_law_1874 dL_law_1875 dL_law_1876 dL_law_1901 (by decide) ((t43_lostShare _ _).trans hk6.symm) (fun c => zsh_z (h := h) (hk6.symm.trans c)) (fun c => zsh_n (h := h) (hk6.symm.trans c)) hv hci K
set_option maxRecDepth 100000 in
set_option maxHeartbeats 4000000 in
theorem k_order (hl0 : l0.stackTraces = false) (X : zCx g l0 cL_law 9 (some .boolean) RL nm wsL_law 19 10812 603072 7215210 M00 post zno tab) (S : zScr g L xs) (hb : ∀ i : Int, 1 ≤ i → i ≤ 4 → vp_in (ix + Int32.ofInt i) L) (h : CI n i x lm y t) (hk : k + 8 ≤ 603072 ∧ nn + 1100 ≤ 7215210) (K : zKK g ix (k + 8) (nn + 1100)) : zE g 9 1904 (lB ix) [] (zmg (cmm n i x lm y ol od) (zmm i lm)) k nn := by
  refine z_aload_n X 4 dL_law_1904 rfl rfl ?_
  refine zl_arg (i := 1) X S 5 0 (hb 1 (by decide) (by decide)) dL_law_1905 dL_law_1906 dL_law_1908 dL_law_1909 dL_law_1910 rfl rfl ?_
  refine zl_arg (i := 2) X S 5 0 (hb 2 (by decide) (by decide)) dL_law_1911 dL_law_1912 dL_law_1914 dL_law_1915 dL_law_1916 rfl rfl ?_
  refine zl_arg (i := 3) X S 5 0 (hb 3 (by decide) (by decide)) dL_law_1917 dL_law_1918 dL_law_1920 dL_law_1921 dL_law_1922 rfl rfl ?_
  refine zl_arg (i := 4) X S 5 0 (hb 4 (by decide) (by decide)) dL_law_1923 dL_law_1924 dL_law_1926 dL_law_1927 dL_law_1928 rfl rfl ?_
  refine z_aload_n X 2 dL_law_1929 rfl rfl ?_
  refine z_callSWiN (As := [.ref 1, .int (zar xs ix 1), .int (zar xs ix 2), .int (zar xs ix 3), .int (zar xs ix 4), .ref 14]) (rest := []) (n1 := 6) X dL_law_1930 (zC_i (h_order l0 hl0 h ol od (zar xs ix 1) (zar xs ix 2) (zar xs ix 3) (zar xs ix 4)) zCok_cmm (fun _ _ hv => zO_ok hv) rfl) gL_law_L_order rfl rfl (by decide +kernel) ⟨by decide, by decide⟩ rfl (Nat.le_of_ble_eq_true rfl) hk ?_
  rintro k6 G9 ⟨C9, ⟨n', x', y', t', ol', od', rfl, hci, hk6, hv⟩, rfl⟩
  refine z_istore (ls' := (6, .int k6) :: lB ix) X dL_law_1933 (by decide) rfl ?_
  refine z_aload_n X 4 dL_law_1935 rfl rfl ?_
  refine zl_arg (i := 1) X S 6 1 (hb 1 (by decide) (by decide)) dL_law_1936 dL_law_1937 dL_law_1939 dL_law_1940 dL_law_1941 rfl rfl ?_
  refine zl_arg (i := 2) X S 6 1 (hb 2 (by decide) (by decide)) dL_law_1942 dL_law_1943 dL_law_1945 dL_law_1946 dL_law_1947 rfl rfl ?_
  refine zl_arg (i := 3) X S 6 1 (hb 3 (by decide) (by decide)) dL_law_1948 dL_law_1949 dL_law_1951 dL_law_1952 dL_law_1953 rfl rfl ?_
  refine zl_arg (i := 4) X S 6 1 (hb 4 (by decide) (by decide)) dL_law_1954 dL_law_1955 dL_law_1957 dL_law_1958 dL_law_1959 rfl rfl ?_
  refine z_callViN (As := [.int (zar xs ix 1), .int (zar xs ix 2), .int (zar xs ix 3), .int (zar xs ix 4)]) (rest := []) (n1 := 4) (ci := 11) X dL_law_1960 (zM_i (av' := [.ref 48, .int (zar xs ix 1), .int (zar xs ix 2), .int (zar xs ix 3), .int (zar xs ix 4)]) (c_X8_order l0 i lm (n 6) h.2.1.2.2.2.1 h.1.2.1.2.1 (n 8) h.2.1.2.2.2.2.2.1 h.1.2.1.2.2.2 (zar xs ix 1) (zar xs ix 2) (zar xs ix 3) (zar xs ix 4)) zCok_cmm rfl) gL_law_X8_order rfl rfl (by decide +kernel) ⟨by decide, by decide⟩ zg48 rfl rfl (Nat.le_of_ble_eq_true rfl) hk ?_
  rintro v9 G9 ⟨rfl, rfl⟩
  refine z_istore (ls' := (7, .int _) :: (6, .int k6) :: lB ix) X dL_law_1963 (by decide) rfl ?_
  exact zl_tI X hk dL_law_1965 dL_law_1966 dL_law_1969 dL_law_1971 dL_law_1976 dL_law_1978 dL_law_1981 dL_law_1982 dL_law_1983 dL_law_1984 dL_law_1986 dL_law_1987 dL_law_1988 dL_law_1993 (by decide) ((t43_order _ _ _ _ _ _ _).trans hk6.symm) hv hci K
set_option maxRecDepth 100000 in
set_option maxHeartbeats 4000000 in
theorem k_cancel (hl0 : l0.stackTraces = false) (X : zCx g l0 cL_law 9 (some .boolean) RL nm wsL_law 19 10812 603072 7215210 M00 post zno tab) (S : zScr g L xs) (hb : ∀ i : Int, 1 ≤ i → i ≤ 4 → vp_in (ix + Int32.ofInt i) L) (h : CI n i x lm y t) (hk : k + 8 ≤ 603072 ∧ nn + 1100 ≤ 7215210) (K : zKK g ix (k + 8) (nn + 1100)) : zE g 9 1996 (lB ix) [] (zmg (cmm n i x lm y ol od) (zmm i lm)) k nn := by
  refine z_aload_n X 4 dL_law_1996 rfl rfl ?_
  refine zl_arg (i := 1) X S 5 0 (hb 1 (by decide) (by decide)) dL_law_1997 dL_law_1998 dL_law_2000 dL_law_2001 dL_law_2002 rfl rfl ?_
  refine z_aload_n X 2 dL_law_2003 rfl rfl ?_
  refine z_callSWiN (As := [.ref 1, .int (zar xs ix 1), .ref 14]) (rest := []) (n1 := 3) X dL_law_2004 (zC_i (h_cancel l0 hl0 h ol od (zar xs ix 1)) zCok_cmm (fun _ _ hv => zO_ok hv) rfl) gL_law_L_cancel rfl rfl (by decide +kernel) ⟨by decide, by decide⟩ rfl (Nat.le_of_ble_eq_true rfl) hk ?_
  rintro k6 G9 ⟨C9, ⟨n', x', y', t', ol', od', rfl, hci, hk6, hv⟩, rfl⟩
  refine z_istore (ls' := (6, .int k6) :: lB ix) X dL_law_2007 (by decide) rfl ?_
  refine z_aload_n X 4 dL_law_2009 rfl rfl ?_
  refine zl_arg (i := 1) X S 6 1 (hb 1 (by decide) (by decide)) dL_law_2010 dL_law_2011 dL_law_2013 dL_law_2014 dL_law_2015 rfl rfl ?_
  refine z_callViN (As := [.int (zar xs ix 1)]) (rest := []) (n1 := 1) (ci := 11) X dL_law_2016 (zM_i (av' := [.ref 48, .int (zar xs ix 1)]) (c_X8_cancel l0 i lm (n 8) h.2.1.2.2.2.2.2.1 h.1.2.1.2.2.2 (zar xs ix 1)) zCok_cmm rfl) gL_law_X8_cancel rfl rfl (by decide +kernel) ⟨by decide, by decide⟩ zg48 rfl rfl (Nat.le_of_ble_eq_true rfl) hk ?_
  rintro v9 G9 ⟨rfl, rfl⟩
  refine z_istore (ls' := (7, .int _) :: (6, .int k6) :: lB ix) X dL_law_2019 (by decide) rfl ?_
  exact zl_tI X hk dL_law_2021 dL_law_2022 dL_law_2025 dL_law_2027 dL_law_2032 dL_law_2034 dL_law_2037 dL_law_2038 dL_law_2039 dL_law_2040 dL_law_2042 dL_law_2043 dL_law_2044 dL_law_2049 (by decide) ((t43_cancel _ _ _).trans hk6.symm) hv hci K
set_option maxRecDepth 100000 in
set_option maxHeartbeats 4000000 in
theorem k_candidates (hl0 : l0.stackTraces = false) (X : zCx g l0 cL_law 9 (some .boolean) RL nm wsL_law 19 10812 603072 7215210 M00 post zno tab) (S : zScr g L xs) (hb : ∀ i : Int, 1 ≤ i → i ≤ 4 → vp_in (ix + Int32.ofInt i) L) (h : CI n i x lm y t) (hk : k + 8 ≤ 603072 ∧ nn + 1100 ≤ 7215210) (K : zKK g ix (k + 8) (nn + 1100)) : zE g 9 2052 (lB ix) [] (zmg (cmm n i x lm y ol od) (zmm i lm)) k nn := by
  refine z_aload_n X 4 dL_law_2052 rfl rfl ?_
  refine zl_arg (i := 1) X S 5 0 (hb 1 (by decide) (by decide)) dL_law_2053 dL_law_2054 dL_law_2056 dL_law_2057 dL_law_2058 rfl rfl ?_
  refine z_aload_n X 2 dL_law_2059 rfl rfl ?_
  refine z_callSWiN (As := [.ref 1, .int (zar xs ix 1), .ref 14]) (rest := []) (n1 := 3) X dL_law_2060 (zC_i (h_candidates l0 hl0 h ol od (zar xs ix 1)) zCok_cmm (fun _ _ hv => zO_ok hv) rfl) gL_law_L_candidates rfl rfl (by decide +kernel) ⟨by decide, by decide⟩ rfl (Nat.le_of_ble_eq_true rfl) hk ?_
  rintro k6 G9 ⟨C9, ⟨n', x', y', t', ol', od', rfl, hci, hk6, hv⟩, rfl⟩
  refine z_istore (ls' := (6, .int k6) :: lB ix) X dL_law_2063 (by decide) rfl ?_
  refine z_aload_n X 4 dL_law_2065 rfl rfl ?_
  refine zl_arg (i := 1) X S 6 1 (hb 1 (by decide) (by decide)) dL_law_2066 dL_law_2067 dL_law_2069 dL_law_2070 dL_law_2071 rfl rfl ?_
  refine z_callViN (As := [.int (zar xs ix 1)]) (rest := []) (n1 := 1) (ci := 11) X dL_law_2072 (zM_i (av' := [.ref 48, .int (zar xs ix 1)]) (c_X8_candidates l0 i lm (n 7) h.2.1.2.2.2.2.1 h.1.2.1.2.2.1 (n 8) h.2.1.2.2.2.2.2.1 h.1.2.1.2.2.2 (zar xs ix 1)) zCok_cmm rfl) gL_law_X8_candidates rfl rfl (by decide +kernel) ⟨by decide, by decide⟩ zg48 rfl rfl (Nat.le_of_ble_eq_true rfl) hk ?_
  rintro v9 G9 ⟨rfl, rfl⟩
  refine z_istore (ls' := (7, .int _) :: (6, .int k6) :: lB ix) X dL_law_2075 (by decide) rfl ?_
  exact zl_tI X hk dL_law_2077 dL_law_2078 dL_law_2081 dL_law_2083 dL_law_2088 dL_law_2090 dL_law_2093 dL_law_2094 dL_law_2095 dL_law_2096 dL_law_2098 dL_law_2099 dL_law_2100 dL_law_2105 (by decide) ((t43_candidates _ _ _).trans hk6.symm) hv hci K
set_option maxRecDepth 100000 in
set_option maxHeartbeats 4000000 in
theorem k_candidateAt (hl0 : l0.stackTraces = false) (X : zCx g l0 cL_law 9 (some .boolean) RL nm wsL_law 19 10812 603072 7215210 M00 post zno tab) (S : zScr g L xs) (hb : ∀ i : Int, 1 ≤ i → i ≤ 4 → vp_in (ix + Int32.ofInt i) L) (h : CI n i x lm y t) (hk : k + 8 ≤ 603072 ∧ nn + 1100 ≤ 7215210) (K : zKK g ix (k + 8) (nn + 1100)) : zE g 9 2108 (lB ix) [] (zmg (cmm n i x lm y ol od) (zmm i lm)) k nn := by
  refine z_aload_n X 4 dL_law_2108 rfl rfl ?_
  refine zl_arg (i := 1) X S 5 0 (hb 1 (by decide) (by decide)) dL_law_2109 dL_law_2110 dL_law_2112 dL_law_2113 dL_law_2114 rfl rfl ?_
  refine zl_arg (i := 2) X S 5 0 (hb 2 (by decide) (by decide)) dL_law_2115 dL_law_2116 dL_law_2118 dL_law_2119 dL_law_2120 rfl rfl ?_
  refine z_aload_n X 2 dL_law_2121 rfl rfl ?_
  refine z_callSWiN (As := [.ref 1, .int (zar xs ix 1), .int (zar xs ix 2), .ref 14]) (rest := []) (n1 := 4) X dL_law_2122 (zC_i (h_candidateAt l0 hl0 h ol od (zar xs ix 1) (zar xs ix 2)) zCok_cmm (fun _ _ hv => zO_ok hv) rfl) gL_law_L_candidateAt rfl rfl (by decide +kernel) ⟨by decide, by decide⟩ rfl (Nat.le_of_ble_eq_true rfl) hk ?_
  rintro k6 G9 ⟨C9, ⟨n', x', y', t', ol', od', rfl, hci, hk6, hv⟩, rfl⟩
  refine z_istore (ls' := (6, .int k6) :: lB ix) X dL_law_2125 (by decide) rfl ?_
  refine z_aload_n X 4 dL_law_2127 rfl rfl ?_
  refine zl_arg (i := 1) X S 6 1 (hb 1 (by decide) (by decide)) dL_law_2128 dL_law_2129 dL_law_2131 dL_law_2132 dL_law_2133 rfl rfl ?_
  refine zl_arg (i := 2) X S 6 1 (hb 2 (by decide) (by decide)) dL_law_2134 dL_law_2135 dL_law_2137 dL_law_2138 dL_law_2139 rfl rfl ?_
  refine z_callViN (As := [.int (zar xs ix 1), .int (zar xs ix 2)]) (rest := []) (n1 := 2) (ci := 11) X dL_law_2140 (zM_i (av' := [.ref 48, .int (zar xs ix 1), .int (zar xs ix 2)]) (c_X8_candidateAt l0 i lm (n 7) h.2.1.2.2.2.2.1 h.1.2.1.2.2.1 (n 8) h.2.1.2.2.2.2.2.1 h.1.2.1.2.2.2 (zar xs ix 1) (zar xs ix 2)) zCok_cmm rfl) gL_law_X8_candidateAt rfl rfl (by decide +kernel) ⟨by decide, by decide⟩ zg48 rfl rfl (Nat.le_of_ble_eq_true rfl) hk ?_
  rintro v9 G9 ⟨rfl, rfl⟩
  refine z_istore (ls' := (7, .int _) :: (6, .int k6) :: lB ix) X dL_law_2143 (by decide) rfl ?_
  exact zl_tI X hk dL_law_2145 dL_law_2146 dL_law_2149 dL_law_2151 dL_law_2156 dL_law_2158 dL_law_2161 dL_law_2162 dL_law_2163 dL_law_2164 dL_law_2166 dL_law_2167 dL_law_2168 dL_law_2173 (by decide) ((t43_candidateAt _ _ _ _).trans hk6.symm) hv hci K
set_option maxRecDepth 100000 in
set_option maxHeartbeats 4000000 in
theorem k_ship (hl0 : l0.stackTraces = false) (X : zCx g l0 cL_law 9 (some .boolean) RL nm wsL_law 19 10812 603072 7215210 M00 post zno tab) (S : zScr g L xs) (hb : ∀ i : Int, 1 ≤ i → i ≤ 4 → vp_in (ix + Int32.ofInt i) L) (h : CI n i x lm y t) (hk : k + 8 ≤ 603072 ∧ nn + 1100 ≤ 7215210) (K : zKK g ix (k + 8) (nn + 1100)) : zE g 9 2176 (lB ix) [] (zmg (cmm n i x lm y ol od) (zmm i lm)) k nn := by
  refine z_aload_n X 4 dL_law_2176 rfl rfl ?_
  refine zl_arg (i := 1) X S 5 0 (hb 1 (by decide) (by decide)) dL_law_2177 dL_law_2178 dL_law_2180 dL_law_2181 dL_law_2182 rfl rfl ?_
  refine z_aload_n X 2 dL_law_2183 rfl rfl ?_
  refine z_callSWiN (As := [.ref 1, .int (zar xs ix 1), .ref 14]) (rest := []) (n1 := 3) X dL_law_2184 (zC_i (h_ship l0 hl0 h ol od (zar xs ix 1)) zCok_cmm (fun _ _ hv => zO_ok hv) rfl) gL_law_L_ship rfl rfl (by decide +kernel) ⟨by decide, by decide⟩ rfl (Nat.le_of_ble_eq_true rfl) hk ?_
  rintro k6 G9 ⟨C9, ⟨n', x', y', t', ol', od', rfl, hci, hk6, hv⟩, rfl⟩
  refine z_istore (ls' := (6, .int k6) :: lB ix) X dL_law_2187 (by decide) rfl ?_
  refine z_aload_n X 4 dL_law_2189 rfl rfl ?_
  refine zl_arg (i := 1) X S 6 1 (hb 1 (by decide) (by decide)) dL_law_2190 dL_law_2191 dL_law_2193 dL_law_2194 dL_law_2195 rfl rfl ?_
  refine z_callViN (As := [.int (zar xs ix 1)]) (rest := []) (n1 := 1) (ci := 11) X dL_law_2196 (zM_i (av' := [.ref 48, .int (zar xs ix 1)]) (c_X8_ship l0 i lm (n 7) h.2.1.2.2.2.2.1 h.1.2.1.2.2.1 (n 8) h.2.1.2.2.2.2.2.1 h.1.2.1.2.2.2 (zar xs ix 1) (fun o ho => (h.2.2.2.2.2.2.2.2.2.1.1 o ho).1)) zCok_cmm rfl) gL_law_X8_ship rfl rfl (by decide +kernel) ⟨by decide, by decide⟩ zg48 rfl rfl (Nat.le_of_ble_eq_true rfl) hk ?_
  rintro v9 G9 ⟨rfl, rfl⟩
  refine z_istore (ls' := (7, .int _) :: (6, .int k6) :: lB ix) X dL_law_2199 (by decide) rfl ?_
  exact zl_tI X hk dL_law_2201 dL_law_2202 dL_law_2205 dL_law_2207 dL_law_2212 dL_law_2214 dL_law_2217 dL_law_2218 dL_law_2219 dL_law_2220 dL_law_2222 dL_law_2223 dL_law_2224 dL_law_2229 (by decide) ((t43_ship _ _ _).trans hk6.symm) hv hci K
set_option maxRecDepth 100000 in
set_option maxHeartbeats 4000000 in
theorem k_orderState (hl0 : l0.stackTraces = false) (X : zCx g l0 cL_law 9 (some .boolean) RL nm wsL_law 19 10812 603072 7215210 M00 post zno tab) (S : zScr g L xs) (hb : ∀ i : Int, 1 ≤ i → i ≤ 4 → vp_in (ix + Int32.ofInt i) L) (h : CI n i x lm y t) (hk : k + 8 ≤ 603072 ∧ nn + 1100 ≤ 7215210) (K : zKK g ix (k + 8) (nn + 1100)) : zE g 9 2232 (lB ix) [] (zmg (cmm n i x lm y ol od) (zmm i lm)) k nn := by
  refine z_aload_n X 4 dL_law_2232 rfl rfl ?_
  refine zl_arg (i := 1) X S 5 0 (hb 1 (by decide) (by decide)) dL_law_2233 dL_law_2234 dL_law_2236 dL_law_2237 dL_law_2238 rfl rfl ?_
  refine z_aload_n X 2 dL_law_2239 rfl rfl ?_
  refine z_callSWiN (As := [.ref 1, .int (zar xs ix 1), .ref 14]) (rest := []) (n1 := 3) X dL_law_2240 (zC_i (h_orderState l0 hl0 h ol od (zar xs ix 1)) zCok_cmm (fun _ _ hv => zO_ok hv) rfl) gL_law_L_orderState rfl rfl (by decide +kernel) ⟨by decide, by decide⟩ rfl (Nat.le_of_ble_eq_true rfl) hk ?_
  rintro k6 G9 ⟨C9, ⟨n', x', y', t', ol', od', rfl, hci, hk6, hv⟩, rfl⟩
  refine z_istore (ls' := (6, .int k6) :: lB ix) X dL_law_2243 (by decide) rfl ?_
  refine z_aload_n X 4 dL_law_2245 rfl rfl ?_
  refine zl_arg (i := 1) X S 6 1 (hb 1 (by decide) (by decide)) dL_law_2246 dL_law_2247 dL_law_2249 dL_law_2250 dL_law_2251 rfl rfl ?_
  refine z_callViN (As := [.int (zar xs ix 1)]) (rest := []) (n1 := 1) (ci := 11) X dL_law_2252 (zM_i (av' := [.ref 48, .int (zar xs ix 1)]) (c_X8_orderState l0 i lm (n 8) h.2.1.2.2.2.2.2.1 h.1.2.1.2.2.2 (zar xs ix 1) h.2.2.1.2.2.2.2) zCok_cmm rfl) gL_law_X8_orderState rfl rfl (by decide +kernel) ⟨by decide, by decide⟩ zg48 rfl rfl (Nat.le_of_ble_eq_true rfl) hk ?_
  rintro v9 G9 ⟨rfl, rfl⟩
  refine z_istore (ls' := (7, .int _) :: (6, .int k6) :: lB ix) X dL_law_2255 (by decide) rfl ?_
  exact zl_tI X hk dL_law_2257 dL_law_2258 dL_law_2261 dL_law_2263 dL_law_2268 dL_law_2270 dL_law_2273 dL_law_2274 dL_law_2275 dL_law_2276 dL_law_2278 dL_law_2279 dL_law_2280 dL_law_2285 (by decide) ((t43_orderState _ _).trans hk6.symm) hv hci K
set_option maxRecDepth 100000 in
set_option maxHeartbeats 4000000 in
theorem k_leastShipped (hl0 : l0.stackTraces = false) (X : zCx g l0 cL_law 9 (some .boolean) RL nm wsL_law 19 10812 603072 7215210 M00 post zno tab) (S : zScr g L xs) (hb : ∀ i : Int, 1 ≤ i → i ≤ 4 → vp_in (ix + Int32.ofInt i) L) (h : CI n i x lm y t) (hk : k + 8 ≤ 603072 ∧ nn + 1100 ≤ 7215210) (K : zKK g ix (k + 8) (nn + 1100)) : zE g 9 2288 (lB ix) [] (zmg (cmm n i x lm y ol od) (zmm i lm)) k nn := by
  refine z_aload_n X 4 dL_law_2288 rfl rfl ?_
  refine zl_arg (i := 1) X S 5 0 (hb 1 (by decide) (by decide)) dL_law_2289 dL_law_2290 dL_law_2292 dL_law_2293 dL_law_2294 rfl rfl ?_
  refine z_aload_n X 2 dL_law_2295 rfl rfl ?_
  refine z_callSWiN (As := [.ref 1, .int (zar xs ix 1), .ref 14]) (rest := []) (n1 := 3) X dL_law_2296 (zC_i (h_leastShipped l0 hl0 h ol od (zar xs ix 1)) zCok_cmm (fun _ _ hv => zO_ok hv) rfl) gL_law_L_leastShipped rfl rfl (by decide +kernel) ⟨by decide, by decide⟩ rfl (Nat.le_of_ble_eq_true rfl) hk ?_
  rintro k6 G9 ⟨C9, ⟨n', x', y', t', ol', od', rfl, hci, hk6, hv⟩, rfl⟩
  refine z_istore (ls' := (6, .int k6) :: lB ix) X dL_law_2299 (by decide) rfl ?_
  refine z_aload_n X 4 dL_law_2301 rfl rfl ?_
  refine zl_arg (i := 1) X S 6 1 (hb 1 (by decide) (by decide)) dL_law_2302 dL_law_2303 dL_law_2305 dL_law_2306 dL_law_2307 rfl rfl ?_
  refine z_callViN (As := [.int (zar xs ix 1)]) (rest := []) (n1 := 1) (ci := 11) X dL_law_2308 (zM_i (av' := [.ref 48, .int (zar xs ix 1)]) (c_X8_leastShipped l0 i lm (n 8) h.2.1.2.2.2.2.2.1 h.1.2.1.2.2.2 (zar xs ix 1)) zCok_cmm rfl) gL_law_X8_leastShipped rfl rfl (by decide +kernel) ⟨by decide, by decide⟩ zg48 rfl rfl (Nat.le_of_ble_eq_true rfl) hk ?_
  rintro v9 G9 ⟨rfl, rfl⟩
  refine z_istore (ls' := (7, .int _) :: (6, .int k6) :: lB ix) X dL_law_2311 (by decide) rfl ?_
  exact zl_tI X hk dL_law_2313 dL_law_2314 dL_law_2317 dL_law_2319 dL_law_2324 dL_law_2326 dL_law_2329 dL_law_2330 dL_law_2331 dL_law_2332 dL_law_2334 dL_law_2335 dL_law_2336 dL_law_2341 (by decide) ((t43_leastShipped _ _).trans hk6.symm) hv hci K
set_option maxRecDepth 100000 in
set_option maxHeartbeats 4000000 in
theorem k_isConsistent (hl0 : l0.stackTraces = false) (X : zCx g l0 cL_law 9 (some .boolean) RL nm wsL_law 19 10812 603072 7215210 M00 post zno tab) (S : zScr g L xs) (hb : ∀ i : Int, 1 ≤ i → i ≤ 4 → vp_in (ix + Int32.ofInt i) L) (h : CI n i x lm y t) (hk : k + 8 ≤ 603072 ∧ nn + 1100 ≤ 7215210) (K : zKK g ix (k + 8) (nn + 1100)) : zE g 9 2344 (lB ix) [] (zmg (cmm n i x lm y ol od) (zmm i lm)) k nn := by
  refine z_wide (a := 8) (b := 1100) ?_
  refine z_aload_n X 4 dL_law_2344 rfl rfl ?_
  refine z_callViN (As := []) (rest := []) (n1 := 0) (ci := 10) X dL_law_2345 (zC_i (c_X7_isConsistent l0 hl0 n i x lm y ol od h.1 t h.2.1.2.1 h.2.1.1 (s_x4 h) (s_x3 h) h.2.2.2.2.2.2.2.2.1.1 h.2.2.2.2.2.2.2.2.1.2.1 h.2.2.2.2.2.2.2.2.1.2.2 (CI_con h) (fun p hp => ⟨(lI_rv h hp).2.1, (lI_rv h hp).2.2, (lI_rv h hp).1⟩) (fun o ho => (h.2.2.2.2.2.2.2.2.2.1.1 o ho).2)) zCok_cmm (fun _ C' hv => by obtain ⟨-, rfl⟩ := hv; exact zCok_cmm) rfl) gL_law_X7_isConsistent rfl rfl (by decide +kernel) ⟨by decide, by decide⟩ zg1 rfl rfl (Nat.le_of_ble_eq_true rfl) ⟨by omega, by omega⟩ ?_
  rintro v9 G9 ⟨C9, ⟨hv9, rfl⟩, rfl⟩
  refine z_aload_n X 3 dL_law_2348 rfl rfl ?_
  refine z_callViN (As := []) (rest := [.int v9]) (n1 := 0) (ci := 11) X dL_law_2349 (zM_i (av' := [.ref 48]) (c_X8_isConsistent l0 i lm) zCok_cmm rfl) gL_law_X8_isConsistent rfl rfl (by decide +kernel) ⟨by decide, by decide⟩ zg48 rfl rfl (Nat.le_of_ble_eq_true rfl) ⟨by omega, by omega⟩ ?_
  rintro w9 G9 ⟨rfl, rfl⟩
  exact z_icmp_eq (tgt := 2357) X dL_law_2352 (by decide) (fun _ => z_mem (M' := zmg (cmm n (zup i 1 43 0) x lm y ol od) (zmm (zup i 1 43 0) lm)) (by rw [c43]; rfl) (K _ _ _ _ _ _ _ _ (CI_43 h))) (fun q => absurd (hv9) q)
end ZL9
