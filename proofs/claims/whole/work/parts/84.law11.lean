/-! the law: its cases, walked -/
set_option maxRecDepth 100000 in
set_option maxHeartbeats 4000000 in
theorem w_surface {T : TC} {F : FinT} {J : MI} {H : MG} {b L D i : Nat} {xs : Nat → Int32} {bb : Nat × Nat} (e : Nat) (hS : FScr T F b L xs) (hLI : LI T D J H) (hi : i + 6 ≤ L) (hL : L < 2 ^ 31) (k : ∀ J H, LI T D J H → Ex T RL cL_law 4 (e + 101) F 1637 [some (.ref b), some (.ref D), some (.ref (D + 117)), some (.int (nI i))] [] J H bb) : Ex T RL cL_law 4 (e + 101) F 236 [some (.ref b), some (.ref D), some (.ref (D + 117)), some (.int (nI i))] [] J H bb := by
  refine Ex_aload_n dL_law_236 rfl ?_
  refine Ex_aload_n dL_law_237 rfl ?_
  refine Ex_iload_n dL_law_238 rfl ?_
  refine Ex_iconst (v := nI 1) dL_law_239 (by rfl) ?_
  first | with_reducible refine Ex_iaddN dL_law_240 ?_ | refine Ex_iadd dL_law_240 ?_
  refine Ex_scr hS dL_law_241 rfl (by omega) hL ?_
  refine Ex_aload_n dL_law_242 rfl ?_
  refine Ex_iload_n dL_law_243 rfl ?_
  refine Ex_iconst (v := nI 2) dL_law_244 (by rfl) ?_
  first | with_reducible refine Ex_iaddN dL_law_245 ?_ | refine Ex_iadd dL_law_245 ?_
  refine Ex_scr hS dL_law_246 rfl (by omega) hL ?_
  refine Ex_V2i dL_law_247 sL_13 (ds_o hLI.1) (Nat.le_of_ble_eq_true rfl) (K_surface e hLI _ _) ?_
  rintro r J1 H1 ⟨hM1, h9⟩
  refine Ex_aload_n dL_law_250 rfl ?_
  refine Ex_aload_n dL_law_251 rfl ?_
  refine Ex_iload_n dL_law_252 rfl ?_
  refine Ex_iconst (v := nI 1) dL_law_253 (by rfl) ?_
  first | with_reducible refine Ex_iaddN dL_law_254 ?_ | refine Ex_iadd dL_law_254 ?_
  refine Ex_scr hS dL_law_255 rfl (by omega) hL ?_
  refine Ex_aload_n dL_law_256 rfl ?_
  refine Ex_iload_n dL_law_257 rfl ?_
  refine Ex_iconst (v := nI 2) dL_law_258 (by rfl) ?_
  first | with_reducible refine Ex_iaddN dL_law_259 ?_ | refine Ex_iadd dL_law_259 ?_
  refine Ex_scr hS dL_law_260 rfl (by omega) hL ?_
  refine Ex_V2i dL_law_261 sL_17 hM1.1 (Nat.le_of_ble_eq_true rfl) (h9) ?_
  rintro _ J2 H2 ⟨rfl, hL2⟩
  refine Ex_icmp_eq (tgt := 1637) dL_law_264 (by decide) (fun h264 => ?_) (fun h264 => ?_)
  · exact k _ _ hL2
  · exact absurd rfl h264
set_option maxRecDepth 100000 in
set_option maxHeartbeats 4000000 in
theorem w_told {T : TC} {F : FinT} {J : MI} {H : MG} {b L D i : Nat} {xs : Nat → Int32} {bb : Nat × Nat} (e : Nat) (hS : FScr T F b L xs) (hLI : LI T D J H) (hi : i + 6 ≤ L) (hL : L < 2 ^ 31) (k : ∀ J H, LI T D J H → Ex T RL cL_law 4 (e + 101) F 1637 [some (.ref b), some (.ref D), some (.ref (D + 117)), some (.int (nI i))] [] J H bb) : Ex T RL cL_law 4 (e + 101) F 269 [some (.ref b), some (.ref D), some (.ref (D + 117)), some (.int (nI i))] [] J H bb := by
  refine Ex_aload_n dL_law_269 rfl ?_
  refine Ex_aload_n dL_law_270 rfl ?_
  refine Ex_iload_n dL_law_271 rfl ?_
  refine Ex_iconst (v := nI 1) dL_law_272 (by rfl) ?_
  first | with_reducible refine Ex_iaddN dL_law_273 ?_ | refine Ex_iadd dL_law_273 ?_
  refine Ex_scr hS dL_law_274 rfl (by omega) hL ?_
  refine Ex_aload_n dL_law_275 rfl ?_
  refine Ex_iload_n dL_law_276 rfl ?_
  refine Ex_iconst (v := nI 2) dL_law_277 (by rfl) ?_
  first | with_reducible refine Ex_iaddN dL_law_278 ?_ | refine Ex_iadd dL_law_278 ?_
  refine Ex_scr hS dL_law_279 rfl (by omega) hL ?_
  refine Ex_V2i dL_law_280 sL_18 (ds_o hLI.1) (Nat.le_of_ble_eq_true rfl) (K_told e hLI _ _) ?_
  rintro r J1 H1 ⟨hM1, h9⟩
  refine Ex_aload_n dL_law_283 rfl ?_
  refine Ex_aload_n dL_law_284 rfl ?_
  refine Ex_iload_n dL_law_285 rfl ?_
  refine Ex_iconst (v := nI 1) dL_law_286 (by rfl) ?_
  first | with_reducible refine Ex_iaddN dL_law_287 ?_ | refine Ex_iadd dL_law_287 ?_
  refine Ex_scr hS dL_law_288 rfl (by omega) hL ?_
  refine Ex_aload_n dL_law_289 rfl ?_
  refine Ex_iload_n dL_law_290 rfl ?_
  refine Ex_iconst (v := nI 2) dL_law_291 (by rfl) ?_
  first | with_reducible refine Ex_iaddN dL_law_292 ?_ | refine Ex_iadd dL_law_292 ?_
  refine Ex_scr hS dL_law_293 rfl (by omega) hL ?_
  refine Ex_V2i dL_law_294 sL_21 hM1.1 (Nat.le_of_ble_eq_true rfl) (h9) ?_
  rintro _ J2 H2 ⟨rfl, hL2⟩
  refine Ex_icmp_eq (tgt := 1637) dL_law_297 (by decide) (fun h297 => ?_) (fun h297 => ?_)
  · exact k _ _ hL2
  · exact absurd rfl h297
set_option maxRecDepth 100000 in
set_option maxHeartbeats 4000000 in
theorem w_layer {T : TC} {F : FinT} {J : MI} {H : MG} {b L D i : Nat} {xs : Nat → Int32} {bb : Nat × Nat} (e : Nat) (hS : FScr T F b L xs) (hLI : LI T D J H) (hi : i + 6 ≤ L) (hL : L < 2 ^ 31) (k : ∀ J H, LI T D J H → Ex T RL cL_law 4 (e + 101) F 1637 [some (.ref b), some (.ref D), some (.ref (D + 117)), some (.int (nI i))] [] J H bb) : Ex T RL cL_law 4 (e + 101) F 302 [some (.ref b), some (.ref D), some (.ref (D + 117)), some (.int (nI i))] [] J H bb := by
  refine Ex_aload_n dL_law_302 rfl ?_
  refine Ex_aload_n dL_law_303 rfl ?_
  refine Ex_iload_n dL_law_304 rfl ?_
  refine Ex_iconst (v := nI 1) dL_law_305 (by rfl) ?_
  first | with_reducible refine Ex_iaddN dL_law_306 ?_ | refine Ex_iadd dL_law_306 ?_
  refine Ex_scr hS dL_law_307 rfl (by omega) hL ?_
  refine Ex_aload_n dL_law_308 rfl ?_
  refine Ex_iload_n dL_law_309 rfl ?_
  refine Ex_iconst (v := nI 2) dL_law_310 (by rfl) ?_
  first | with_reducible refine Ex_iaddN dL_law_311 ?_ | refine Ex_iadd dL_law_311 ?_
  refine Ex_scr hS dL_law_312 rfl (by omega) hL ?_
  refine Ex_V2i dL_law_313 sL_22 (ds_o hLI.1) (Nat.le_of_ble_eq_true rfl) (K_layer e hLI _ _) ?_
  rintro r J1 H1 ⟨hM1, h9⟩
  refine Ex_aload_n dL_law_316 rfl ?_
  refine Ex_aload_n dL_law_317 rfl ?_
  refine Ex_iload_n dL_law_318 rfl ?_
  refine Ex_iconst (v := nI 1) dL_law_319 (by rfl) ?_
  first | with_reducible refine Ex_iaddN dL_law_320 ?_ | refine Ex_iadd dL_law_320 ?_
  refine Ex_scr hS dL_law_321 rfl (by omega) hL ?_
  refine Ex_aload_n dL_law_322 rfl ?_
  refine Ex_iload_n dL_law_323 rfl ?_
  refine Ex_iconst (v := nI 2) dL_law_324 (by rfl) ?_
  first | with_reducible refine Ex_iaddN dL_law_325 ?_ | refine Ex_iadd dL_law_325 ?_
  refine Ex_scr hS dL_law_326 rfl (by omega) hL ?_
  refine Ex_V2i dL_law_327 sL_25 hM1.1 (Nat.le_of_ble_eq_true rfl) (h9) ?_
  rintro _ J2 H2 ⟨rfl, hL2⟩
  refine Ex_icmp_eq (tgt := 1637) dL_law_330 (by decide) (fun h330 => ?_) (fun h330 => ?_)
  · exact k _ _ hL2
  · exact absurd rfl h330
set_option maxRecDepth 100000 in
set_option maxHeartbeats 4000000 in
theorem w_as {T : TC} {F : FinT} {J : MI} {H : MG} {b L D i : Nat} {xs : Nat → Int32} {bb : Nat × Nat} (e : Nat) (hS : FScr T F b L xs) (hLI : LI T D J H) (hi : i + 6 ≤ L) (hL : L < 2 ^ 31) (k : ∀ J H, LI T D J H → Ex T RL cL_law 4 (e + 101) F 1637 [some (.ref b), some (.ref D), some (.ref (D + 117)), some (.int (nI i))] [] J H bb) : Ex T RL cL_law 4 (e + 101) F 335 [some (.ref b), some (.ref D), some (.ref (D + 117)), some (.int (nI i))] [] J H bb := by
  refine Ex_aload_n dL_law_335 rfl ?_
  refine Ex_aload_n dL_law_336 rfl ?_
  refine Ex_iload_n dL_law_337 rfl ?_
  refine Ex_iconst (v := nI 1) dL_law_338 (by rfl) ?_
  first | with_reducible refine Ex_iaddN dL_law_339 ?_ | refine Ex_iadd dL_law_339 ?_
  refine Ex_scr hS dL_law_340 rfl (by omega) hL ?_
  refine Ex_aload_n dL_law_341 rfl ?_
  refine Ex_iload_n dL_law_342 rfl ?_
  refine Ex_iconst (v := nI 2) dL_law_343 (by rfl) ?_
  first | with_reducible refine Ex_iaddN dL_law_344 ?_ | refine Ex_iadd dL_law_344 ?_
  refine Ex_scr hS dL_law_345 rfl (by omega) hL ?_
  refine Ex_V2i dL_law_346 sL_26 (ds_o hLI.1) (Nat.le_of_ble_eq_true rfl) (K_as e hLI _ _) ?_
  rintro r J1 H1 ⟨hM1, h9⟩
  refine Ex_aload_n dL_law_349 rfl ?_
  refine Ex_aload_n dL_law_350 rfl ?_
  refine Ex_iload_n dL_law_351 rfl ?_
  refine Ex_iconst (v := nI 1) dL_law_352 (by rfl) ?_
  first | with_reducible refine Ex_iaddN dL_law_353 ?_ | refine Ex_iadd dL_law_353 ?_
  refine Ex_scr hS dL_law_354 rfl (by omega) hL ?_
  refine Ex_aload_n dL_law_355 rfl ?_
  refine Ex_iload_n dL_law_356 rfl ?_
  refine Ex_iconst (v := nI 2) dL_law_357 (by rfl) ?_
  first | with_reducible refine Ex_iaddN dL_law_358 ?_ | refine Ex_iadd dL_law_358 ?_
  refine Ex_scr hS dL_law_359 rfl (by omega) hL ?_
  refine Ex_V2i dL_law_360 sL_29 hM1.1 (Nat.le_of_ble_eq_true rfl) (h9) ?_
  rintro _ J2 H2 ⟨rfl, hL2⟩
  refine Ex_icmp_eq (tgt := 1637) dL_law_363 (by decide) (fun h363 => ?_) (fun h363 => ?_)
  · exact k _ _ hL2
  · exact absurd rfl h363
set_option maxRecDepth 100000 in
set_option maxHeartbeats 4000000 in
theorem w_turns {T : TC} {F : FinT} {J : MI} {H : MG} {b L D i : Nat} {xs : Nat → Int32} {bb : Nat × Nat} (e : Nat) (hS : FScr T F b L xs) (hLI : LI T D J H) (hi : i + 6 ≤ L) (hL : L < 2 ^ 31) (k : ∀ J H, LI T D J H → Ex T RL cL_law 4 (e + 101) F 1637 [some (.ref b), some (.ref D), some (.ref (D + 117)), some (.int (nI i))] [] J H bb) : Ex T RL cL_law 4 (e + 101) F 368 [some (.ref b), some (.ref D), some (.ref (D + 117)), some (.int (nI i))] [] J H bb := by
  refine Ex_aload_n dL_law_368 rfl ?_
  refine Ex_aload_n dL_law_369 rfl ?_
  refine Ex_iload_n dL_law_370 rfl ?_
  refine Ex_iconst (v := nI 1) dL_law_371 (by rfl) ?_
  first | with_reducible refine Ex_iaddN dL_law_372 ?_ | refine Ex_iadd dL_law_372 ?_
  refine Ex_scr hS dL_law_373 rfl (by omega) hL ?_
  refine Ex_aload_n dL_law_374 rfl ?_
  refine Ex_iload_n dL_law_375 rfl ?_
  refine Ex_iconst (v := nI 2) dL_law_376 (by rfl) ?_
  first | with_reducible refine Ex_iaddN dL_law_377 ?_ | refine Ex_iadd dL_law_377 ?_
  refine Ex_scr hS dL_law_378 rfl (by omega) hL ?_
  refine Ex_V2i dL_law_379 sL_30 (ds_o hLI.1) (Nat.le_of_ble_eq_true rfl) (K_turns e hLI _ _) ?_
  rintro r J1 H1 ⟨hM1, h9⟩
  refine Ex_aload_n dL_law_382 rfl ?_
  refine Ex_aload_n dL_law_383 rfl ?_
  refine Ex_iload_n dL_law_384 rfl ?_
  refine Ex_iconst (v := nI 1) dL_law_385 (by rfl) ?_
  first | with_reducible refine Ex_iaddN dL_law_386 ?_ | refine Ex_iadd dL_law_386 ?_
  refine Ex_scr hS dL_law_387 rfl (by omega) hL ?_
  refine Ex_aload_n dL_law_388 rfl ?_
  refine Ex_iload_n dL_law_389 rfl ?_
  refine Ex_iconst (v := nI 2) dL_law_390 (by rfl) ?_
  first | with_reducible refine Ex_iaddN dL_law_391 ?_ | refine Ex_iadd dL_law_391 ?_
  refine Ex_scr hS dL_law_392 rfl (by omega) hL ?_
  refine Ex_V2i dL_law_393 sL_33 hM1.1 (Nat.le_of_ble_eq_true rfl) (h9) ?_
  rintro _ J2 H2 ⟨rfl, hL2⟩
  refine Ex_icmp_eq (tgt := 1637) dL_law_396 (by decide) (fun h396 => ?_) (fun h396 => ?_)
  · exact k _ _ hL2
  · exact absurd rfl h396
set_option maxRecDepth 100000 in
set_option maxHeartbeats 4000000 in
theorem w_damp {T : TC} {F : FinT} {J : MI} {H : MG} {b L D i : Nat} {xs : Nat → Int32} {bb : Nat × Nat} (e : Nat) (hS : FScr T F b L xs) (hLI : LI T D J H) (hi : i + 6 ≤ L) (hL : L < 2 ^ 31) (k : ∀ J H, LI T D J H → Ex T RL cL_law 4 (e + 101) F 1637 [some (.ref b), some (.ref D), some (.ref (D + 117)), some (.int (nI i))] [] J H bb) : Ex T RL cL_law 4 (e + 101) F 401 [some (.ref b), some (.ref D), some (.ref (D + 117)), some (.int (nI i))] [] J H bb := by
  refine Ex_aload_n dL_law_401 rfl ?_
  refine Ex_aload_n dL_law_402 rfl ?_
  refine Ex_iload_n dL_law_403 rfl ?_
  refine Ex_iconst (v := nI 1) dL_law_404 (by rfl) ?_
  first | with_reducible refine Ex_iaddN dL_law_405 ?_ | refine Ex_iadd dL_law_405 ?_
  refine Ex_scr hS dL_law_406 rfl (by omega) hL ?_
  refine Ex_aload_n dL_law_407 rfl ?_
  refine Ex_iload_n dL_law_408 rfl ?_
  refine Ex_iconst (v := nI 2) dL_law_409 (by rfl) ?_
  first | with_reducible refine Ex_iaddN dL_law_410 ?_ | refine Ex_iadd dL_law_410 ?_
  refine Ex_scr hS dL_law_411 rfl (by omega) hL ?_
  refine Ex_V2i dL_law_412 sL_34 (ds_o hLI.1) (Nat.le_of_ble_eq_true rfl) (K_damp e hLI _ _) ?_
  rintro r J1 H1 ⟨hM1, h9⟩
  refine Ex_aload_n dL_law_415 rfl ?_
  refine Ex_aload_n dL_law_416 rfl ?_
  refine Ex_iload_n dL_law_417 rfl ?_
  refine Ex_iconst (v := nI 1) dL_law_418 (by rfl) ?_
  first | with_reducible refine Ex_iaddN dL_law_419 ?_ | refine Ex_iadd dL_law_419 ?_
  refine Ex_scr hS dL_law_420 rfl (by omega) hL ?_
  refine Ex_aload_n dL_law_421 rfl ?_
  refine Ex_iload_n dL_law_422 rfl ?_
  refine Ex_iconst (v := nI 2) dL_law_423 (by rfl) ?_
  first | with_reducible refine Ex_iaddN dL_law_424 ?_ | refine Ex_iadd dL_law_424 ?_
  refine Ex_scr hS dL_law_425 rfl (by omega) hL ?_
  refine Ex_V2i dL_law_426 sL_37 hM1.1 (Nat.le_of_ble_eq_true rfl) (h9) ?_
  rintro _ J2 H2 ⟨rfl, hL2⟩
  refine Ex_icmp_eq (tgt := 1637) dL_law_429 (by decide) (fun h429 => ?_) (fun h429 => ?_)
  · exact k _ _ hL2
  · exact absurd rfl h429
set_option maxRecDepth 100000 in
set_option maxHeartbeats 4000000 in
theorem w_rule {T : TC} {F : FinT} {J : MI} {H : MG} {b L D i : Nat} {xs : Nat → Int32} {bb : Nat × Nat} (e : Nat) (hS : FScr T F b L xs) (hLI : LI T D J H) (hi : i + 6 ≤ L) (hL : L < 2 ^ 31) (k : ∀ J H, LI T D J H → Ex T RL cL_law 4 (e + 101) F 1637 [some (.ref b), some (.ref D), some (.ref (D + 117)), some (.int (nI i))] [] J H bb) : Ex T RL cL_law 4 (e + 101) F 434 [some (.ref b), some (.ref D), some (.ref (D + 117)), some (.int (nI i))] [] J H bb := by
  refine Ex_aload_n dL_law_434 rfl ?_
  refine Ex_aload_n dL_law_435 rfl ?_
  refine Ex_iload_n dL_law_436 rfl ?_
  refine Ex_iconst (v := nI 1) dL_law_437 (by rfl) ?_
  first | with_reducible refine Ex_iaddN dL_law_438 ?_ | refine Ex_iadd dL_law_438 ?_
  refine Ex_scr hS dL_law_439 rfl (by omega) hL ?_
  refine Ex_aload_n dL_law_440 rfl ?_
  refine Ex_iload_n dL_law_441 rfl ?_
  refine Ex_iconst (v := nI 2) dL_law_442 (by rfl) ?_
  first | with_reducible refine Ex_iaddN dL_law_443 ?_ | refine Ex_iadd dL_law_443 ?_
  refine Ex_scr hS dL_law_444 rfl (by omega) hL ?_
  refine Ex_V2i dL_law_445 sL_38 (ds_o hLI.1) (Nat.le_of_ble_eq_true rfl) (K_rule e hLI _ _) ?_
  rintro r J1 H1 ⟨hM1, h9⟩
  refine Ex_aload_n dL_law_448 rfl ?_
  refine Ex_aload_n dL_law_449 rfl ?_
  refine Ex_iload_n dL_law_450 rfl ?_
  refine Ex_iconst (v := nI 1) dL_law_451 (by rfl) ?_
  first | with_reducible refine Ex_iaddN dL_law_452 ?_ | refine Ex_iadd dL_law_452 ?_
  refine Ex_scr hS dL_law_453 rfl (by omega) hL ?_
  refine Ex_aload_n dL_law_454 rfl ?_
  refine Ex_iload_n dL_law_455 rfl ?_
  refine Ex_iconst (v := nI 2) dL_law_456 (by rfl) ?_
  first | with_reducible refine Ex_iaddN dL_law_457 ?_ | refine Ex_iadd dL_law_457 ?_
  refine Ex_scr hS dL_law_458 rfl (by omega) hL ?_
  refine Ex_V2i dL_law_459 sL_41 hM1.1 (Nat.le_of_ble_eq_true rfl) (h9) ?_
  rintro _ J2 H2 ⟨rfl, hL2⟩
  refine Ex_icmp_eq (tgt := 1637) dL_law_462 (by decide) (fun h462 => ?_) (fun h462 => ?_)
  · exact k _ _ hL2
  · exact absurd rfl h462
set_option maxRecDepth 100000 in
set_option maxHeartbeats 4000000 in
theorem w_settles {T : TC} {F : FinT} {J : MI} {H : MG} {b L D i : Nat} {xs : Nat → Int32} {bb : Nat × Nat} (e : Nat) (hS : FScr T F b L xs) (hLI : LI T D J H) (hi : i + 6 ≤ L) (hL : L < 2 ^ 31) (k : ∀ J H, LI T D J H → Ex T RL cL_law 4 (e + 101) F 1637 [some (.ref b), some (.ref D), some (.ref (D + 117)), some (.int (nI i))] [] J H bb) : Ex T RL cL_law 4 (e + 101) F 467 [some (.ref b), some (.ref D), some (.ref (D + 117)), some (.int (nI i))] [] J H bb := by
  refine Ex_aload_n dL_law_467 rfl ?_
  refine Ex_aload_n dL_law_468 rfl ?_
  refine Ex_iload_n dL_law_469 rfl ?_
  refine Ex_iconst (v := nI 1) dL_law_470 (by rfl) ?_
  first | with_reducible refine Ex_iaddN dL_law_471 ?_ | refine Ex_iadd dL_law_471 ?_
  refine Ex_scr hS dL_law_472 rfl (by omega) hL ?_
  refine Ex_aload_n dL_law_473 rfl ?_
  refine Ex_iload_n dL_law_474 rfl ?_
  refine Ex_iconst (v := nI 2) dL_law_475 (by rfl) ?_
  first | with_reducible refine Ex_iaddN dL_law_476 ?_ | refine Ex_iadd dL_law_476 ?_
  refine Ex_scr hS dL_law_477 rfl (by omega) hL ?_
  refine Ex_V2i dL_law_478 sL_42 (ds_o hLI.1) (Nat.le_of_ble_eq_true rfl) (K_settles e hLI _ _) ?_
  rintro r J1 H1 ⟨hM1, h9⟩
  refine Ex_aload_n dL_law_481 rfl ?_
  refine Ex_aload_n dL_law_482 rfl ?_
  refine Ex_iload_n dL_law_483 rfl ?_
  refine Ex_iconst (v := nI 1) dL_law_484 (by rfl) ?_
  first | with_reducible refine Ex_iaddN dL_law_485 ?_ | refine Ex_iadd dL_law_485 ?_
  refine Ex_scr hS dL_law_486 rfl (by omega) hL ?_
  refine Ex_aload_n dL_law_487 rfl ?_
  refine Ex_iload_n dL_law_488 rfl ?_
  refine Ex_iconst (v := nI 2) dL_law_489 (by rfl) ?_
  first | with_reducible refine Ex_iaddN dL_law_490 ?_ | refine Ex_iadd dL_law_490 ?_
  refine Ex_scr hS dL_law_491 rfl (by omega) hL ?_
  refine Ex_V2i dL_law_492 sL_45 hM1.1 (Nat.le_of_ble_eq_true rfl) (h9) ?_
  rintro _ J2 H2 ⟨rfl, hL2⟩
  refine Ex_icmp_eq (tgt := 1637) dL_law_495 (by decide) (fun h495 => ?_) (fun h495 => ?_)
  · exact k _ _ hL2
  · exact absurd rfl h495
set_option maxRecDepth 100000 in
set_option maxHeartbeats 4000000 in
theorem w_sweeps {T : TC} {F : FinT} {J : MI} {H : MG} {b L D i : Nat} {xs : Nat → Int32} {bb : Nat × Nat} (e : Nat) (hS : FScr T F b L xs) (hLI : LI T D J H) (hi : i + 6 ≤ L) (hL : L < 2 ^ 31) (k : ∀ J H, LI T D J H → Ex T RL cL_law 4 (e + 101) F 1637 [some (.ref b), some (.ref D), some (.ref (D + 117)), some (.int (nI i))] [] J H bb) : Ex T RL cL_law 4 (e + 101) F 500 [some (.ref b), some (.ref D), some (.ref (D + 117)), some (.int (nI i))] [] J H bb := by
  refine Ex_aload_n dL_law_500 rfl ?_
  refine Ex_aload_n dL_law_501 rfl ?_
  refine Ex_iload_n dL_law_502 rfl ?_
  refine Ex_iconst (v := nI 1) dL_law_503 (by rfl) ?_
  first | with_reducible refine Ex_iaddN dL_law_504 ?_ | refine Ex_iadd dL_law_504 ?_
  refine Ex_scr hS dL_law_505 rfl (by omega) hL ?_
  refine Ex_V1i dL_law_506 sL_46 (ds_o hLI.1) (Nat.le_of_ble_eq_true rfl) (K_sweeps e hLI _) ?_
  rintro r J1 H1 ⟨hM1, h9⟩
  refine Ex_aload_n dL_law_509 rfl ?_
  refine Ex_aload_n dL_law_510 rfl ?_
  refine Ex_iload_n dL_law_511 rfl ?_
  refine Ex_iconst (v := nI 1) dL_law_512 (by rfl) ?_
  first | with_reducible refine Ex_iaddN dL_law_513 ?_ | refine Ex_iadd dL_law_513 ?_
  refine Ex_scr hS dL_law_514 rfl (by omega) hL ?_
  refine Ex_V1i dL_law_515 sL_50 hM1.1 (Nat.le_of_ble_eq_true rfl) (h9) ?_
  rintro _ J2 H2 ⟨rfl, hL2⟩
  refine Ex_icmp_eq (tgt := 1637) dL_law_518 (by decide) (fun h518 => ?_) (fun h518 => ?_)
  · exact k _ _ hL2
  · exact absurd rfl h518
set_option maxRecDepth 100000 in
set_option maxHeartbeats 4000000 in
theorem w_lifts {T : TC} {F : FinT} {J : MI} {H : MG} {b L D i : Nat} {xs : Nat → Int32} {bb : Nat × Nat} (e : Nat) (hS : FScr T F b L xs) (hLI : LI T D J H) (hi : i + 6 ≤ L) (hL : L < 2 ^ 31) (k : ∀ J H, LI T D J H → Ex T RL cL_law 4 (e + 101) F 1637 [some (.ref b), some (.ref D), some (.ref (D + 117)), some (.int (nI i))] [] J H bb) : Ex T RL cL_law 4 (e + 101) F 523 [some (.ref b), some (.ref D), some (.ref (D + 117)), some (.int (nI i))] [] J H bb := by
  refine Ex_aload_n dL_law_523 rfl ?_
  refine Ex_aload_n dL_law_524 rfl ?_
  refine Ex_iload_n dL_law_525 rfl ?_
  refine Ex_iconst (v := nI 1) dL_law_526 (by rfl) ?_
  first | with_reducible refine Ex_iaddN dL_law_527 ?_ | refine Ex_iadd dL_law_527 ?_
  refine Ex_scr hS dL_law_528 rfl (by omega) hL ?_
  refine Ex_aload_n dL_law_529 rfl ?_
  refine Ex_iload_n dL_law_530 rfl ?_
  refine Ex_iconst (v := nI 2) dL_law_531 (by rfl) ?_
  first | with_reducible refine Ex_iaddN dL_law_532 ?_ | refine Ex_iadd dL_law_532 ?_
  refine Ex_scr hS dL_law_533 rfl (by omega) hL ?_
  refine Ex_V2i dL_law_534 sL_51 (ds_o hLI.1) (Nat.le_of_ble_eq_true rfl) (K_lifts e hLI _ _) ?_
  rintro r J1 H1 ⟨hM1, h9⟩
  refine Ex_aload_n dL_law_537 rfl ?_
  refine Ex_aload_n dL_law_538 rfl ?_
  refine Ex_iload_n dL_law_539 rfl ?_
  refine Ex_iconst (v := nI 1) dL_law_540 (by rfl) ?_
  first | with_reducible refine Ex_iaddN dL_law_541 ?_ | refine Ex_iadd dL_law_541 ?_
  refine Ex_scr hS dL_law_542 rfl (by omega) hL ?_
  refine Ex_aload_n dL_law_543 rfl ?_
  refine Ex_iload_n dL_law_544 rfl ?_
  refine Ex_iconst (v := nI 2) dL_law_545 (by rfl) ?_
  first | with_reducible refine Ex_iaddN dL_law_546 ?_ | refine Ex_iadd dL_law_546 ?_
  refine Ex_scr hS dL_law_547 rfl (by omega) hL ?_
  refine Ex_V2i dL_law_548 sL_54 hM1.1 (Nat.le_of_ble_eq_true rfl) (h9) ?_
  rintro _ J2 H2 ⟨rfl, hL2⟩
  refine Ex_icmp_eq (tgt := 1637) dL_law_551 (by decide) (fun h551 => ?_) (fun h551 => ?_)
  · exact k _ _ hL2
  · exact absurd rfl h551
set_option maxRecDepth 100000 in
set_option maxHeartbeats 4000000 in
theorem w_deal {T : TC} {F : FinT} {J : MI} {H : MG} {b L D i : Nat} {xs : Nat → Int32} {bb : Nat × Nat} (e : Nat) (hS : FScr T F b L xs) (hLI : LI T D J H) (hi : i + 6 ≤ L) (hL : L < 2 ^ 31) (k : ∀ J H, LI T D J H → Ex T RL cL_law 4 (e + 101) F 1637 [some (.ref b), some (.ref D), some (.ref (D + 117)), some (.int (nI i))] [] J H bb) : Ex T RL cL_law 4 (e + 101) F 556 [some (.ref b), some (.ref D), some (.ref (D + 117)), some (.int (nI i))] [] J H bb := by
  refine Ex_aload_n dL_law_556 rfl ?_
  refine Ex_aload_n dL_law_557 rfl ?_
  refine Ex_iload_n dL_law_558 rfl ?_
  refine Ex_iconst (v := nI 1) dL_law_559 (by rfl) ?_
  first | with_reducible refine Ex_iaddN dL_law_560 ?_ | refine Ex_iadd dL_law_560 ?_
  refine Ex_scr hS dL_law_561 rfl (by omega) hL ?_
  refine Ex_V1i dL_law_562 sL_55 (ds_o hLI.1) (Nat.le_of_ble_eq_true rfl) (K_deal e hLI _) ?_
  rintro r J1 H1 ⟨hM1, h9⟩
  refine Ex_aload_n dL_law_565 rfl ?_
  refine Ex_aload_n dL_law_566 rfl ?_
  refine Ex_iload_n dL_law_567 rfl ?_
  refine Ex_iconst (v := nI 1) dL_law_568 (by rfl) ?_
  first | with_reducible refine Ex_iaddN dL_law_569 ?_ | refine Ex_iadd dL_law_569 ?_
  refine Ex_scr hS dL_law_570 rfl (by omega) hL ?_
  refine Ex_V1i dL_law_571 sL_58 hM1.1 (Nat.le_of_ble_eq_true rfl) (h9) ?_
  rintro _ J2 H2 ⟨rfl, hL2⟩
  refine Ex_icmp_eq (tgt := 1637) dL_law_574 (by decide) (fun h574 => ?_) (fun h574 => ?_)
  · exact k _ _ hL2
  · exact absurd rfl h574
set_option maxRecDepth 100000 in
set_option maxHeartbeats 4000000 in
theorem w_seed {T : TC} {F : FinT} {J : MI} {H : MG} {b L D i : Nat} {xs : Nat → Int32} {bb : Nat × Nat} (e : Nat) (hS : FScr T F b L xs) (hLI : LI T D J H) (hi : i + 6 ≤ L) (hL : L < 2 ^ 31) (k : ∀ J H, LI T D J H → Ex T RL cL_law 4 (e + 101) F 1637 [some (.ref b), some (.ref D), some (.ref (D + 117)), some (.int (nI i))] [] J H bb) : Ex T RL cL_law 4 (e + 101) F 579 [some (.ref b), some (.ref D), some (.ref (D + 117)), some (.int (nI i))] [] J H bb := by
  refine Ex_aload_n dL_law_579 rfl ?_
  refine Ex_aload_n dL_law_580 rfl ?_
  refine Ex_iload_n dL_law_581 rfl ?_
  refine Ex_iconst (v := nI 1) dL_law_582 (by rfl) ?_
  first | with_reducible refine Ex_iaddN dL_law_583 ?_ | refine Ex_iadd dL_law_583 ?_
  refine Ex_scr hS dL_law_584 rfl (by omega) hL ?_
  refine Ex_V1i dL_law_585 sL_59 (ds_o hLI.1) (Nat.le_of_ble_eq_true rfl) (K_seed e hLI _) ?_
  rintro r J1 H1 ⟨hM1, h9⟩
  refine Ex_aload_n dL_law_588 rfl ?_
  refine Ex_aload_n dL_law_589 rfl ?_
  refine Ex_iload_n dL_law_590 rfl ?_
  refine Ex_iconst (v := nI 1) dL_law_591 (by rfl) ?_
  first | with_reducible refine Ex_iaddN dL_law_592 ?_ | refine Ex_iadd dL_law_592 ?_
  refine Ex_scr hS dL_law_593 rfl (by omega) hL ?_
  refine Ex_V1i dL_law_594 sL_62 hM1.1 (Nat.le_of_ble_eq_true rfl) (h9) ?_
  rintro _ J2 H2 ⟨rfl, hL2⟩
  refine Ex_icmp_eq (tgt := 1637) dL_law_597 (by decide) (fun h597 => ?_) (fun h597 => ?_)
  · exact k _ _ hL2
  · exact absurd rfl h597
set_option maxRecDepth 100000 in
set_option maxHeartbeats 4000000 in
theorem w_days {T : TC} {F : FinT} {J : MI} {H : MG} {b L D i : Nat} {xs : Nat → Int32} {bb : Nat × Nat} (e : Nat) (hS : FScr T F b L xs) (hLI : LI T D J H) (hi : i + 6 ≤ L) (hL : L < 2 ^ 31) (k : ∀ J H, LI T D J H → Ex T RL cL_law 4 (e + 101) F 1637 [some (.ref b), some (.ref D), some (.ref (D + 117)), some (.int (nI i))] [] J H bb) : Ex T RL cL_law 4 (e + 101) F 602 [some (.ref b), some (.ref D), some (.ref (D + 117)), some (.int (nI i))] [] J H bb := by
  refine Ex_aload_n dL_law_602 rfl ?_
  refine Ex_aload_n dL_law_603 rfl ?_
  refine Ex_iload_n dL_law_604 rfl ?_
  refine Ex_iconst (v := nI 1) dL_law_605 (by rfl) ?_
  first | with_reducible refine Ex_iaddN dL_law_606 ?_ | refine Ex_iadd dL_law_606 ?_
  refine Ex_scr hS dL_law_607 rfl (by omega) hL ?_
  refine Ex_V1i dL_law_608 sL_63 (ds_o hLI.1) (Nat.le_of_ble_eq_true rfl) (K_days e hLI _) ?_
  rintro r J1 H1 ⟨hM1, h9⟩
  refine Ex_aload_n dL_law_611 rfl ?_
  refine Ex_aload_n dL_law_612 rfl ?_
  refine Ex_iload_n dL_law_613 rfl ?_
  refine Ex_iconst (v := nI 1) dL_law_614 (by rfl) ?_
  first | with_reducible refine Ex_iaddN dL_law_615 ?_ | refine Ex_iadd dL_law_615 ?_
  refine Ex_scr hS dL_law_616 rfl (by omega) hL ?_
  refine Ex_V1i dL_law_617 sL_66 hM1.1 (Nat.le_of_ble_eq_true rfl) (h9) ?_
  rintro _ J2 H2 ⟨rfl, hL2⟩
  refine Ex_icmp_eq (tgt := 1637) dL_law_620 (by decide) (fun h620 => ?_) (fun h620 => ?_)
  · exact k _ _ hL2
  · exact absurd rfl h620
set_option maxRecDepth 100000 in
set_option maxHeartbeats 4000000 in
theorem w_hall {T : TC} {F : FinT} {J : MI} {H : MG} {b L D i : Nat} {xs : Nat → Int32} {bb : Nat × Nat} (e : Nat) (hS : FScr T F b L xs) (hLI : LI T D J H) (hi : i + 6 ≤ L) (hL : L < 2 ^ 31) (k : ∀ J H, LI T D J H → Ex T RL cL_law 4 (e + 101) F 1637 [some (.ref b), some (.ref D), some (.ref (D + 117)), some (.int (nI i))] [] J H bb) : Ex T RL cL_law 4 (e + 101) F 625 [some (.ref b), some (.ref D), some (.ref (D + 117)), some (.int (nI i))] [] J H bb := by
  refine Ex_aload_n dL_law_625 rfl ?_
  refine Ex_aload_n dL_law_626 rfl ?_
  refine Ex_iload_n dL_law_627 rfl ?_
  refine Ex_iconst (v := nI 1) dL_law_628 (by rfl) ?_
  first | with_reducible refine Ex_iaddN dL_law_629 ?_ | refine Ex_iadd dL_law_629 ?_
  refine Ex_scr hS dL_law_630 rfl (by omega) hL ?_
  refine Ex_V1i dL_law_631 sL_67 (ds_o hLI.1) (Nat.le_of_ble_eq_true rfl) (K_hall e hLI _) ?_
  rintro r J1 H1 ⟨hM1, h9⟩
  refine Ex_aload_n dL_law_634 rfl ?_
  refine Ex_aload_n dL_law_635 rfl ?_
  refine Ex_iload_n dL_law_636 rfl ?_
  refine Ex_iconst (v := nI 1) dL_law_637 (by rfl) ?_
  first | with_reducible refine Ex_iaddN dL_law_638 ?_ | refine Ex_iadd dL_law_638 ?_
  refine Ex_scr hS dL_law_639 rfl (by omega) hL ?_
  refine Ex_V1i dL_law_640 sL_70 hM1.1 (Nat.le_of_ble_eq_true rfl) (h9) ?_
  rintro _ J2 H2 ⟨rfl, hL2⟩
  refine Ex_icmp_eq (tgt := 1637) dL_law_643 (by decide) (fun h643 => ?_) (fun h643 => ?_)
  · exact k _ _ hL2
  · exact absurd rfl h643
set_option maxRecDepth 100000 in
set_option maxHeartbeats 4000000 in
theorem w_lies {T : TC} {F : FinT} {J : MI} {H : MG} {b L D i : Nat} {xs : Nat → Int32} {bb : Nat × Nat} (e : Nat) (hS : FScr T F b L xs) (hLI : LI T D J H) (hi : i + 6 ≤ L) (hL : L < 2 ^ 31) (k : ∀ J H, LI T D J H → Ex T RL cL_law 4 (e + 101) F 1637 [some (.ref b), some (.ref D), some (.ref (D + 117)), some (.int (nI i))] [] J H bb) : Ex T RL cL_law 4 (e + 101) F 648 [some (.ref b), some (.ref D), some (.ref (D + 117)), some (.int (nI i))] [] J H bb := by
  refine Ex_aload_n dL_law_648 rfl ?_
  refine Ex_aload_n dL_law_649 rfl ?_
  refine Ex_iload_n dL_law_650 rfl ?_
  refine Ex_iconst (v := nI 1) dL_law_651 (by rfl) ?_
  first | with_reducible refine Ex_iaddN dL_law_652 ?_ | refine Ex_iadd dL_law_652 ?_
  refine Ex_scr hS dL_law_653 rfl (by omega) hL ?_
  refine Ex_V1i dL_law_654 sL_71 (ds_o hLI.1) (Nat.le_of_ble_eq_true rfl) (K_lies e hLI _) ?_
  rintro r J1 H1 ⟨hM1, h9⟩
  refine Ex_aload_n dL_law_657 rfl ?_
  refine Ex_aload_n dL_law_658 rfl ?_
  refine Ex_iload_n dL_law_659 rfl ?_
  refine Ex_iconst (v := nI 1) dL_law_660 (by rfl) ?_
  first | with_reducible refine Ex_iaddN dL_law_661 ?_ | refine Ex_iadd dL_law_661 ?_
  refine Ex_scr hS dL_law_662 rfl (by omega) hL ?_
  refine Ex_V1i dL_law_663 sL_74 hM1.1 (Nat.le_of_ble_eq_true rfl) (h9) ?_
  rintro _ J2 H2 ⟨rfl, hL2⟩
  refine Ex_icmp_eq (tgt := 1637) dL_law_666 (by decide) (fun h666 => ?_) (fun h666 => ?_)
  · exact k _ _ hL2
  · exact absurd rfl h666
set_option maxRecDepth 100000 in
set_option maxHeartbeats 4000000 in
theorem w_proof {T : TC} {F : FinT} {J : MI} {H : MG} {b L D i : Nat} {xs : Nat → Int32} {bb : Nat × Nat} (e : Nat) (hS : FScr T F b L xs) (hLI : LI T D J H) (hi : i + 6 ≤ L) (hL : L < 2 ^ 31) (k : ∀ J H, LI T D J H → Ex T RL cL_law 4 (e + 101) F 1637 [some (.ref b), some (.ref D), some (.ref (D + 117)), some (.int (nI i))] [] J H bb) : Ex T RL cL_law 4 (e + 101) F 671 [some (.ref b), some (.ref D), some (.ref (D + 117)), some (.int (nI i))] [] J H bb := by
  refine Ex_aload_n dL_law_671 rfl ?_
  refine Ex_aload_n dL_law_672 rfl ?_
  refine Ex_iload_n dL_law_673 rfl ?_
  refine Ex_iconst (v := nI 1) dL_law_674 (by rfl) ?_
  first | with_reducible refine Ex_iaddN dL_law_675 ?_ | refine Ex_iadd dL_law_675 ?_
  refine Ex_scr hS dL_law_676 rfl (by omega) hL ?_
  refine Ex_aload_n dL_law_677 rfl ?_
  refine Ex_iload_n dL_law_678 rfl ?_
  refine Ex_iconst (v := nI 2) dL_law_679 (by rfl) ?_
  first | with_reducible refine Ex_iaddN dL_law_680 ?_ | refine Ex_iadd dL_law_680 ?_
  refine Ex_scr hS dL_law_681 rfl (by omega) hL ?_
  refine Ex_V2i dL_law_682 sL_75 (ds_o hLI.1) (Nat.le_of_ble_eq_true rfl) (K_proof e hLI _ _) ?_
  rintro r J1 H1 ⟨hM1, h9⟩
  refine Ex_aload_n dL_law_685 rfl ?_
  refine Ex_aload_n dL_law_686 rfl ?_
  refine Ex_iload_n dL_law_687 rfl ?_
  refine Ex_iconst (v := nI 1) dL_law_688 (by rfl) ?_
  first | with_reducible refine Ex_iaddN dL_law_689 ?_ | refine Ex_iadd dL_law_689 ?_
  refine Ex_scr hS dL_law_690 rfl (by omega) hL ?_
  refine Ex_aload_n dL_law_691 rfl ?_
  refine Ex_iload_n dL_law_692 rfl ?_
  refine Ex_iconst (v := nI 2) dL_law_693 (by rfl) ?_
  first | with_reducible refine Ex_iaddN dL_law_694 ?_ | refine Ex_iadd dL_law_694 ?_
  refine Ex_scr hS dL_law_695 rfl (by omega) hL ?_
  refine Ex_V2i dL_law_696 sL_78 hM1.1 (Nat.le_of_ble_eq_true rfl) (h9) ?_
  rintro _ J2 H2 ⟨rfl, hL2⟩
  refine Ex_icmp_eq (tgt := 1637) dL_law_699 (by decide) (fun h699 => ?_) (fun h699 => ?_)
  · exact k _ _ hL2
  · exact absurd rfl h699
set_option maxRecDepth 100000 in
set_option maxHeartbeats 4000000 in
theorem w_common {T : TC} {F : FinT} {J : MI} {H : MG} {b L D i : Nat} {xs : Nat → Int32} {bb : Nat × Nat} (e : Nat) (hS : FScr T F b L xs) (hLI : LI T D J H) (hi : i + 6 ≤ L) (hL : L < 2 ^ 31) (k : ∀ J H, LI T D J H → Ex T RL cL_law 4 (e + 101) F 1637 [some (.ref b), some (.ref D), some (.ref (D + 117)), some (.int (nI i))] [] J H bb) : Ex T RL cL_law 4 (e + 101) F 704 [some (.ref b), some (.ref D), some (.ref (D + 117)), some (.int (nI i))] [] J H bb := by
  refine Ex_aload_n dL_law_704 rfl ?_
  refine Ex_aload_n dL_law_705 rfl ?_
  refine Ex_iload_n dL_law_706 rfl ?_
  refine Ex_iconst (v := nI 1) dL_law_707 (by rfl) ?_
  first | with_reducible refine Ex_iaddN dL_law_708 ?_ | refine Ex_iadd dL_law_708 ?_
  refine Ex_scr hS dL_law_709 rfl (by omega) hL ?_
  refine Ex_aload_n dL_law_710 rfl ?_
  refine Ex_iload_n dL_law_711 rfl ?_
  refine Ex_iconst (v := nI 2) dL_law_712 (by rfl) ?_
  first | with_reducible refine Ex_iaddN dL_law_713 ?_ | refine Ex_iadd dL_law_713 ?_
  refine Ex_scr hS dL_law_714 rfl (by omega) hL ?_
  refine Ex_aload_n dL_law_715 rfl ?_
  refine Ex_iload_n dL_law_716 rfl ?_
  refine Ex_iconst (v := nI 3) dL_law_717 (by rfl) ?_
  first | with_reducible refine Ex_iaddN dL_law_718 ?_ | refine Ex_iadd dL_law_718 ?_
  refine Ex_scr hS dL_law_719 rfl (by omega) hL ?_
  refine Ex_V3i dL_law_720 sL_79 (ds_o hLI.1) (Nat.le_of_ble_eq_true rfl) (K_common e hLI _ _ _) ?_
  rintro r J1 H1 ⟨hM1, h9⟩
  refine Ex_aload_n dL_law_723 rfl ?_
  refine Ex_aload_n dL_law_724 rfl ?_
  refine Ex_iload_n dL_law_725 rfl ?_
  refine Ex_iconst (v := nI 1) dL_law_726 (by rfl) ?_
  first | with_reducible refine Ex_iaddN dL_law_727 ?_ | refine Ex_iadd dL_law_727 ?_
  refine Ex_scr hS dL_law_728 rfl (by omega) hL ?_
  refine Ex_aload_n dL_law_729 rfl ?_
  refine Ex_iload_n dL_law_730 rfl ?_
  refine Ex_iconst (v := nI 2) dL_law_731 (by rfl) ?_
  first | with_reducible refine Ex_iaddN dL_law_732 ?_ | refine Ex_iadd dL_law_732 ?_
  refine Ex_scr hS dL_law_733 rfl (by omega) hL ?_
  refine Ex_aload_n dL_law_734 rfl ?_
  refine Ex_iload_n dL_law_735 rfl ?_
  refine Ex_iconst (v := nI 3) dL_law_736 (by rfl) ?_
  first | with_reducible refine Ex_iaddN dL_law_737 ?_ | refine Ex_iadd dL_law_737 ?_
  refine Ex_scr hS dL_law_738 rfl (by omega) hL ?_
  refine Ex_V3i dL_law_739 sL_83 hM1.1 (Nat.le_of_ble_eq_true rfl) (h9) ?_
  rintro _ J2 H2 ⟨rfl, hL2⟩
  refine Ex_icmp_eq (tgt := 1637) dL_law_742 (by decide) (fun h742 => ?_) (fun h742 => ?_)
  · exact k _ _ hL2
  · exact absurd rfl h742
set_option maxRecDepth 100000 in
set_option maxHeartbeats 4000000 in
theorem w_hiding {T : TC} {F : FinT} {J : MI} {H : MG} {b L D i : Nat} {xs : Nat → Int32} {bb : Nat × Nat} (e : Nat) (hS : FScr T F b L xs) (hLI : LI T D J H) (hi : i + 6 ≤ L) (hL : L < 2 ^ 31) (k : ∀ J H, LI T D J H → Ex T RL cL_law 4 (e + 101) F 1637 [some (.ref b), some (.ref D), some (.ref (D + 117)), some (.int (nI i))] [] J H bb) : Ex T RL cL_law 4 (e + 101) F 747 [some (.ref b), some (.ref D), some (.ref (D + 117)), some (.int (nI i))] [] J H bb := by
  refine Ex_aload_n dL_law_747 rfl ?_
  refine Ex_aload_n dL_law_748 rfl ?_
  refine Ex_iload_n dL_law_749 rfl ?_
  refine Ex_iconst (v := nI 1) dL_law_750 (by rfl) ?_
  first | with_reducible refine Ex_iaddN dL_law_751 ?_ | refine Ex_iadd dL_law_751 ?_
  refine Ex_scr hS dL_law_752 rfl (by omega) hL ?_
  refine Ex_aload_n dL_law_753 rfl ?_
  refine Ex_iload_n dL_law_754 rfl ?_
  refine Ex_iconst (v := nI 2) dL_law_755 (by rfl) ?_
  first | with_reducible refine Ex_iaddN dL_law_756 ?_ | refine Ex_iadd dL_law_756 ?_
  refine Ex_scr hS dL_law_757 rfl (by omega) hL ?_
  refine Ex_V2i dL_law_758 sL_84 (ds_o hLI.1) (Nat.le_of_ble_eq_true rfl) (K_hiding e hLI _ _) ?_
  rintro r J1 H1 ⟨hM1, h9⟩
  refine Ex_aload_n dL_law_761 rfl ?_
  refine Ex_aload_n dL_law_762 rfl ?_
  refine Ex_iload_n dL_law_763 rfl ?_
  refine Ex_iconst (v := nI 1) dL_law_764 (by rfl) ?_
  first | with_reducible refine Ex_iaddN dL_law_765 ?_ | refine Ex_iadd dL_law_765 ?_
  refine Ex_scr hS dL_law_766 rfl (by omega) hL ?_
  refine Ex_aload_n dL_law_767 rfl ?_
  refine Ex_iload_n dL_law_768 rfl ?_
  refine Ex_iconst (v := nI 2) dL_law_769 (by rfl) ?_
  first | with_reducible refine Ex_iaddN dL_law_770 ?_ | refine Ex_iadd dL_law_770 ?_
  refine Ex_scr hS dL_law_771 rfl (by omega) hL ?_
  refine Ex_V2i dL_law_772 sL_87 hM1.1 (Nat.le_of_ble_eq_true rfl) (h9) ?_
  rintro _ J2 H2 ⟨rfl, hL2⟩
  refine Ex_icmp_eq (tgt := 1637) dL_law_775 (by decide) (fun h775 => ?_) (fun h775 => ?_)
  · exact k _ _ hL2
  · exact absurd rfl h775
set_option maxRecDepth 100000 in
set_option maxHeartbeats 4000000 in
theorem w_alike {T : TC} {F : FinT} {J : MI} {H : MG} {b L D i : Nat} {xs : Nat → Int32} {bb : Nat × Nat} (e : Nat) (hS : FScr T F b L xs) (hLI : LI T D J H) (hi : i + 6 ≤ L) (hL : L < 2 ^ 31) (k : ∀ J H, LI T D J H → Ex T RL cL_law 4 (e + 101) F 1637 [some (.ref b), some (.ref D), some (.ref (D + 117)), some (.int (nI i))] [] J H bb) : Ex T RL cL_law 4 (e + 101) F 780 [some (.ref b), some (.ref D), some (.ref (D + 117)), some (.int (nI i))] [] J H bb := by
  refine Ex_aload_n dL_law_780 rfl ?_
  refine Ex_aload_n dL_law_781 rfl ?_
  refine Ex_iload_n dL_law_782 rfl ?_
  refine Ex_iconst (v := nI 1) dL_law_783 (by rfl) ?_
  first | with_reducible refine Ex_iaddN dL_law_784 ?_ | refine Ex_iadd dL_law_784 ?_
  refine Ex_scr hS dL_law_785 rfl (by omega) hL ?_
  refine Ex_V1i dL_law_786 sL_88 (ds_o hLI.1) (Nat.le_of_ble_eq_true rfl) (K_alike e hLI _) ?_
  rintro r J1 H1 ⟨hM1, h9⟩
  refine Ex_aload_n dL_law_789 rfl ?_
  refine Ex_aload_n dL_law_790 rfl ?_
  refine Ex_iload_n dL_law_791 rfl ?_
  refine Ex_iconst (v := nI 1) dL_law_792 (by rfl) ?_
  first | with_reducible refine Ex_iaddN dL_law_793 ?_ | refine Ex_iadd dL_law_793 ?_
  refine Ex_scr hS dL_law_794 rfl (by omega) hL ?_
  refine Ex_V1i dL_law_795 sL_91 hM1.1 (Nat.le_of_ble_eq_true rfl) (h9) ?_
  rintro _ J2 H2 ⟨rfl, hL2⟩
  refine Ex_icmp_eq (tgt := 1637) dL_law_798 (by decide) (fun h798 => ?_) (fun h798 => ?_)
  · exact k _ _ hL2
  · exact absurd rfl h798
set_option maxRecDepth 100000 in
set_option maxHeartbeats 4000000 in
theorem w_forged {T : TC} {F : FinT} {J : MI} {H : MG} {b L D i : Nat} {xs : Nat → Int32} {bb : Nat × Nat} (e : Nat) (hS : FScr T F b L xs) (hLI : LI T D J H) (hi : i + 6 ≤ L) (hL : L < 2 ^ 31) (k : ∀ J H, LI T D J H → Ex T RL cL_law 4 (e + 101) F 1637 [some (.ref b), some (.ref D), some (.ref (D + 117)), some (.int (nI i))] [] J H bb) : Ex T RL cL_law 4 (e + 101) F 803 [some (.ref b), some (.ref D), some (.ref (D + 117)), some (.int (nI i))] [] J H bb := by
  refine Ex_aload_n dL_law_803 rfl ?_
  refine Ex_aload_n dL_law_804 rfl ?_
  refine Ex_iload_n dL_law_805 rfl ?_
  refine Ex_iconst (v := nI 1) dL_law_806 (by rfl) ?_
  first | with_reducible refine Ex_iaddN dL_law_807 ?_ | refine Ex_iadd dL_law_807 ?_
  refine Ex_scr hS dL_law_808 rfl (by omega) hL ?_
  refine Ex_V1i dL_law_809 sL_92 (ds_o hLI.1) (Nat.le_of_ble_eq_true rfl) (K_forged e hLI _) ?_
  rintro r J1 H1 ⟨hM1, h9⟩
  refine Ex_aload_n dL_law_812 rfl ?_
  refine Ex_aload_n dL_law_813 rfl ?_
  refine Ex_iload_n dL_law_814 rfl ?_
  refine Ex_iconst (v := nI 1) dL_law_815 (by rfl) ?_
  first | with_reducible refine Ex_iaddN dL_law_816 ?_ | refine Ex_iadd dL_law_816 ?_
  refine Ex_scr hS dL_law_817 rfl (by omega) hL ?_
  refine Ex_V1i dL_law_818 sL_95 hM1.1 (Nat.le_of_ble_eq_true rfl) (h9) ?_
  rintro _ J2 H2 ⟨rfl, hL2⟩
  refine Ex_icmp_eq (tgt := 1637) dL_law_821 (by decide) (fun h821 => ?_) (fun h821 => ?_)
  · exact k _ _ hL2
  · exact absurd rfl h821
set_option maxRecDepth 100000 in
set_option maxHeartbeats 4000000 in
theorem w_behind {T : TC} {F : FinT} {J : MI} {H : MG} {b L D i : Nat} {xs : Nat → Int32} {bb : Nat × Nat} (e : Nat) (hS : FScr T F b L xs) (hLI : LI T D J H) (hi : i + 6 ≤ L) (hL : L < 2 ^ 31) (k : ∀ J H, LI T D J H → Ex T RL cL_law 4 (e + 101) F 1637 [some (.ref b), some (.ref D), some (.ref (D + 117)), some (.int (nI i))] [] J H bb) : Ex T RL cL_law 4 (e + 101) F 826 [some (.ref b), some (.ref D), some (.ref (D + 117)), some (.int (nI i))] [] J H bb := by
  refine Ex_aload_n dL_law_826 rfl ?_
  refine Ex_aload_n dL_law_827 rfl ?_
  refine Ex_iload_n dL_law_828 rfl ?_
  refine Ex_iconst (v := nI 1) dL_law_829 (by rfl) ?_
  first | with_reducible refine Ex_iaddN dL_law_830 ?_ | refine Ex_iadd dL_law_830 ?_
  refine Ex_scr hS dL_law_831 rfl (by omega) hL ?_
  refine Ex_aload_n dL_law_832 rfl ?_
  refine Ex_iload_n dL_law_833 rfl ?_
  refine Ex_iconst (v := nI 2) dL_law_834 (by rfl) ?_
  first | with_reducible refine Ex_iaddN dL_law_835 ?_ | refine Ex_iadd dL_law_835 ?_
  refine Ex_scr hS dL_law_836 rfl (by omega) hL ?_
  refine Ex_V2i dL_law_837 sL_96 (ds_o hLI.1) (Nat.le_of_ble_eq_true rfl) (K_behind e hLI _ _) ?_
  rintro r J1 H1 ⟨hM1, h9⟩
  refine Ex_aload_n dL_law_840 rfl ?_
  refine Ex_aload_n dL_law_841 rfl ?_
  refine Ex_iload_n dL_law_842 rfl ?_
  refine Ex_iconst (v := nI 1) dL_law_843 (by rfl) ?_
  first | with_reducible refine Ex_iaddN dL_law_844 ?_ | refine Ex_iadd dL_law_844 ?_
  refine Ex_scr hS dL_law_845 rfl (by omega) hL ?_
  refine Ex_aload_n dL_law_846 rfl ?_
  refine Ex_iload_n dL_law_847 rfl ?_
  refine Ex_iconst (v := nI 2) dL_law_848 (by rfl) ?_
  first | with_reducible refine Ex_iaddN dL_law_849 ?_ | refine Ex_iadd dL_law_849 ?_
  refine Ex_scr hS dL_law_850 rfl (by omega) hL ?_
  refine Ex_V2i dL_law_851 sL_99 hM1.1 (Nat.le_of_ble_eq_true rfl) (h9) ?_
  rintro _ J2 H2 ⟨rfl, hL2⟩
  refine Ex_icmp_eq (tgt := 1637) dL_law_854 (by decide) (fun h854 => ?_) (fun h854 => ?_)
  · exact k _ _ hL2
  · exact absurd rfl h854
set_option maxRecDepth 100000 in
set_option maxHeartbeats 4000000 in
theorem w_gone {T : TC} {F : FinT} {J : MI} {H : MG} {b L D i : Nat} {xs : Nat → Int32} {bb : Nat × Nat} (e : Nat) (hS : FScr T F b L xs) (hLI : LI T D J H) (hi : i + 6 ≤ L) (hL : L < 2 ^ 31) (k : ∀ J H, LI T D J H → Ex T RL cL_law 4 (e + 101) F 1637 [some (.ref b), some (.ref D), some (.ref (D + 117)), some (.int (nI i))] [] J H bb) : Ex T RL cL_law 4 (e + 101) F 859 [some (.ref b), some (.ref D), some (.ref (D + 117)), some (.int (nI i))] [] J H bb := by
  refine Ex_aload_n dL_law_859 rfl ?_
  refine Ex_aload_n dL_law_860 rfl ?_
  refine Ex_iload_n dL_law_861 rfl ?_
  refine Ex_iconst (v := nI 1) dL_law_862 (by rfl) ?_
  first | with_reducible refine Ex_iaddN dL_law_863 ?_ | refine Ex_iadd dL_law_863 ?_
  refine Ex_scr hS dL_law_864 rfl (by omega) hL ?_
  refine Ex_aload_n dL_law_865 rfl ?_
  refine Ex_iload_n dL_law_866 rfl ?_
  refine Ex_iconst (v := nI 2) dL_law_867 (by rfl) ?_
  first | with_reducible refine Ex_iaddN dL_law_868 ?_ | refine Ex_iadd dL_law_868 ?_
  refine Ex_scr hS dL_law_869 rfl (by omega) hL ?_
  refine Ex_V2i dL_law_870 sL_100 (ds_o hLI.1) (Nat.le_of_ble_eq_true rfl) (K_gone e hLI _ _) ?_
  rintro r J1 H1 ⟨hM1, h9⟩
  refine Ex_aload_n dL_law_873 rfl ?_
  refine Ex_aload_n dL_law_874 rfl ?_
  refine Ex_iload_n dL_law_875 rfl ?_
  refine Ex_iconst (v := nI 1) dL_law_876 (by rfl) ?_
  first | with_reducible refine Ex_iaddN dL_law_877 ?_ | refine Ex_iadd dL_law_877 ?_
  refine Ex_scr hS dL_law_878 rfl (by omega) hL ?_
  refine Ex_aload_n dL_law_879 rfl ?_
  refine Ex_iload_n dL_law_880 rfl ?_
  refine Ex_iconst (v := nI 2) dL_law_881 (by rfl) ?_
  first | with_reducible refine Ex_iaddN dL_law_882 ?_ | refine Ex_iadd dL_law_882 ?_
  refine Ex_scr hS dL_law_883 rfl (by omega) hL ?_
  refine Ex_V2i dL_law_884 sL_103 hM1.1 (Nat.le_of_ble_eq_true rfl) (h9) ?_
  rintro _ J2 H2 ⟨rfl, hL2⟩
  refine Ex_icmp_eq (tgt := 1637) dL_law_887 (by decide) (fun h887 => ?_) (fun h887 => ?_)
  · exact k _ _ hL2
  · exact absurd rfl h887
set_option maxRecDepth 100000 in
set_option maxHeartbeats 4000000 in
theorem w_safe {T : TC} {F : FinT} {J : MI} {H : MG} {b L D i : Nat} {xs : Nat → Int32} {bb : Nat × Nat} (e : Nat) (hS : FScr T F b L xs) (hLI : LI T D J H) (hi : i + 6 ≤ L) (hL : L < 2 ^ 31) (k : ∀ J H, LI T D J H → Ex T RL cL_law 4 (e + 101) F 1637 [some (.ref b), some (.ref D), some (.ref (D + 117)), some (.int (nI i))] [] J H bb) : Ex T RL cL_law 4 (e + 101) F 892 [some (.ref b), some (.ref D), some (.ref (D + 117)), some (.int (nI i))] [] J H bb := by
  refine Ex_aload_n dL_law_892 rfl ?_
  refine Ex_aload_n dL_law_893 rfl ?_
  refine Ex_iload_n dL_law_894 rfl ?_
  refine Ex_iconst (v := nI 1) dL_law_895 (by rfl) ?_
  first | with_reducible refine Ex_iaddN dL_law_896 ?_ | refine Ex_iadd dL_law_896 ?_
  refine Ex_scr hS dL_law_897 rfl (by omega) hL ?_
  refine Ex_aload_n dL_law_898 rfl ?_
  refine Ex_iload_n dL_law_899 rfl ?_
  refine Ex_iconst (v := nI 2) dL_law_900 (by rfl) ?_
  first | with_reducible refine Ex_iaddN dL_law_901 ?_ | refine Ex_iadd dL_law_901 ?_
  refine Ex_scr hS dL_law_902 rfl (by omega) hL ?_
  refine Ex_V2i dL_law_903 sL_104 (ds_o hLI.1) (Nat.le_of_ble_eq_true rfl) (K_safe e hLI _ _) ?_
  rintro r J1 H1 ⟨hM1, h9⟩
  refine Ex_aload_n dL_law_906 rfl ?_
  refine Ex_aload_n dL_law_907 rfl ?_
  refine Ex_iload_n dL_law_908 rfl ?_
  refine Ex_iconst (v := nI 1) dL_law_909 (by rfl) ?_
  first | with_reducible refine Ex_iaddN dL_law_910 ?_ | refine Ex_iadd dL_law_910 ?_
  refine Ex_scr hS dL_law_911 rfl (by omega) hL ?_
  refine Ex_aload_n dL_law_912 rfl ?_
  refine Ex_iload_n dL_law_913 rfl ?_
  refine Ex_iconst (v := nI 2) dL_law_914 (by rfl) ?_
  first | with_reducible refine Ex_iaddN dL_law_915 ?_ | refine Ex_iadd dL_law_915 ?_
  refine Ex_scr hS dL_law_916 rfl (by omega) hL ?_
  refine Ex_V2i dL_law_917 sL_107 hM1.1 (Nat.le_of_ble_eq_true rfl) (h9) ?_
  rintro _ J2 H2 ⟨rfl, hL2⟩
  refine Ex_icmp_eq (tgt := 1637) dL_law_920 (by decide) (fun h920 => ?_) (fun h920 => ?_)
  · exact k _ _ hL2
  · exact absurd rfl h920
set_option maxRecDepth 100000 in
set_option maxHeartbeats 4000000 in
theorem w_becomes {T : TC} {F : FinT} {J : MI} {H : MG} {b L D i : Nat} {xs : Nat → Int32} {bb : Nat × Nat} (e : Nat) (hS : FScr T F b L xs) (hLI : LI T D J H) (hi : i + 6 ≤ L) (hL : L < 2 ^ 31) (k : ∀ J H, LI T D J H → Ex T RL cL_law 4 (e + 101) F 1637 [some (.ref b), some (.ref D), some (.ref (D + 117)), some (.int (nI i))] [] J H bb) : Ex T RL cL_law 4 (e + 101) F 925 [some (.ref b), some (.ref D), some (.ref (D + 117)), some (.int (nI i))] [] J H bb := by
  refine Ex_aload_n dL_law_925 rfl ?_
  refine Ex_aload_n dL_law_926 rfl ?_
  refine Ex_iload_n dL_law_927 rfl ?_
  refine Ex_iconst (v := nI 1) dL_law_928 (by rfl) ?_
  first | with_reducible refine Ex_iaddN dL_law_929 ?_ | refine Ex_iadd dL_law_929 ?_
  refine Ex_scr hS dL_law_930 rfl (by omega) hL ?_
  refine Ex_aload_n dL_law_931 rfl ?_
  refine Ex_iload_n dL_law_932 rfl ?_
  refine Ex_iconst (v := nI 2) dL_law_933 (by rfl) ?_
  first | with_reducible refine Ex_iaddN dL_law_934 ?_ | refine Ex_iadd dL_law_934 ?_
  refine Ex_scr hS dL_law_935 rfl (by omega) hL ?_
  refine Ex_aload_n dL_law_936 rfl ?_
  refine Ex_iload_n dL_law_937 rfl ?_
  refine Ex_iconst (v := nI 3) dL_law_938 (by rfl) ?_
  first | with_reducible refine Ex_iaddN dL_law_939 ?_ | refine Ex_iadd dL_law_939 ?_
  refine Ex_scr hS dL_law_940 rfl (by omega) hL ?_
  refine Ex_V3i dL_law_941 sL_108 (ds_o hLI.1) (Nat.le_of_ble_eq_true rfl) (K_becomes e hLI _ _ _) ?_
  rintro r J1 H1 ⟨hM1, h9⟩
  refine Ex_aload_n dL_law_944 rfl ?_
  refine Ex_aload_n dL_law_945 rfl ?_
  refine Ex_iload_n dL_law_946 rfl ?_
  refine Ex_iconst (v := nI 1) dL_law_947 (by rfl) ?_
  first | with_reducible refine Ex_iaddN dL_law_948 ?_ | refine Ex_iadd dL_law_948 ?_
  refine Ex_scr hS dL_law_949 rfl (by omega) hL ?_
  refine Ex_aload_n dL_law_950 rfl ?_
  refine Ex_iload_n dL_law_951 rfl ?_
  refine Ex_iconst (v := nI 2) dL_law_952 (by rfl) ?_
  first | with_reducible refine Ex_iaddN dL_law_953 ?_ | refine Ex_iadd dL_law_953 ?_
  refine Ex_scr hS dL_law_954 rfl (by omega) hL ?_
  refine Ex_aload_n dL_law_955 rfl ?_
  refine Ex_iload_n dL_law_956 rfl ?_
  refine Ex_iconst (v := nI 3) dL_law_957 (by rfl) ?_
  first | with_reducible refine Ex_iaddN dL_law_958 ?_ | refine Ex_iadd dL_law_958 ?_
  refine Ex_scr hS dL_law_959 rfl (by omega) hL ?_
  refine Ex_V3i dL_law_960 sL_111 hM1.1 (Nat.le_of_ble_eq_true rfl) (h9) ?_
  rintro _ J2 H2 ⟨rfl, hL2⟩
  refine Ex_icmp_eq (tgt := 1637) dL_law_963 (by decide) (fun h963 => ?_) (fun h963 => ?_)
  · exact k _ _ hL2
  · exact absurd rfl h963
set_option maxRecDepth 100000 in
set_option maxHeartbeats 4000000 in
theorem w_kept {T : TC} {F : FinT} {J : MI} {H : MG} {b L D i : Nat} {xs : Nat → Int32} {bb : Nat × Nat} (e : Nat) (hS : FScr T F b L xs) (hLI : LI T D J H) (hi : i + 6 ≤ L) (hL : L < 2 ^ 31) (k : ∀ J H, LI T D J H → Ex T RL cL_law 4 (e + 101) F 1637 [some (.ref b), some (.ref D), some (.ref (D + 117)), some (.int (nI i))] [] J H bb) : Ex T RL cL_law 4 (e + 101) F 968 [some (.ref b), some (.ref D), some (.ref (D + 117)), some (.int (nI i))] [] J H bb := by
  refine Ex_aload_n dL_law_968 rfl ?_
  refine Ex_aload_n dL_law_969 rfl ?_
  refine Ex_iload_n dL_law_970 rfl ?_
  refine Ex_iconst (v := nI 1) dL_law_971 (by rfl) ?_
  first | with_reducible refine Ex_iaddN dL_law_972 ?_ | refine Ex_iadd dL_law_972 ?_
  refine Ex_scr hS dL_law_973 rfl (by omega) hL ?_
  refine Ex_aload_n dL_law_974 rfl ?_
  refine Ex_iload_n dL_law_975 rfl ?_
  refine Ex_iconst (v := nI 2) dL_law_976 (by rfl) ?_
  first | with_reducible refine Ex_iaddN dL_law_977 ?_ | refine Ex_iadd dL_law_977 ?_
  refine Ex_scr hS dL_law_978 rfl (by omega) hL ?_
  refine Ex_V2i dL_law_979 sL_112 (ds_o hLI.1) (Nat.le_of_ble_eq_true rfl) (K_kept e hLI _ _) ?_
  rintro r J1 H1 ⟨hM1, h9⟩
  refine Ex_aload_n dL_law_982 rfl ?_
  refine Ex_aload_n dL_law_983 rfl ?_
  refine Ex_iload_n dL_law_984 rfl ?_
  refine Ex_iconst (v := nI 1) dL_law_985 (by rfl) ?_
  first | with_reducible refine Ex_iaddN dL_law_986 ?_ | refine Ex_iadd dL_law_986 ?_
  refine Ex_scr hS dL_law_987 rfl (by omega) hL ?_
  refine Ex_aload_n dL_law_988 rfl ?_
  refine Ex_iload_n dL_law_989 rfl ?_
  refine Ex_iconst (v := nI 2) dL_law_990 (by rfl) ?_
  first | with_reducible refine Ex_iaddN dL_law_991 ?_ | refine Ex_iadd dL_law_991 ?_
  refine Ex_scr hS dL_law_992 rfl (by omega) hL ?_
  refine Ex_V2i dL_law_993 sL_115 hM1.1 (Nat.le_of_ble_eq_true rfl) (h9) ?_
  rintro _ J2 H2 ⟨rfl, hL2⟩
  refine Ex_icmp_eq (tgt := 1637) dL_law_996 (by decide) (fun h996 => ?_) (fun h996 => ?_)
  · exact k _ _ hL2
  · exact absurd rfl h996
set_option maxRecDepth 100000 in
set_option maxHeartbeats 4000000 in
theorem w_whose {T : TC} {F : FinT} {J : MI} {H : MG} {b L D i : Nat} {xs : Nat → Int32} {bb : Nat × Nat} (e : Nat) (hS : FScr T F b L xs) (hLI : LI T D J H) (hi : i + 6 ≤ L) (hL : L < 2 ^ 31) (k : ∀ J H, LI T D J H → Ex T RL cL_law 4 (e + 101) F 1637 [some (.ref b), some (.ref D), some (.ref (D + 117)), some (.int (nI i))] [] J H bb) : Ex T RL cL_law 4 (e + 101) F 1001 [some (.ref b), some (.ref D), some (.ref (D + 117)), some (.int (nI i))] [] J H bb := by
  refine Ex_aload_n dL_law_1001 rfl ?_
  refine Ex_aload_n dL_law_1002 rfl ?_
  refine Ex_iload_n dL_law_1003 rfl ?_
  refine Ex_iconst (v := nI 1) dL_law_1004 (by rfl) ?_
  first | with_reducible refine Ex_iaddN dL_law_1005 ?_ | refine Ex_iadd dL_law_1005 ?_
  refine Ex_scr hS dL_law_1006 rfl (by omega) hL ?_
  refine Ex_aload_n dL_law_1007 rfl ?_
  refine Ex_iload_n dL_law_1008 rfl ?_
  refine Ex_iconst (v := nI 2) dL_law_1009 (by rfl) ?_
  first | with_reducible refine Ex_iaddN dL_law_1010 ?_ | refine Ex_iadd dL_law_1010 ?_
  refine Ex_scr hS dL_law_1011 rfl (by omega) hL ?_
  refine Ex_V2i dL_law_1012 sL_116 (ds_o hLI.1) (Nat.le_of_ble_eq_true rfl) (K_whose e hLI _ _) ?_
  rintro r J1 H1 ⟨hM1, h9⟩
  refine Ex_aload_n dL_law_1015 rfl ?_
  refine Ex_aload_n dL_law_1016 rfl ?_
  refine Ex_iload_n dL_law_1017 rfl ?_
  refine Ex_iconst (v := nI 1) dL_law_1018 (by rfl) ?_
  first | with_reducible refine Ex_iaddN dL_law_1019 ?_ | refine Ex_iadd dL_law_1019 ?_
  refine Ex_scr hS dL_law_1020 rfl (by omega) hL ?_
  refine Ex_aload_n dL_law_1021 rfl ?_
  refine Ex_iload_n dL_law_1022 rfl ?_
  refine Ex_iconst (v := nI 2) dL_law_1023 (by rfl) ?_
  first | with_reducible refine Ex_iaddN dL_law_1024 ?_ | refine Ex_iadd dL_law_1024 ?_
  refine Ex_scr hS dL_law_1025 rfl (by omega) hL ?_
  refine Ex_V2i dL_law_1026 sL_119 hM1.1 (Nat.le_of_ble_eq_true rfl) (h9) ?_
  rintro _ J2 H2 ⟨rfl, hL2⟩
  refine Ex_icmp_eq (tgt := 1637) dL_law_1029 (by decide) (fun h1029 => ?_) (fun h1029 => ?_)
  · exact k _ _ hL2
  · exact absurd rfl h1029
set_option maxRecDepth 100000 in
set_option maxHeartbeats 4000000 in
theorem w_fee {T : TC} {F : FinT} {J : MI} {H : MG} {b L D i : Nat} {xs : Nat → Int32} {bb : Nat × Nat} (e : Nat) (hS : FScr T F b L xs) (hLI : LI T D J H) (hi : i + 6 ≤ L) (hL : L < 2 ^ 31) (k : ∀ J H, LI T D J H → Ex T RL cL_law 4 (e + 101) F 1637 [some (.ref b), some (.ref D), some (.ref (D + 117)), some (.int (nI i))] [] J H bb) : Ex T RL cL_law 4 (e + 101) F 1034 [some (.ref b), some (.ref D), some (.ref (D + 117)), some (.int (nI i))] [] J H bb := by
  refine Ex_aload_n dL_law_1034 rfl ?_
  refine Ex_V0i dL_law_1035 sL_120 (ds_o hLI.1) (Nat.le_of_ble_eq_true rfl) (K_fee e hLI) ?_
  rintro r J1 H1 ⟨hM1, h9⟩
  refine Ex_aload_n dL_law_1038 rfl ?_
  refine Ex_V0i dL_law_1039 sL_124 hM1.1 (Nat.le_of_ble_eq_true rfl) (h9) ?_
  rintro _ J2 H2 ⟨rfl, hL2⟩
  refine Ex_icmp_eq (tgt := 1637) dL_law_1042 (by decide) (fun h1042 => ?_) (fun h1042 => ?_)
  · exact k _ _ hL2
  · exact absurd rfl h1042
set_option maxRecDepth 100000 in
set_option maxHeartbeats 4000000 in
theorem w_fine {T : TC} {F : FinT} {J : MI} {H : MG} {b L D i : Nat} {xs : Nat → Int32} {bb : Nat × Nat} (e : Nat) (hS : FScr T F b L xs) (hLI : LI T D J H) (hi : i + 6 ≤ L) (hL : L < 2 ^ 31) (k : ∀ J H, LI T D J H → Ex T RL cL_law 4 (e + 101) F 1637 [some (.ref b), some (.ref D), some (.ref (D + 117)), some (.int (nI i))] [] J H bb) : Ex T RL cL_law 4 (e + 101) F 1047 [some (.ref b), some (.ref D), some (.ref (D + 117)), some (.int (nI i))] [] J H bb := by
  refine Ex_aload_n dL_law_1047 rfl ?_
  refine Ex_aload_n dL_law_1048 rfl ?_
  refine Ex_iload_n dL_law_1049 rfl ?_
  refine Ex_iconst (v := nI 1) dL_law_1050 (by rfl) ?_
  first | with_reducible refine Ex_iaddN dL_law_1051 ?_ | refine Ex_iadd dL_law_1051 ?_
  refine Ex_scr hS dL_law_1052 rfl (by omega) hL ?_
  refine Ex_V1i dL_law_1053 sL_125 (ds_o hLI.1) (Nat.le_of_ble_eq_true rfl) (K_fine e hLI _) ?_
  rintro r J1 H1 ⟨hM1, h9⟩
  refine Ex_aload_n dL_law_1056 rfl ?_
  refine Ex_aload_n dL_law_1057 rfl ?_
  refine Ex_iload_n dL_law_1058 rfl ?_
  refine Ex_iconst (v := nI 1) dL_law_1059 (by rfl) ?_
  first | with_reducible refine Ex_iaddN dL_law_1060 ?_ | refine Ex_iadd dL_law_1060 ?_
  refine Ex_scr hS dL_law_1061 rfl (by omega) hL ?_
  refine Ex_V1i dL_law_1062 sL_128 hM1.1 (Nat.le_of_ble_eq_true rfl) (h9) ?_
  rintro _ J2 H2 ⟨rfl, hL2⟩
  refine Ex_icmp_eq (tgt := 1637) dL_law_1065 (by decide) (fun h1065 => ?_) (fun h1065 => ?_)
  · exact k _ _ hL2
  · exact absurd rfl h1065
set_option maxRecDepth 100000 in
set_option maxHeartbeats 4000000 in
theorem w_feed {T : TC} {F : FinT} {J : MI} {H : MG} {b L D i : Nat} {xs : Nat → Int32} {bb : Nat × Nat} (e : Nat) (hS : FScr T F b L xs) (hLI : LI T D J H) (hi : i + 6 ≤ L) (hL : L < 2 ^ 31) (k : ∀ J H, LI T D J H → Ex T RL cL_law 4 (e + 101) F 1637 [some (.ref b), some (.ref D), some (.ref (D + 117)), some (.int (nI i))] [] J H bb) : Ex T RL cL_law 4 (e + 101) F 1070 [some (.ref b), some (.ref D), some (.ref (D + 117)), some (.int (nI i))] [] J H bb := by
  refine Ex_aload_n dL_law_1070 rfl ?_
  refine Ex_aload_n dL_law_1071 rfl ?_
  refine Ex_iload_n dL_law_1072 rfl ?_
  refine Ex_iconst (v := nI 1) dL_law_1073 (by rfl) ?_
  first | with_reducible refine Ex_iaddN dL_law_1074 ?_ | refine Ex_iadd dL_law_1074 ?_
  refine Ex_scr hS dL_law_1075 rfl (by omega) hL ?_
  refine Ex_aload_n dL_law_1076 rfl ?_
  refine Ex_iload_n dL_law_1077 rfl ?_
  refine Ex_iconst (v := nI 2) dL_law_1078 (by rfl) ?_
  first | with_reducible refine Ex_iaddN dL_law_1079 ?_ | refine Ex_iadd dL_law_1079 ?_
  refine Ex_scr hS dL_law_1080 rfl (by omega) hL ?_
  refine Ex_aload_n dL_law_1081 rfl ?_
  refine Ex_iload_n dL_law_1082 rfl ?_
  refine Ex_iconst (v := nI 3) dL_law_1083 (by rfl) ?_
  first | with_reducible refine Ex_iaddN dL_law_1084 ?_ | refine Ex_iadd dL_law_1084 ?_
  refine Ex_scr hS dL_law_1085 rfl (by omega) hL ?_
  refine Ex_V3i dL_law_1086 sL_129 (ds_o hLI.1) (Nat.le_of_ble_eq_true rfl) (K_feed e hLI _ _ _) ?_
  rintro r J1 H1 ⟨hM1, h9⟩
  refine Ex_aload_n dL_law_1089 rfl ?_
  refine Ex_aload_n dL_law_1090 rfl ?_
  refine Ex_iload_n dL_law_1091 rfl ?_
  refine Ex_iconst (v := nI 1) dL_law_1092 (by rfl) ?_
  first | with_reducible refine Ex_iaddN dL_law_1093 ?_ | refine Ex_iadd dL_law_1093 ?_
  refine Ex_scr hS dL_law_1094 rfl (by omega) hL ?_
  refine Ex_aload_n dL_law_1095 rfl ?_
  refine Ex_iload_n dL_law_1096 rfl ?_
  refine Ex_iconst (v := nI 2) dL_law_1097 (by rfl) ?_
  first | with_reducible refine Ex_iaddN dL_law_1098 ?_ | refine Ex_iadd dL_law_1098 ?_
  refine Ex_scr hS dL_law_1099 rfl (by omega) hL ?_
  refine Ex_aload_n dL_law_1100 rfl ?_
  refine Ex_iload_n dL_law_1101 rfl ?_
  refine Ex_iconst (v := nI 3) dL_law_1102 (by rfl) ?_
  first | with_reducible refine Ex_iaddN dL_law_1103 ?_ | refine Ex_iadd dL_law_1103 ?_
  refine Ex_scr hS dL_law_1104 rfl (by omega) hL ?_
  refine Ex_V3i dL_law_1105 sL_132 hM1.1 (Nat.le_of_ble_eq_true rfl) (h9) ?_
  rintro _ J2 H2 ⟨rfl, hL2⟩
  refine Ex_icmp_eq (tgt := 1637) dL_law_1108 (by decide) (fun h1108 => ?_) (fun h1108 => ?_)
  · exact k _ _ hL2
  · exact absurd rfl h1108
set_option maxRecDepth 100000 in
set_option maxHeartbeats 4000000 in
theorem w_trim {T : TC} {F : FinT} {J : MI} {H : MG} {b L D i : Nat} {xs : Nat → Int32} {bb : Nat × Nat} (e : Nat) (hS : FScr T F b L xs) (hLI : LI T D J H) (hi : i + 6 ≤ L) (hL : L < 2 ^ 31) (k : ∀ J H, LI T D J H → Ex T RL cL_law 4 (e + 101) F 1637 [some (.ref b), some (.ref D), some (.ref (D + 117)), some (.int (nI i))] [] J H bb) : Ex T RL cL_law 4 (e + 101) F 1113 [some (.ref b), some (.ref D), some (.ref (D + 117)), some (.int (nI i))] [] J H bb := by
  refine Ex_aload_n dL_law_1113 rfl ?_
  refine Ex_aload_n dL_law_1114 rfl ?_
  refine Ex_iload_n dL_law_1115 rfl ?_
  refine Ex_iconst (v := nI 1) dL_law_1116 (by rfl) ?_
  first | with_reducible refine Ex_iaddN dL_law_1117 ?_ | refine Ex_iadd dL_law_1117 ?_
  refine Ex_scr hS dL_law_1118 rfl (by omega) hL ?_
  refine Ex_V1i dL_law_1119 sL_133 (ds_o hLI.1) (Nat.le_of_ble_eq_true rfl) (K_trim e hLI _) ?_
  rintro r J1 H1 ⟨hM1, h9⟩
  refine Ex_aload_n dL_law_1122 rfl ?_
  refine Ex_aload_n dL_law_1123 rfl ?_
  refine Ex_iload_n dL_law_1124 rfl ?_
  refine Ex_iconst (v := nI 1) dL_law_1125 (by rfl) ?_
  first | with_reducible refine Ex_iaddN dL_law_1126 ?_ | refine Ex_iadd dL_law_1126 ?_
  refine Ex_scr hS dL_law_1127 rfl (by omega) hL ?_
  refine Ex_V1i dL_law_1128 sL_136 hM1.1 (Nat.le_of_ble_eq_true rfl) (h9) ?_
  rintro _ J2 H2 ⟨rfl, hL2⟩
  refine Ex_icmp_eq (tgt := 1637) dL_law_1131 (by decide) (fun h1131 => ?_) (fun h1131 => ?_)
  · exact k _ _ hL2
  · exact absurd rfl h1131
set_option maxRecDepth 100000 in
set_option maxHeartbeats 4000000 in
theorem w_textTold {T : TC} {F : FinT} {J : MI} {H : MG} {b L D i : Nat} {xs : Nat → Int32} {bb : Nat × Nat} (e : Nat) (hS : FScr T F b L xs) (hLI : LI T D J H) (hi : i + 6 ≤ L) (hL : L < 2 ^ 31) (k : ∀ J H, LI T D J H → Ex T RL cL_law 4 (e + 101) F 1637 [some (.ref b), some (.ref D), some (.ref (D + 117)), some (.int (nI i))] [] J H bb) : Ex T RL cL_law 4 (e + 101) F 1149 [some (.ref b), some (.ref D), some (.ref (D + 117)), some (.int (nI i))] [] J H bb := by
  refine Ex_aload_n dL_law_1149 rfl ?_
  refine Ex_aload_n dL_law_1150 rfl ?_
  refine Ex_iload_n dL_law_1151 rfl ?_
  refine Ex_iconst (v := nI 1) dL_law_1152 (by rfl) ?_
  first | with_reducible refine Ex_iaddN dL_law_1153 ?_ | refine Ex_iadd dL_law_1153 ?_
  refine Ex_scr hS dL_law_1154 rfl (by omega) hL ?_
  refine Ex_aload_n dL_law_1155 rfl ?_
  refine Ex_iload_n dL_law_1156 rfl ?_
  refine Ex_iconst (v := nI 2) dL_law_1157 (by rfl) ?_
  first | with_reducible refine Ex_iaddN dL_law_1158 ?_ | refine Ex_iadd dL_law_1158 ?_
  refine Ex_scr hS dL_law_1159 rfl (by omega) hL ?_
  refine Ex_V2i dL_law_1160 sL_141 (ds_o hLI.1) (Nat.le_of_ble_eq_true rfl) (K_textTold e hLI _ _) ?_
  rintro r J1 H1 ⟨hM1, h9⟩
  refine Ex_aload_n dL_law_1163 rfl ?_
  refine Ex_aload_n dL_law_1164 rfl ?_
  refine Ex_iload_n dL_law_1165 rfl ?_
  refine Ex_iconst (v := nI 1) dL_law_1166 (by rfl) ?_
  first | with_reducible refine Ex_iaddN dL_law_1167 ?_ | refine Ex_iadd dL_law_1167 ?_
  refine Ex_scr hS dL_law_1168 rfl (by omega) hL ?_
  refine Ex_aload_n dL_law_1169 rfl ?_
  refine Ex_iload_n dL_law_1170 rfl ?_
  refine Ex_iconst (v := nI 2) dL_law_1171 (by rfl) ?_
  first | with_reducible refine Ex_iaddN dL_law_1172 ?_ | refine Ex_iadd dL_law_1172 ?_
  refine Ex_scr hS dL_law_1173 rfl (by omega) hL ?_
  refine Ex_V2i dL_law_1174 sL_144 hM1.1 (Nat.le_of_ble_eq_true rfl) (h9) ?_
  rintro _ J2 H2 ⟨rfl, hL2⟩
  refine Ex_icmp_eq (tgt := 1637) dL_law_1177 (by decide) (fun h1177 => ?_) (fun h1177 => ?_)
  · exact k _ _ hL2
  · exact absurd rfl h1177
set_option maxRecDepth 100000 in
set_option maxHeartbeats 4000000 in
theorem w_why {T : TC} {F : FinT} {J : MI} {H : MG} {b L D i : Nat} {xs : Nat → Int32} {bb : Nat × Nat} (e : Nat) (hS : FScr T F b L xs) (hLI : LI T D J H) (hi : i + 6 ≤ L) (hL : L < 2 ^ 31) (k : ∀ J H, LI T D J H → Ex T RL cL_law 4 (e + 101) F 1637 [some (.ref b), some (.ref D), some (.ref (D + 117)), some (.int (nI i))] [] J H bb) : Ex T RL cL_law 4 (e + 101) F 1182 [some (.ref b), some (.ref D), some (.ref (D + 117)), some (.int (nI i))] [] J H bb := by
  refine Ex_aload_n dL_law_1182 rfl ?_
  refine Ex_aload_n dL_law_1183 rfl ?_
  refine Ex_iload_n dL_law_1184 rfl ?_
  refine Ex_iconst (v := nI 1) dL_law_1185 (by rfl) ?_
  first | with_reducible refine Ex_iaddN dL_law_1186 ?_ | refine Ex_iadd dL_law_1186 ?_
  refine Ex_scr hS dL_law_1187 rfl (by omega) hL ?_
  refine Ex_V1i dL_law_1188 sL_145 (ds_o hLI.1) (Nat.le_of_ble_eq_true rfl) (K_why e hLI _) ?_
  rintro r J1 H1 ⟨hM1, h9⟩
  refine Ex_aload_n dL_law_1191 rfl ?_
  refine Ex_aload_n dL_law_1192 rfl ?_
  refine Ex_iload_n dL_law_1193 rfl ?_
  refine Ex_iconst (v := nI 1) dL_law_1194 (by rfl) ?_
  first | with_reducible refine Ex_iaddN dL_law_1195 ?_ | refine Ex_iadd dL_law_1195 ?_
  refine Ex_scr hS dL_law_1196 rfl (by omega) hL ?_
  refine Ex_V1i dL_law_1197 sL_148 hM1.1 (Nat.le_of_ble_eq_true rfl) (h9) ?_
  rintro _ J2 H2 ⟨rfl, hL2⟩
  refine Ex_icmp_eq (tgt := 1637) dL_law_1200 (by decide) (fun h1200 => ?_) (fun h1200 => ?_)
  · exact k _ _ hL2
  · exact absurd rfl h1200
set_option maxRecDepth 100000 in
set_option maxHeartbeats 4000000 in
theorem w_sheet {T : TC} {F : FinT} {J : MI} {H : MG} {b L D i : Nat} {xs : Nat → Int32} {bb : Nat × Nat} (e : Nat) (hS : FScr T F b L xs) (hLI : LI T D J H) (hi : i + 6 ≤ L) (hL : L < 2 ^ 31) (k : ∀ J H, LI T D J H → Ex T RL cL_law 4 (e + 101) F 1637 [some (.ref b), some (.ref D), some (.ref (D + 117)), some (.int (nI i))] [] J H bb) : Ex T RL cL_law 4 (e + 101) F 1205 [some (.ref b), some (.ref D), some (.ref (D + 117)), some (.int (nI i))] [] J H bb := by
  refine Ex_aload_n dL_law_1205 rfl ?_
  refine Ex_aload_n dL_law_1206 rfl ?_
  refine Ex_iload_n dL_law_1207 rfl ?_
  refine Ex_iconst (v := nI 1) dL_law_1208 (by rfl) ?_
  first | with_reducible refine Ex_iaddN dL_law_1209 ?_ | refine Ex_iadd dL_law_1209 ?_
  refine Ex_scr hS dL_law_1210 rfl (by omega) hL ?_
  refine Ex_aload_n dL_law_1211 rfl ?_
  refine Ex_iload_n dL_law_1212 rfl ?_
  refine Ex_iconst (v := nI 2) dL_law_1213 (by rfl) ?_
  first | with_reducible refine Ex_iaddN dL_law_1214 ?_ | refine Ex_iadd dL_law_1214 ?_
  refine Ex_scr hS dL_law_1215 rfl (by omega) hL ?_
  refine Ex_aload_n dL_law_1216 rfl ?_
  refine Ex_iload_n dL_law_1217 rfl ?_
  refine Ex_iconst (v := nI 3) dL_law_1218 (by rfl) ?_
  first | with_reducible refine Ex_iaddN dL_law_1219 ?_ | refine Ex_iadd dL_law_1219 ?_
  refine Ex_scr hS dL_law_1220 rfl (by omega) hL ?_
  refine Ex_V3i dL_law_1221 sL_149 (ds_o hLI.1) (Nat.le_of_ble_eq_true rfl) (K_sheet e hLI _ _ _) ?_
  rintro r J1 H1 ⟨hM1, h9⟩
  refine Ex_aload_n dL_law_1224 rfl ?_
  refine Ex_aload_n dL_law_1225 rfl ?_
  refine Ex_iload_n dL_law_1226 rfl ?_
  refine Ex_iconst (v := nI 1) dL_law_1227 (by rfl) ?_
  first | with_reducible refine Ex_iaddN dL_law_1228 ?_ | refine Ex_iadd dL_law_1228 ?_
  refine Ex_scr hS dL_law_1229 rfl (by omega) hL ?_
  refine Ex_aload_n dL_law_1230 rfl ?_
  refine Ex_iload_n dL_law_1231 rfl ?_
  refine Ex_iconst (v := nI 2) dL_law_1232 (by rfl) ?_
  first | with_reducible refine Ex_iaddN dL_law_1233 ?_ | refine Ex_iadd dL_law_1233 ?_
  refine Ex_scr hS dL_law_1234 rfl (by omega) hL ?_
  refine Ex_aload_n dL_law_1235 rfl ?_
  refine Ex_iload_n dL_law_1236 rfl ?_
  refine Ex_iconst (v := nI 3) dL_law_1237 (by rfl) ?_
  first | with_reducible refine Ex_iaddN dL_law_1238 ?_ | refine Ex_iadd dL_law_1238 ?_
  refine Ex_scr hS dL_law_1239 rfl (by omega) hL ?_
  refine Ex_V3i dL_law_1240 sL_152 hM1.1 (Nat.le_of_ble_eq_true rfl) (h9) ?_
  rintro _ J2 H2 ⟨rfl, hL2⟩
  refine Ex_icmp_eq (tgt := 1637) dL_law_1243 (by decide) (fun h1243 => ?_) (fun h1243 => ?_)
  · exact k _ _ hL2
  · exact absurd rfl h1243
set_option maxRecDepth 100000 in
set_option maxHeartbeats 4000000 in
theorem w_mark {T : TC} {F : FinT} {J : MI} {H : MG} {b L D i : Nat} {xs : Nat → Int32} {bb : Nat × Nat} (e : Nat) (hS : FScr T F b L xs) (hLI : LI T D J H) (hi : i + 6 ≤ L) (hL : L < 2 ^ 31) (k : ∀ J H, LI T D J H → Ex T RL cL_law 4 (e + 101) F 1637 [some (.ref b), some (.ref D), some (.ref (D + 117)), some (.int (nI i))] [] J H bb) : Ex T RL cL_law 4 (e + 101) F 1248 [some (.ref b), some (.ref D), some (.ref (D + 117)), some (.int (nI i))] [] J H bb := by
  refine Ex_aload_n dL_law_1248 rfl ?_
  refine Ex_aload_n dL_law_1249 rfl ?_
  refine Ex_iload_n dL_law_1250 rfl ?_
  refine Ex_iconst (v := nI 1) dL_law_1251 (by rfl) ?_
  first | with_reducible refine Ex_iaddN dL_law_1252 ?_ | refine Ex_iadd dL_law_1252 ?_
  refine Ex_scr hS dL_law_1253 rfl (by omega) hL ?_
  refine Ex_aload_n dL_law_1254 rfl ?_
  refine Ex_iload_n dL_law_1255 rfl ?_
  refine Ex_iconst (v := nI 2) dL_law_1256 (by rfl) ?_
  first | with_reducible refine Ex_iaddN dL_law_1257 ?_ | refine Ex_iadd dL_law_1257 ?_
  refine Ex_scr hS dL_law_1258 rfl (by omega) hL ?_
  refine Ex_aload_n dL_law_1259 rfl ?_
  refine Ex_iload_n dL_law_1260 rfl ?_
  refine Ex_iconst (v := nI 3) dL_law_1261 (by rfl) ?_
  first | with_reducible refine Ex_iaddN dL_law_1262 ?_ | refine Ex_iadd dL_law_1262 ?_
  refine Ex_scr hS dL_law_1263 rfl (by omega) hL ?_
  refine Ex_V3i dL_law_1264 sL_153 (ds_o hLI.1) (Nat.le_of_ble_eq_true rfl) (K_mark e hLI _ _ _) ?_
  rintro r J1 H1 ⟨hM1, h9⟩
  refine Ex_aload_n dL_law_1267 rfl ?_
  refine Ex_aload_n dL_law_1268 rfl ?_
  refine Ex_iload_n dL_law_1269 rfl ?_
  refine Ex_iconst (v := nI 1) dL_law_1270 (by rfl) ?_
  first | with_reducible refine Ex_iaddN dL_law_1271 ?_ | refine Ex_iadd dL_law_1271 ?_
  refine Ex_scr hS dL_law_1272 rfl (by omega) hL ?_
  refine Ex_aload_n dL_law_1273 rfl ?_
  refine Ex_iload_n dL_law_1274 rfl ?_
  refine Ex_iconst (v := nI 2) dL_law_1275 (by rfl) ?_
  first | with_reducible refine Ex_iaddN dL_law_1276 ?_ | refine Ex_iadd dL_law_1276 ?_
  refine Ex_scr hS dL_law_1277 rfl (by omega) hL ?_
  refine Ex_aload_n dL_law_1278 rfl ?_
  refine Ex_iload_n dL_law_1279 rfl ?_
  refine Ex_iconst (v := nI 3) dL_law_1280 (by rfl) ?_
  first | with_reducible refine Ex_iaddN dL_law_1281 ?_ | refine Ex_iadd dL_law_1281 ?_
  refine Ex_scr hS dL_law_1282 rfl (by omega) hL ?_
  refine Ex_V3i dL_law_1283 sL_156 hM1.1 (Nat.le_of_ble_eq_true rfl) (h9) ?_
  rintro _ J2 H2 ⟨rfl, hL2⟩
  refine Ex_icmp_eq (tgt := 1637) dL_law_1286 (by decide) (fun h1286 => ?_) (fun h1286 => ?_)
  · exact k _ _ hL2
  · exact absurd rfl h1286
set_option maxRecDepth 100000 in
set_option maxHeartbeats 4000000 in
theorem w_pour {T : TC} {F : FinT} {J : MI} {H : MG} {b L D i : Nat} {xs : Nat → Int32} {bb : Nat × Nat} (e : Nat) (hS : FScr T F b L xs) (hLI : LI T D J H) (hi : i + 6 ≤ L) (hL : L < 2 ^ 31) (k : ∀ J H, LI T D J H → Ex T RL cL_law 4 (e + 101) F 1637 [some (.ref b), some (.ref D), some (.ref (D + 117)), some (.int (nI i))] [] J H bb) : Ex T RL cL_law 4 (e + 101) F 1291 [some (.ref b), some (.ref D), some (.ref (D + 117)), some (.int (nI i))] [] J H bb := by
  refine Ex_aload_n dL_law_1291 rfl ?_
  refine Ex_aload_n dL_law_1292 rfl ?_
  refine Ex_iload_n dL_law_1293 rfl ?_
  refine Ex_iconst (v := nI 1) dL_law_1294 (by rfl) ?_
  first | with_reducible refine Ex_iaddN dL_law_1295 ?_ | refine Ex_iadd dL_law_1295 ?_
  refine Ex_scr hS dL_law_1296 rfl (by omega) hL ?_
  refine Ex_V1i dL_law_1297 sL_157 (ds_o hLI.1) (Nat.le_of_ble_eq_true rfl) (K_pour e hLI _) ?_
  rintro r J1 H1 ⟨hM1, h9⟩
  refine Ex_aload_n dL_law_1300 rfl ?_
  refine Ex_aload_n dL_law_1301 rfl ?_
  refine Ex_iload_n dL_law_1302 rfl ?_
  refine Ex_iconst (v := nI 1) dL_law_1303 (by rfl) ?_
  first | with_reducible refine Ex_iaddN dL_law_1304 ?_ | refine Ex_iadd dL_law_1304 ?_
  refine Ex_scr hS dL_law_1305 rfl (by omega) hL ?_
  refine Ex_V1i dL_law_1306 sL_160 hM1.1 (Nat.le_of_ble_eq_true rfl) (h9) ?_
  rintro _ J2 H2 ⟨rfl, hL2⟩
  refine Ex_icmp_eq (tgt := 1637) dL_law_1309 (by decide) (fun h1309 => ?_) (fun h1309 => ?_)
  · exact k _ _ hL2
  · exact absurd rfl h1309
set_option maxRecDepth 100000 in
set_option maxHeartbeats 4000000 in
theorem w_reads {T : TC} {F : FinT} {J : MI} {H : MG} {b L D i : Nat} {xs : Nat → Int32} {bb : Nat × Nat} (e : Nat) (hS : FScr T F b L xs) (hLI : LI T D J H) (hi : i + 6 ≤ L) (hL : L < 2 ^ 31) (k : ∀ J H, LI T D J H → Ex T RL cL_law 4 (e + 101) F 1637 [some (.ref b), some (.ref D), some (.ref (D + 117)), some (.int (nI i))] [] J H bb) : Ex T RL cL_law 4 (e + 101) F 1314 [some (.ref b), some (.ref D), some (.ref (D + 117)), some (.int (nI i))] [] J H bb := by
  refine Ex_aload_n dL_law_1314 rfl ?_
  refine Ex_aload_n dL_law_1315 rfl ?_
  refine Ex_iload_n dL_law_1316 rfl ?_
  refine Ex_iconst (v := nI 1) dL_law_1317 (by rfl) ?_
  first | with_reducible refine Ex_iaddN dL_law_1318 ?_ | refine Ex_iadd dL_law_1318 ?_
  refine Ex_scr hS dL_law_1319 rfl (by omega) hL ?_
  refine Ex_V1i dL_law_1320 sL_161 (ds_o hLI.1) (Nat.le_of_ble_eq_true rfl) (K_reads e hLI _) ?_
  rintro r J1 H1 ⟨hM1, h9⟩
  refine Ex_aload_n dL_law_1323 rfl ?_
  refine Ex_aload_n dL_law_1324 rfl ?_
  refine Ex_iload_n dL_law_1325 rfl ?_
  refine Ex_iconst (v := nI 1) dL_law_1326 (by rfl) ?_
  first | with_reducible refine Ex_iaddN dL_law_1327 ?_ | refine Ex_iadd dL_law_1327 ?_
  refine Ex_scr hS dL_law_1328 rfl (by omega) hL ?_
  refine Ex_V1i dL_law_1329 sL_164 hM1.1 (Nat.le_of_ble_eq_true rfl) (h9) ?_
  rintro _ J2 H2 ⟨rfl, hL2⟩
  refine Ex_icmp_eq (tgt := 1637) dL_law_1332 (by decide) (fun h1332 => ?_) (fun h1332 => ?_)
  · exact k _ _ hL2
  · exact absurd rfl h1332
set_option maxRecDepth 100000 in
set_option maxHeartbeats 4000000 in
theorem w_copy {T : TC} {F : FinT} {J : MI} {H : MG} {b L D i : Nat} {xs : Nat → Int32} {bb : Nat × Nat} (e : Nat) (hS : FScr T F b L xs) (hLI : LI T D J H) (hi : i + 6 ≤ L) (hL : L < 2 ^ 31) (k : ∀ J H, LI T D J H → Ex T RL cL_law 4 (e + 101) F 1637 [some (.ref b), some (.ref D), some (.ref (D + 117)), some (.int (nI i))] [] J H bb) : Ex T RL cL_law 4 (e + 101) F 1337 [some (.ref b), some (.ref D), some (.ref (D + 117)), some (.int (nI i))] [] J H bb := by
  refine Ex_aload_n dL_law_1337 rfl ?_
  refine Ex_aload_n dL_law_1338 rfl ?_
  refine Ex_iload_n dL_law_1339 rfl ?_
  refine Ex_iconst (v := nI 1) dL_law_1340 (by rfl) ?_
  first | with_reducible refine Ex_iaddN dL_law_1341 ?_ | refine Ex_iadd dL_law_1341 ?_
  refine Ex_scr hS dL_law_1342 rfl (by omega) hL ?_
  refine Ex_aload_n dL_law_1343 rfl ?_
  refine Ex_iload_n dL_law_1344 rfl ?_
  refine Ex_iconst (v := nI 2) dL_law_1345 (by rfl) ?_
  first | with_reducible refine Ex_iaddN dL_law_1346 ?_ | refine Ex_iadd dL_law_1346 ?_
  refine Ex_scr hS dL_law_1347 rfl (by omega) hL ?_
  refine Ex_aload_n dL_law_1348 rfl ?_
  refine Ex_iload_n dL_law_1349 rfl ?_
  refine Ex_iconst (v := nI 3) dL_law_1350 (by rfl) ?_
  first | with_reducible refine Ex_iaddN dL_law_1351 ?_ | refine Ex_iadd dL_law_1351 ?_
  refine Ex_scr hS dL_law_1352 rfl (by omega) hL ?_
  refine Ex_aload_n dL_law_1353 rfl ?_
  refine Ex_iload_n dL_law_1354 rfl ?_
  refine Ex_iconst (v := nI 4) dL_law_1355 (by rfl) ?_
  first | with_reducible refine Ex_iaddN dL_law_1356 ?_ | refine Ex_iadd dL_law_1356 ?_
  refine Ex_scr hS dL_law_1357 rfl (by omega) hL ?_
  refine Ex_aload_n dL_law_1358 rfl ?_
  refine Ex_iload_n dL_law_1359 rfl ?_
  refine Ex_iconst (v := nI 5) dL_law_1360 (by rfl) ?_
  first | with_reducible refine Ex_iaddN dL_law_1361 ?_ | refine Ex_iadd dL_law_1361 ?_
  refine Ex_scr hS dL_law_1362 rfl (by omega) hL ?_
  refine Ex_V5i dL_law_1363 sL_165 (ds_o hLI.1) (Nat.le_of_ble_eq_true rfl) (K_copy e hLI _ _ _ _ _) ?_
  rintro r J1 H1 ⟨hM1, h9⟩
  refine Ex_aload_n dL_law_1366 rfl ?_
  refine Ex_aload_n dL_law_1367 rfl ?_
  refine Ex_iload_n dL_law_1368 rfl ?_
  refine Ex_iconst (v := nI 1) dL_law_1369 (by rfl) ?_
  first | with_reducible refine Ex_iaddN dL_law_1370 ?_ | refine Ex_iadd dL_law_1370 ?_
  refine Ex_scr hS dL_law_1371 rfl (by omega) hL ?_
  refine Ex_aload_n dL_law_1372 rfl ?_
  refine Ex_iload_n dL_law_1373 rfl ?_
  refine Ex_iconst (v := nI 2) dL_law_1374 (by rfl) ?_
  first | with_reducible refine Ex_iaddN dL_law_1375 ?_ | refine Ex_iadd dL_law_1375 ?_
  refine Ex_scr hS dL_law_1376 rfl (by omega) hL ?_
  refine Ex_aload_n dL_law_1377 rfl ?_
  refine Ex_iload_n dL_law_1378 rfl ?_
  refine Ex_iconst (v := nI 3) dL_law_1379 (by rfl) ?_
  first | with_reducible refine Ex_iaddN dL_law_1380 ?_ | refine Ex_iadd dL_law_1380 ?_
  refine Ex_scr hS dL_law_1381 rfl (by omega) hL ?_
  refine Ex_aload_n dL_law_1382 rfl ?_
  refine Ex_iload_n dL_law_1383 rfl ?_
  refine Ex_iconst (v := nI 4) dL_law_1384 (by rfl) ?_
  first | with_reducible refine Ex_iaddN dL_law_1385 ?_ | refine Ex_iadd dL_law_1385 ?_
  refine Ex_scr hS dL_law_1386 rfl (by omega) hL ?_
  refine Ex_aload_n dL_law_1387 rfl ?_
  refine Ex_iload_n dL_law_1388 rfl ?_
  refine Ex_iconst (v := nI 5) dL_law_1389 (by rfl) ?_
  first | with_reducible refine Ex_iaddN dL_law_1390 ?_ | refine Ex_iadd dL_law_1390 ?_
  refine Ex_scr hS dL_law_1391 rfl (by omega) hL ?_
  refine Ex_V5i dL_law_1392 sL_169 hM1.1 (Nat.le_of_ble_eq_true rfl) (h9) ?_
  rintro _ J2 H2 ⟨rfl, hL2⟩
  refine Ex_icmp_eq (tgt := 1637) dL_law_1395 (by decide) (fun h1395 => ?_) (fun h1395 => ?_)
  · exact k _ _ hL2
  · exact absurd rfl h1395
set_option maxRecDepth 100000 in
set_option maxHeartbeats 4000000 in
theorem w_lay {T : TC} {F : FinT} {J : MI} {H : MG} {b L D i : Nat} {xs : Nat → Int32} {bb : Nat × Nat} (e : Nat) (hS : FScr T F b L xs) (hLI : LI T D J H) (hi : i + 6 ≤ L) (hL : L < 2 ^ 31) (k : ∀ J H, LI T D J H → Ex T RL cL_law 4 (e + 101) F 1637 [some (.ref b), some (.ref D), some (.ref (D + 117)), some (.int (nI i))] [] J H bb) : Ex T RL cL_law 4 (e + 101) F 1400 [some (.ref b), some (.ref D), some (.ref (D + 117)), some (.int (nI i))] [] J H bb := by
  refine Ex_aload_n dL_law_1400 rfl ?_
  refine Ex_aload_n dL_law_1401 rfl ?_
  refine Ex_iload_n dL_law_1402 rfl ?_
  refine Ex_iconst (v := nI 1) dL_law_1403 (by rfl) ?_
  first | with_reducible refine Ex_iaddN dL_law_1404 ?_ | refine Ex_iadd dL_law_1404 ?_
  refine Ex_scr hS dL_law_1405 rfl (by omega) hL ?_
  refine Ex_aload_n dL_law_1406 rfl ?_
  refine Ex_iload_n dL_law_1407 rfl ?_
  refine Ex_iconst (v := nI 2) dL_law_1408 (by rfl) ?_
  first | with_reducible refine Ex_iaddN dL_law_1409 ?_ | refine Ex_iadd dL_law_1409 ?_
  refine Ex_scr hS dL_law_1410 rfl (by omega) hL ?_
  refine Ex_aload_n dL_law_1411 rfl ?_
  refine Ex_iload_n dL_law_1412 rfl ?_
  refine Ex_iconst (v := nI 3) dL_law_1413 (by rfl) ?_
  first | with_reducible refine Ex_iaddN dL_law_1414 ?_ | refine Ex_iadd dL_law_1414 ?_
  refine Ex_scr hS dL_law_1415 rfl (by omega) hL ?_
  refine Ex_V3i dL_law_1416 sL_170 (ds_o hLI.1) (Nat.le_of_ble_eq_true rfl) (K_lay e hLI _ _ _) ?_
  rintro r J1 H1 ⟨hM1, h9⟩
  refine Ex_aload_n dL_law_1419 rfl ?_
  refine Ex_aload_n dL_law_1420 rfl ?_
  refine Ex_iload_n dL_law_1421 rfl ?_
  refine Ex_iconst (v := nI 1) dL_law_1422 (by rfl) ?_
  first | with_reducible refine Ex_iaddN dL_law_1423 ?_ | refine Ex_iadd dL_law_1423 ?_
  refine Ex_scr hS dL_law_1424 rfl (by omega) hL ?_
  refine Ex_aload_n dL_law_1425 rfl ?_
  refine Ex_iload_n dL_law_1426 rfl ?_
  refine Ex_iconst (v := nI 2) dL_law_1427 (by rfl) ?_
  first | with_reducible refine Ex_iaddN dL_law_1428 ?_ | refine Ex_iadd dL_law_1428 ?_
  refine Ex_scr hS dL_law_1429 rfl (by omega) hL ?_
  refine Ex_aload_n dL_law_1430 rfl ?_
  refine Ex_iload_n dL_law_1431 rfl ?_
  refine Ex_iconst (v := nI 3) dL_law_1432 (by rfl) ?_
  first | with_reducible refine Ex_iaddN dL_law_1433 ?_ | refine Ex_iadd dL_law_1433 ?_
  refine Ex_scr hS dL_law_1434 rfl (by omega) hL ?_
  refine Ex_V3i dL_law_1435 sL_173 hM1.1 (Nat.le_of_ble_eq_true rfl) (h9) ?_
  rintro _ J2 H2 ⟨rfl, hL2⟩
  refine Ex_icmp_eq (tgt := 1637) dL_law_1438 (by decide) (fun h1438 => ?_) (fun h1438 => ?_)
  · exact k _ _ hL2
  · exact absurd rfl h1438
set_option maxRecDepth 100000 in
set_option maxHeartbeats 4000000 in
theorem w_ask {T : TC} {F : FinT} {J : MI} {H : MG} {b L D i : Nat} {xs : Nat → Int32} {bb : Nat × Nat} (e : Nat) (hS : FScr T F b L xs) (hLI : LI T D J H) (hi : i + 6 ≤ L) (hL : L < 2 ^ 31) (k : ∀ J H, LI T D J H → Ex T RL cL_law 4 (e + 101) F 1637 [some (.ref b), some (.ref D), some (.ref (D + 117)), some (.int (nI i))] [] J H bb) : Ex T RL cL_law 4 (e + 101) F 1443 [some (.ref b), some (.ref D), some (.ref (D + 117)), some (.int (nI i))] [] J H bb := by
  refine Ex_aload_n dL_law_1443 rfl ?_
  refine Ex_aload_n dL_law_1444 rfl ?_
  refine Ex_iload_n dL_law_1445 rfl ?_
  refine Ex_iconst (v := nI 1) dL_law_1446 (by rfl) ?_
  first | with_reducible refine Ex_iaddN dL_law_1447 ?_ | refine Ex_iadd dL_law_1447 ?_
  refine Ex_scr hS dL_law_1448 rfl (by omega) hL ?_
  refine Ex_aload_n dL_law_1449 rfl ?_
  refine Ex_iload_n dL_law_1450 rfl ?_
  refine Ex_iconst (v := nI 2) dL_law_1451 (by rfl) ?_
  first | with_reducible refine Ex_iaddN dL_law_1452 ?_ | refine Ex_iadd dL_law_1452 ?_
  refine Ex_scr hS dL_law_1453 rfl (by omega) hL ?_
  refine Ex_V2i dL_law_1454 sL_174 (ds_o hLI.1) (Nat.le_of_ble_eq_true rfl) (K_ask e hLI _ _) ?_
  rintro r J1 H1 ⟨hM1, h9⟩
  refine Ex_aload_n dL_law_1457 rfl ?_
  refine Ex_aload_n dL_law_1458 rfl ?_
  refine Ex_iload_n dL_law_1459 rfl ?_
  refine Ex_iconst (v := nI 1) dL_law_1460 (by rfl) ?_
  first | with_reducible refine Ex_iaddN dL_law_1461 ?_ | refine Ex_iadd dL_law_1461 ?_
  refine Ex_scr hS dL_law_1462 rfl (by omega) hL ?_
  refine Ex_aload_n dL_law_1463 rfl ?_
  refine Ex_iload_n dL_law_1464 rfl ?_
  refine Ex_iconst (v := nI 2) dL_law_1465 (by rfl) ?_
  first | with_reducible refine Ex_iaddN dL_law_1466 ?_ | refine Ex_iadd dL_law_1466 ?_
  refine Ex_scr hS dL_law_1467 rfl (by omega) hL ?_
  refine Ex_V2i dL_law_1468 sL_177 hM1.1 (Nat.le_of_ble_eq_true rfl) (h9) ?_
  rintro _ J2 H2 ⟨rfl, hL2⟩
  refine Ex_icmp_eq (tgt := 1637) dL_law_1471 (by decide) (fun h1471 => ?_) (fun h1471 => ?_)
  · exact k _ _ hL2
  · exact absurd rfl h1471
set_option maxRecDepth 100000 in
set_option maxHeartbeats 4000000 in
theorem w_item {T : TC} {F : FinT} {J : MI} {H : MG} {b L D i : Nat} {xs : Nat → Int32} {bb : Nat × Nat} (e : Nat) (hS : FScr T F b L xs) (hLI : LI T D J H) (hi : i + 6 ≤ L) (hL : L < 2 ^ 31) (k : ∀ J H, LI T D J H → Ex T RL cL_law 4 (e + 101) F 1637 [some (.ref b), some (.ref D), some (.ref (D + 117)), some (.int (nI i))] [] J H bb) : Ex T RL cL_law 4 (e + 101) F 1476 [some (.ref b), some (.ref D), some (.ref (D + 117)), some (.int (nI i))] [] J H bb := by
  refine Ex_aload_n dL_law_1476 rfl ?_
  refine Ex_aload_n dL_law_1477 rfl ?_
  refine Ex_iload_n dL_law_1478 rfl ?_
  refine Ex_iconst (v := nI 1) dL_law_1479 (by rfl) ?_
  first | with_reducible refine Ex_iaddN dL_law_1480 ?_ | refine Ex_iadd dL_law_1480 ?_
  refine Ex_scr hS dL_law_1481 rfl (by omega) hL ?_
  refine Ex_aload_n dL_law_1482 rfl ?_
  refine Ex_iload_n dL_law_1483 rfl ?_
  refine Ex_iconst (v := nI 2) dL_law_1484 (by rfl) ?_
  first | with_reducible refine Ex_iaddN dL_law_1485 ?_ | refine Ex_iadd dL_law_1485 ?_
  refine Ex_scr hS dL_law_1486 rfl (by omega) hL ?_
  refine Ex_V2i dL_law_1487 sL_178 (ds_o hLI.1) (Nat.le_of_ble_eq_true rfl) (K_item e hLI _ _) ?_
  rintro r J1 H1 ⟨hM1, h9⟩
  refine Ex_aload_n dL_law_1490 rfl ?_
  refine Ex_aload_n dL_law_1491 rfl ?_
  refine Ex_iload_n dL_law_1492 rfl ?_
  refine Ex_iconst (v := nI 1) dL_law_1493 (by rfl) ?_
  first | with_reducible refine Ex_iaddN dL_law_1494 ?_ | refine Ex_iadd dL_law_1494 ?_
  refine Ex_scr hS dL_law_1495 rfl (by omega) hL ?_
  refine Ex_aload_n dL_law_1496 rfl ?_
  refine Ex_iload_n dL_law_1497 rfl ?_
  refine Ex_iconst (v := nI 2) dL_law_1498 (by rfl) ?_
  first | with_reducible refine Ex_iaddN dL_law_1499 ?_ | refine Ex_iadd dL_law_1499 ?_
  refine Ex_scr hS dL_law_1500 rfl (by omega) hL ?_
  refine Ex_V2i dL_law_1501 sL_181 hM1.1 (Nat.le_of_ble_eq_true rfl) (h9) ?_
  rintro _ J2 H2 ⟨rfl, hL2⟩
  refine Ex_icmp_eq (tgt := 1637) dL_law_1504 (by decide) (fun h1504 => ?_) (fun h1504 => ?_)
  · exact k _ _ hL2
  · exact absurd rfl h1504
set_option maxRecDepth 100000 in
set_option maxHeartbeats 4000000 in
theorem w_rest {T : TC} {F : FinT} {J : MI} {H : MG} {b L D i : Nat} {xs : Nat → Int32} {bb : Nat × Nat} (e : Nat) (hS : FScr T F b L xs) (hLI : LI T D J H) (hi : i + 6 ≤ L) (hL : L < 2 ^ 31) (k : ∀ J H, LI T D J H → Ex T RL cL_law 4 (e + 101) F 1637 [some (.ref b), some (.ref D), some (.ref (D + 117)), some (.int (nI i))] [] J H bb) : Ex T RL cL_law 4 (e + 101) F 1509 [some (.ref b), some (.ref D), some (.ref (D + 117)), some (.int (nI i))] [] J H bb := by
  refine Ex_aload_n dL_law_1509 rfl ?_
  refine Ex_aload_n dL_law_1510 rfl ?_
  refine Ex_iload_n dL_law_1511 rfl ?_
  refine Ex_iconst (v := nI 1) dL_law_1512 (by rfl) ?_
  first | with_reducible refine Ex_iaddN dL_law_1513 ?_ | refine Ex_iadd dL_law_1513 ?_
  refine Ex_scr hS dL_law_1514 rfl (by omega) hL ?_
  refine Ex_aload_n dL_law_1515 rfl ?_
  refine Ex_iload_n dL_law_1516 rfl ?_
  refine Ex_iconst (v := nI 2) dL_law_1517 (by rfl) ?_
  first | with_reducible refine Ex_iaddN dL_law_1518 ?_ | refine Ex_iadd dL_law_1518 ?_
  refine Ex_scr hS dL_law_1519 rfl (by omega) hL ?_
  refine Ex_V2i dL_law_1520 sL_182 (ds_o hLI.1) (Nat.le_of_ble_eq_true rfl) (K_rest e hLI _ _) ?_
  rintro r J1 H1 ⟨hM1, h9⟩
  refine Ex_aload_n dL_law_1523 rfl ?_
  refine Ex_aload_n dL_law_1524 rfl ?_
  refine Ex_iload_n dL_law_1525 rfl ?_
  refine Ex_iconst (v := nI 1) dL_law_1526 (by rfl) ?_
  first | with_reducible refine Ex_iaddN dL_law_1527 ?_ | refine Ex_iadd dL_law_1527 ?_
  refine Ex_scr hS dL_law_1528 rfl (by omega) hL ?_
  refine Ex_aload_n dL_law_1529 rfl ?_
  refine Ex_iload_n dL_law_1530 rfl ?_
  refine Ex_iconst (v := nI 2) dL_law_1531 (by rfl) ?_
  first | with_reducible refine Ex_iaddN dL_law_1532 ?_ | refine Ex_iadd dL_law_1532 ?_
  refine Ex_scr hS dL_law_1533 rfl (by omega) hL ?_
  refine Ex_V2i dL_law_1534 sL_185 hM1.1 (Nat.le_of_ble_eq_true rfl) (h9) ?_
  rintro _ J2 H2 ⟨rfl, hL2⟩
  refine Ex_icmp_eq (tgt := 1637) dL_law_1537 (by decide) (fun h1537 => ?_) (fun h1537 => ?_)
  · exact k _ _ hL2
  · exact absurd rfl h1537
set_option maxRecDepth 100000 in
set_option maxHeartbeats 4000000 in
theorem w_tell {T : TC} {F : FinT} {J : MI} {H : MG} {b L D i : Nat} {xs : Nat → Int32} {bb : Nat × Nat} (e : Nat) (hS : FScr T F b L xs) (hLI : LI T D J H) (hi : i + 6 ≤ L) (hL : L < 2 ^ 31) (k : ∀ J H, LI T D J H → Ex T RL cL_law 4 (e + 101) F 1637 [some (.ref b), some (.ref D), some (.ref (D + 117)), some (.int (nI i))] [] J H bb) : Ex T RL cL_law 4 (e + 101) F 1542 [some (.ref b), some (.ref D), some (.ref (D + 117)), some (.int (nI i))] [] J H bb := by
  refine Ex_aload_n dL_law_1542 rfl ?_
  refine Ex_aload_n dL_law_1543 rfl ?_
  refine Ex_iload_n dL_law_1544 rfl ?_
  refine Ex_iconst (v := nI 1) dL_law_1545 (by rfl) ?_
  first | with_reducible refine Ex_iaddN dL_law_1546 ?_ | refine Ex_iadd dL_law_1546 ?_
  refine Ex_scr hS dL_law_1547 rfl (by omega) hL ?_
  refine Ex_V1i dL_law_1548 sL_186 (ds_o hLI.1) (Nat.le_of_ble_eq_true rfl) (K_tell e hLI _) ?_
  rintro r J1 H1 ⟨hM1, h9⟩
  refine Ex_aload_n dL_law_1551 rfl ?_
  refine Ex_aload_n dL_law_1552 rfl ?_
  refine Ex_iload_n dL_law_1553 rfl ?_
  refine Ex_iconst (v := nI 1) dL_law_1554 (by rfl) ?_
  first | with_reducible refine Ex_iaddN dL_law_1555 ?_ | refine Ex_iadd dL_law_1555 ?_
  refine Ex_scr hS dL_law_1556 rfl (by omega) hL ?_
  refine Ex_V1i dL_law_1557 sL_189 hM1.1 (Nat.le_of_ble_eq_true rfl) (h9) ?_
  rintro _ J2 H2 ⟨rfl, hL2⟩
  refine Ex_icmp_eq (tgt := 1637) dL_law_1560 (by decide) (fun h1560 => ?_) (fun h1560 => ?_)
  · exact k _ _ hL2
  · exact absurd rfl h1560
set_option maxRecDepth 100000 in
set_option maxHeartbeats 4000000 in
theorem w_check {T : TC} {F : FinT} {J : MI} {H : MG} {b L D i : Nat} {xs : Nat → Int32} {bb : Nat × Nat} (e : Nat) (hS : FScr T F b L xs) (hLI : LI T D J H) (hi : i + 6 ≤ L) (hL : L < 2 ^ 31) (k : ∀ J H, LI T D J H → Ex T RL cL_law 4 (e + 101) F 1637 [some (.ref b), some (.ref D), some (.ref (D + 117)), some (.int (nI i))] [] J H bb) : Ex T RL cL_law 4 (e + 101) F 1565 [some (.ref b), some (.ref D), some (.ref (D + 117)), some (.int (nI i))] [] J H bb := by
  refine Ex_aload_n dL_law_1565 rfl ?_
  refine Ex_aload_n dL_law_1566 rfl ?_
  refine Ex_iload_n dL_law_1567 rfl ?_
  refine Ex_iconst (v := nI 1) dL_law_1568 (by rfl) ?_
  first | with_reducible refine Ex_iaddN dL_law_1569 ?_ | refine Ex_iadd dL_law_1569 ?_
  refine Ex_scr hS dL_law_1570 rfl (by omega) hL ?_
  refine Ex_V1i dL_law_1571 sL_190 (ds_o hLI.1) (Nat.le_of_ble_eq_true rfl) (K_check e hLI _) ?_
  rintro r J1 H1 ⟨hM1, h9⟩
  refine Ex_aload_n dL_law_1574 rfl ?_
  refine Ex_aload_n dL_law_1575 rfl ?_
  refine Ex_iload_n dL_law_1576 rfl ?_
  refine Ex_iconst (v := nI 1) dL_law_1577 (by rfl) ?_
  first | with_reducible refine Ex_iaddN dL_law_1578 ?_ | refine Ex_iadd dL_law_1578 ?_
  refine Ex_scr hS dL_law_1579 rfl (by omega) hL ?_
  refine Ex_V1i dL_law_1580 sL_193 hM1.1 (Nat.le_of_ble_eq_true rfl) (h9) ?_
  rintro _ J2 H2 ⟨rfl, hL2⟩
  refine Ex_icmp_eq (tgt := 1637) dL_law_1583 (by decide) (fun h1583 => ?_) (fun h1583 => ?_)
  · exact k _ _ hL2
  · exact absurd rfl h1583
set_option maxRecDepth 100000 in
set_option maxHeartbeats 4000000 in
theorem w_keep {T : TC} {F : FinT} {J : MI} {H : MG} {b L D i : Nat} {xs : Nat → Int32} {bb : Nat × Nat} (e : Nat) (hS : FScr T F b L xs) (hLI : LI T D J H) (hi : i + 6 ≤ L) (hL : L < 2 ^ 31) (k : ∀ J H, LI T D J H → Ex T RL cL_law 4 (e + 101) F 1637 [some (.ref b), some (.ref D), some (.ref (D + 117)), some (.int (nI i))] [] J H bb) : Ex T RL cL_law 4 (e + 101) F 1588 [some (.ref b), some (.ref D), some (.ref (D + 117)), some (.int (nI i))] [] J H bb := by
  refine Ex_aload_n dL_law_1588 rfl ?_
  refine Ex_V0i dL_law_1589 sL_194 (ds_o hLI.1) (Nat.le_of_ble_eq_true rfl) (K_keep e hLI) ?_
  rintro r J1 H1 ⟨hM1, h9⟩
  refine Ex_aload_n dL_law_1592 rfl ?_
  refine Ex_V0i dL_law_1593 sL_197 hM1.1 (Nat.le_of_ble_eq_true rfl) (h9) ?_
  rintro _ J2 H2 ⟨rfl, hL2⟩
  refine Ex_icmp_eq (tgt := 1637) dL_law_1596 (by decide) (fun h1596 => ?_) (fun h1596 => ?_)
  · exact k _ _ hL2
  · exact absurd rfl h1596
set_option maxRecDepth 100000 in
set_option maxHeartbeats 4000000 in
theorem w_back {T : TC} {F : FinT} {J : MI} {H : MG} {b L D i : Nat} {xs : Nat → Int32} {bb : Nat × Nat} (e : Nat) (hS : FScr T F b L xs) (hLI : LI T D J H) (hi : i + 6 ≤ L) (hL : L < 2 ^ 31) (k : ∀ J H, LI T D J H → Ex T RL cL_law 4 (e + 101) F 1637 [some (.ref b), some (.ref D), some (.ref (D + 117)), some (.int (nI i))] [] J H bb) : Ex T RL cL_law 4 (e + 101) F 1601 [some (.ref b), some (.ref D), some (.ref (D + 117)), some (.int (nI i))] [] J H bb := by
  refine Ex_aload_n dL_law_1601 rfl ?_
  refine Ex_V0i dL_law_1602 sL_198 (ds_o hLI.1) (Nat.le_of_ble_eq_true rfl) (K_back e hLI) ?_
  rintro r J1 H1 ⟨hM1, h9⟩
  refine Ex_aload_n dL_law_1605 rfl ?_
  refine Ex_V0i dL_law_1606 sL_201 hM1.1 (Nat.le_of_ble_eq_true rfl) (h9) ?_
  rintro _ J2 H2 ⟨rfl, hL2⟩
  refine Ex_icmp_eq (tgt := 1637) dL_law_1609 (by decide) (fun h1609 => ?_) (fun h1609 => ?_)
  · exact k _ _ hL2
  · exact absurd rfl h1609
set_option maxRecDepth 100000 in
set_option maxHeartbeats 4000000 in
theorem w_count {T : TC} {F : FinT} {J : MI} {H : MG} {b L D i : Nat} {xs : Nat → Int32} {bb : Nat × Nat} (e : Nat) (hS : FScr T F b L xs) (hLI : LI T D J H) (hi : i + 6 ≤ L) (hL : L < 2 ^ 31) (k : ∀ J H, LI T D J H → Ex T RL cL_law 4 (e + 101) F 1637 [some (.ref b), some (.ref D), some (.ref (D + 117)), some (.int (nI i))] [] J H bb) : Ex T RL cL_law 4 (e + 101) F 1614 [some (.ref b), some (.ref D), some (.ref (D + 117)), some (.int (nI i))] [] J H bb := by
  refine Ex_aload_n dL_law_1614 rfl ?_
  refine Ex_aload_n dL_law_1615 rfl ?_
  refine Ex_iload_n dL_law_1616 rfl ?_
  refine Ex_iconst (v := nI 1) dL_law_1617 (by rfl) ?_
  first | with_reducible refine Ex_iaddN dL_law_1618 ?_ | refine Ex_iadd dL_law_1618 ?_
  refine Ex_scr hS dL_law_1619 rfl (by omega) hL ?_
  refine Ex_V1i dL_law_1620 sL_202 (ds_o hLI.1) (Nat.le_of_ble_eq_true rfl) (K_count e hLI _) ?_
  rintro r J1 H1 ⟨hM1, h9⟩
  refine Ex_aload_n dL_law_1623 rfl ?_
  refine Ex_aload_n dL_law_1624 rfl ?_
  refine Ex_iload_n dL_law_1625 rfl ?_
  refine Ex_iconst (v := nI 1) dL_law_1626 (by rfl) ?_
  first | with_reducible refine Ex_iaddN dL_law_1627 ?_ | refine Ex_iadd dL_law_1627 ?_
  refine Ex_scr hS dL_law_1628 rfl (by omega) hL ?_
  refine Ex_V1i dL_law_1629 sL_205 hM1.1 (Nat.le_of_ble_eq_true rfl) (h9) ?_
  rintro _ J2 H2 ⟨rfl, hL2⟩
  refine Ex_icmp_eq (tgt := 1637) dL_law_1632 (by decide) (fun h1632 => ?_) (fun h1632 => ?_)
  · exact k _ _ hL2
  · exact absurd rfl h1632
