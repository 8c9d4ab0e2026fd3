abbrev mL_law : zM := (⟨RL, "law", "([I)Z"⟩, code, 4, some .boolean, 10, 386, 600000, 7302250)
theorem lw_c0 {G : zG} {X : zX} {L : Nat} {xs : Nat → Int32} {x : Int32} {w : zW} (hX : zH G X mL_law) (hs : zScr G X.2.2.1 L xs) (h1 : vp_in (x + 1) L) (h2 : vp_in (x + 2) L) (hq : zQ w) (kk : ∀ w, zQ w → zk0 G X mL_law 1744 [.float 0, .ref 0, .ref 166, .int x] [] w) : zk0 G X mL_law 244 [.float 0, .ref 0, .ref 166, .int x] [] w := by
  refine zk_aload_n hX dL_law_244 rfl ?_
  refine zk_fload_n hX dL_law_245 rfl ?_
  refine zk_iload_n hX dL_law_246 rfl ?_
  refine zk_iconst (v := 1) hX dL_law_247 (by decide) ?_
  refine zk_iadd hX dL_law_248 ?_
  refine zk_sld hX hs dL_law_249 h1 ?_
  refine zk_fload_n hX dL_law_250 rfl ?_
  refine zk_iload_n hX dL_law_251 rfl ?_
  refine zk_iconst (v := 2) hX dL_law_252 (by decide) ?_
  refine zk_iadd hX dL_law_253 ?_
  refine zk_sld hX hs dL_law_254 h2 ?_
  refine zk_V2ip hX dL_law_255 kcX11_row mlL_13 viX11_row rfl k_0 z_0 (zO_row _ _ w hq) (Nat.le_of_ble_eq_true rfl) rfl (fun r1 w1 q1 => ?_)
  refine zk_aload_n hX dL_law_258 rfl ?_
  refine zk_fload_n hX dL_law_259 rfl ?_
  refine zk_iload_n hX dL_law_260 rfl ?_
  refine zk_iconst (v := 1) hX dL_law_261 (by decide) ?_
  refine zk_iadd hX dL_law_262 ?_
  refine zk_sld hX hs dL_law_263 h1 ?_
  refine zk_fload_n hX dL_law_264 rfl ?_
  refine zk_iload_n hX dL_law_265 rfl ?_
  refine zk_iconst (v := 2) hX dL_law_266 (by decide) ?_
  refine zk_iadd hX dL_law_267 ?_
  refine zk_sld hX hs dL_law_268 h2 ?_
  refine zk_V2ip hX dL_law_269 kcX12_row mlL_17 viX12_row rfl k_166 z_166 q1 (Nat.le_of_ble_eq_true rfl) rfl (fun r2 w2 q2 => ?_)
  obtain ⟨rfl, hq2⟩ := q2
  exact zk_icmp_eq (tgt := 1744) hX dL_law_272 (by decide) (fun _ => kk _ hq2) (fun h => absurd rfl h)
theorem lw_c1 {G : zG} {X : zX} {L : Nat} {xs : Nat → Int32} {x : Int32} {w : zW} (hX : zH G X mL_law) (hs : zScr G X.2.2.1 L xs) (h1 : vp_in (x + 1) L) (h2 : vp_in (x + 2) L) (h3 : vp_in (x + 3) L) (hq : zQ w) (kk : ∀ w, zQ w → zk0 G X mL_law 1744 [.float 0, .ref 0, .ref 166, .int x] [] w) : zk0 G X mL_law 277 [.float 0, .ref 0, .ref 166, .int x] [] w := by
  refine zk_aload_n hX dL_law_277 rfl ?_
  refine zk_fload_n hX dL_law_278 rfl ?_
  refine zk_iload_n hX dL_law_279 rfl ?_
  refine zk_iconst (v := 1) hX dL_law_280 (by decide) ?_
  refine zk_iadd hX dL_law_281 ?_
  refine zk_sld hX hs dL_law_282 h1 ?_
  refine zk_fload_n hX dL_law_283 rfl ?_
  refine zk_iload_n hX dL_law_284 rfl ?_
  refine zk_iconst (v := 2) hX dL_law_285 (by decide) ?_
  refine zk_iadd hX dL_law_286 ?_
  refine zk_sld hX hs dL_law_287 h2 ?_
  refine zk_fload_n hX dL_law_288 rfl ?_
  refine zk_iload_n hX dL_law_289 rfl ?_
  refine zk_iconst (v := 3) hX dL_law_290 (by decide) ?_
  refine zk_iadd hX dL_law_291 ?_
  refine zk_sld hX hs dL_law_292 h3 ?_
  refine zk_V3ip hX dL_law_293 kcX11_lay mlL_18 viX11_lay rfl k_0 z_0 (zO_lay _ _ _ w hq) (Nat.le_of_ble_eq_true rfl) rfl (fun r1 w1 q1 => ?_)
  refine zk_aload_n hX dL_law_296 rfl ?_
  refine zk_fload_n hX dL_law_297 rfl ?_
  refine zk_iload_n hX dL_law_298 rfl ?_
  refine zk_iconst (v := 1) hX dL_law_299 (by decide) ?_
  refine zk_iadd hX dL_law_300 ?_
  refine zk_sld hX hs dL_law_301 h1 ?_
  refine zk_fload_n hX dL_law_302 rfl ?_
  refine zk_iload_n hX dL_law_303 rfl ?_
  refine zk_iconst (v := 2) hX dL_law_304 (by decide) ?_
  refine zk_iadd hX dL_law_305 ?_
  refine zk_sld hX hs dL_law_306 h2 ?_
  refine zk_fload_n hX dL_law_307 rfl ?_
  refine zk_iload_n hX dL_law_308 rfl ?_
  refine zk_iconst (v := 3) hX dL_law_309 (by decide) ?_
  refine zk_iadd hX dL_law_310 ?_
  refine zk_sld hX hs dL_law_311 h3 ?_
  refine zk_V3ip hX dL_law_312 kcX12_lay mlL_22 viX12_lay rfl k_166 z_166 q1 (Nat.le_of_ble_eq_true rfl) rfl (fun r2 w2 q2 => ?_)
  obtain ⟨rfl, hq2⟩ := q2
  exact zk_icmp_eq (tgt := 1744) hX dL_law_315 (by decide) (fun _ => kk _ hq2) (fun h => absurd rfl h)
theorem lw_c2 {G : zG} {X : zX} {L : Nat} {xs : Nat → Int32} {x : Int32} {w : zW} (hX : zH G X mL_law) (hs : zScr G X.2.2.1 L xs) (h1 : vp_in (x + 1) L) (h2 : vp_in (x + 2) L) (hq : zQ w) (kk : ∀ w, zQ w → zk0 G X mL_law 1744 [.float 0, .ref 0, .ref 166, .int x] [] w) : zk0 G X mL_law 320 [.float 0, .ref 0, .ref 166, .int x] [] w := by
  refine zk_aload_n hX dL_law_320 rfl ?_
  refine zk_fload_n hX dL_law_321 rfl ?_
  refine zk_iload_n hX dL_law_322 rfl ?_
  refine zk_iconst (v := 1) hX dL_law_323 (by decide) ?_
  refine zk_iadd hX dL_law_324 ?_
  refine zk_sld hX hs dL_law_325 h1 ?_
  refine zk_fload_n hX dL_law_326 rfl ?_
  refine zk_iload_n hX dL_law_327 rfl ?_
  refine zk_iconst (v := 2) hX dL_law_328 (by decide) ?_
  refine zk_iadd hX dL_law_329 ?_
  refine zk_sld hX hs dL_law_330 h2 ?_
  refine zk_V2ip hX dL_law_331 kcX11_at mlL_23 viX11_at rfl k_0 z_0 (zO_at _ _ w hq) (Nat.le_of_ble_eq_true rfl) rfl (fun r1 w1 q1 => ?_)
  refine zk_aload_n hX dL_law_334 rfl ?_
  refine zk_fload_n hX dL_law_335 rfl ?_
  refine zk_iload_n hX dL_law_336 rfl ?_
  refine zk_iconst (v := 1) hX dL_law_337 (by decide) ?_
  refine zk_iadd hX dL_law_338 ?_
  refine zk_sld hX hs dL_law_339 h1 ?_
  refine zk_fload_n hX dL_law_340 rfl ?_
  refine zk_iload_n hX dL_law_341 rfl ?_
  refine zk_iconst (v := 2) hX dL_law_342 (by decide) ?_
  refine zk_iadd hX dL_law_343 ?_
  refine zk_sld hX hs dL_law_344 h2 ?_
  refine zk_V2ip hX dL_law_345 kcX12_at mlL_26 viX12_at rfl k_166 z_166 q1 (Nat.le_of_ble_eq_true rfl) rfl (fun r2 w2 q2 => ?_)
  obtain ⟨rfl, hq2⟩ := q2
  exact zk_icmp_eq (tgt := 1744) hX dL_law_348 (by decide) (fun _ => kk _ hq2) (fun h => absurd rfl h)
theorem lw_c3 {G : zG} {X : zX} {L : Nat} {xs : Nat → Int32} {x : Int32} {w : zW} (hX : zH G X mL_law) (hs : zScr G X.2.2.1 L xs) (h1 : vp_in (x + 1) L) (hq : zQ w) (kk : ∀ w, zQ w → zk0 G X mL_law 1744 [.float 0, .ref 0, .ref 166, .int x] [] w) : zk0 G X mL_law 353 [.float 0, .ref 0, .ref 166, .int x] [] w := by
  refine zk_aload_n hX dL_law_353 rfl ?_
  refine zk_fload_n hX dL_law_354 rfl ?_
  refine zk_iload_n hX dL_law_355 rfl ?_
  refine zk_iconst (v := 1) hX dL_law_356 (by decide) ?_
  refine zk_iadd hX dL_law_357 ?_
  refine zk_sld hX hs dL_law_358 h1 ?_
  refine zk_V1ip hX dL_law_359 kcX11_tear mlL_27 viX11_tear rfl k_0 z_0 (zO_tear _ w hq) (Nat.le_of_ble_eq_true rfl) rfl (fun r1 w1 q1 => ?_)
  refine zk_aload_n hX dL_law_362 rfl ?_
  refine zk_fload_n hX dL_law_363 rfl ?_
  refine zk_iload_n hX dL_law_364 rfl ?_
  refine zk_iconst (v := 1) hX dL_law_365 (by decide) ?_
  refine zk_iadd hX dL_law_366 ?_
  refine zk_sld hX hs dL_law_367 h1 ?_
  refine zk_V1ip hX dL_law_368 kcX12_tear mlL_31 viX12_tear rfl k_166 z_166 q1 (Nat.le_of_ble_eq_true rfl) rfl (fun r2 w2 q2 => ?_)
  obtain ⟨rfl, hq2⟩ := q2
  exact zk_icmp_eq (tgt := 1744) hX dL_law_371 (by decide) (fun _ => kk _ hq2) (fun h => absurd rfl h)
theorem lw_c4 {G : zG} {X : zX} {L : Nat} {xs : Nat → Int32} {x : Int32} {w : zW} (hX : zH G X mL_law) (hs : zScr G X.2.2.1 L xs) (h1 : vp_in (x + 1) L) (h2 : vp_in (x + 2) L) (h3 : vp_in (x + 3) L) (h4 : vp_in (x + 4) L) (h5 : vp_in (x + 5) L) (hq : zQ w) (kk : ∀ w, zQ w → zk0 G X mL_law 1744 [.float 0, .ref 0, .ref 166, .int x] [] w) : zk0 G X mL_law 376 [.float 0, .ref 0, .ref 166, .int x] [] w := by
  refine zk_aload_n hX dL_law_376 rfl ?_
  refine zk_fload_n hX dL_law_377 rfl ?_
  refine zk_iload_n hX dL_law_378 rfl ?_
  refine zk_iconst (v := 1) hX dL_law_379 (by decide) ?_
  refine zk_iadd hX dL_law_380 ?_
  refine zk_sld hX hs dL_law_381 h1 ?_
  refine zk_fload_n hX dL_law_382 rfl ?_
  refine zk_iload_n hX dL_law_383 rfl ?_
  refine zk_iconst (v := 2) hX dL_law_384 (by decide) ?_
  refine zk_iadd hX dL_law_385 ?_
  refine zk_sld hX hs dL_law_386 h2 ?_
  refine zk_fload_n hX dL_law_387 rfl ?_
  refine zk_iload_n hX dL_law_388 rfl ?_
  refine zk_iconst (v := 3) hX dL_law_389 (by decide) ?_
  refine zk_iadd hX dL_law_390 ?_
  refine zk_sld hX hs dL_law_391 h3 ?_
  refine zk_fload_n hX dL_law_392 rfl ?_
  refine zk_iload_n hX dL_law_393 rfl ?_
  refine zk_iconst (v := 4) hX dL_law_394 (by decide) ?_
  refine zk_iadd hX dL_law_395 ?_
  refine zk_sld hX hs dL_law_396 h4 ?_
  refine zk_fload_n hX dL_law_397 rfl ?_
  refine zk_iload_n hX dL_law_398 rfl ?_
  refine zk_iconst (v := 5) hX dL_law_399 (by decide) ?_
  refine zk_iadd hX dL_law_400 ?_
  refine zk_sld hX hs dL_law_401 h5 ?_
  refine zk_V5ip hX dL_law_402 kcX11_copy mlL_32 viX11_copy rfl k_0 z_0 (zO_copy _ _ _ _ _ w hq) (Nat.le_of_ble_eq_true rfl) rfl (fun r1 w1 q1 => ?_)
  refine zk_aload_n hX dL_law_405 rfl ?_
  refine zk_fload_n hX dL_law_406 rfl ?_
  refine zk_iload_n hX dL_law_407 rfl ?_
  refine zk_iconst (v := 1) hX dL_law_408 (by decide) ?_
  refine zk_iadd hX dL_law_409 ?_
  refine zk_sld hX hs dL_law_410 h1 ?_
  refine zk_fload_n hX dL_law_411 rfl ?_
  refine zk_iload_n hX dL_law_412 rfl ?_
  refine zk_iconst (v := 2) hX dL_law_413 (by decide) ?_
  refine zk_iadd hX dL_law_414 ?_
  refine zk_sld hX hs dL_law_415 h2 ?_
  refine zk_fload_n hX dL_law_416 rfl ?_
  refine zk_iload_n hX dL_law_417 rfl ?_
  refine zk_iconst (v := 3) hX dL_law_418 (by decide) ?_
  refine zk_iadd hX dL_law_419 ?_
  refine zk_sld hX hs dL_law_420 h3 ?_
  refine zk_fload_n hX dL_law_421 rfl ?_
  refine zk_iload_n hX dL_law_422 rfl ?_
  refine zk_iconst (v := 4) hX dL_law_423 (by decide) ?_
  refine zk_iadd hX dL_law_424 ?_
  refine zk_sld hX hs dL_law_425 h4 ?_
  refine zk_fload_n hX dL_law_426 rfl ?_
  refine zk_iload_n hX dL_law_427 rfl ?_
  refine zk_iconst (v := 5) hX dL_law_428 (by decide) ?_
  refine zk_iadd hX dL_law_429 ?_
  refine zk_sld hX hs dL_law_430 h5 ?_
  refine zk_V5ip hX dL_law_431 kcX12_copy mlL_36 viX12_copy rfl k_166 z_166 q1 (Nat.le_of_ble_eq_true rfl) rfl (fun r2 w2 q2 => ?_)
  obtain ⟨rfl, hq2⟩ := q2
  exact zk_icmp_eq (tgt := 1744) hX dL_law_434 (by decide) (fun _ => kk _ hq2) (fun h => absurd rfl h)
theorem lw_c5 {G : zG} {X : zX} {L : Nat} {xs : Nat → Int32} {x : Int32} {w : zW} (hX : zH G X mL_law) (hs : zScr G X.2.2.1 L xs) (h1 : vp_in (x + 1) L) (hq : zQ w) (kk : ∀ w, zQ w → zk0 G X mL_law 1744 [.float 0, .ref 0, .ref 166, .int x] [] w) : zk0 G X mL_law 439 [.float 0, .ref 0, .ref 166, .int x] [] w := by
  refine zk_aload_n hX dL_law_439 rfl ?_
  refine zk_fload_n hX dL_law_440 rfl ?_
  refine zk_iload_n hX dL_law_441 rfl ?_
  refine zk_iconst (v := 1) hX dL_law_442 (by decide) ?_
  refine zk_iadd hX dL_law_443 ?_
  refine zk_sld hX hs dL_law_444 h1 ?_
  refine zk_V1ip hX dL_law_445 kcX11_mean mlL_37 viX11_mean rfl k_0 z_0 (zO_mean _ w hq) (Nat.le_of_ble_eq_true rfl) rfl (fun r1 w1 q1 => ?_)
  refine zk_aload_n hX dL_law_448 rfl ?_
  refine zk_fload_n hX dL_law_449 rfl ?_
  refine zk_iload_n hX dL_law_450 rfl ?_
  refine zk_iconst (v := 1) hX dL_law_451 (by decide) ?_
  refine zk_iadd hX dL_law_452 ?_
  refine zk_sld hX hs dL_law_453 h1 ?_
  refine zk_V1ip hX dL_law_454 kcX12_mean mlL_40 viX12_mean rfl k_166 z_166 q1 (Nat.le_of_ble_eq_true rfl) rfl (fun r2 w2 q2 => ?_)
  obtain ⟨rfl, hq2⟩ := q2
  exact zk_icmp_eq (tgt := 1744) hX dL_law_457 (by decide) (fun _ => kk _ hq2) (fun h => absurd rfl h)
theorem lw_c6 {G : zG} {X : zX} {L : Nat} {xs : Nat → Int32} {x : Int32} {w : zW} (hX : zH G X mL_law) (hs : zScr G X.2.2.1 L xs) (h1 : vp_in (x + 1) L) (h2 : vp_in (x + 2) L) (hq : zQ w) (kk : ∀ w, zQ w → zk0 G X mL_law 1744 [.float 0, .ref 0, .ref 166, .int x] [] w) : zk0 G X mL_law 462 [.float 0, .ref 0, .ref 166, .int x] [] w := by
  refine zk_aload_n hX dL_law_462 rfl ?_
  refine zk_fload_n hX dL_law_463 rfl ?_
  refine zk_iload_n hX dL_law_464 rfl ?_
  refine zk_iconst (v := 1) hX dL_law_465 (by decide) ?_
  refine zk_iadd hX dL_law_466 ?_
  refine zk_sld hX hs dL_law_467 h1 ?_
  refine zk_fload_n hX dL_law_468 rfl ?_
  refine zk_iload_n hX dL_law_469 rfl ?_
  refine zk_iconst (v := 2) hX dL_law_470 (by decide) ?_
  refine zk_iadd hX dL_law_471 ?_
  refine zk_sld hX hs dL_law_472 h2 ?_
  refine zk_V2ip hX dL_law_473 kcX11_text mlL_41 viX11_text rfl k_0 z_0 (zO_text _ _ w hq) (Nat.le_of_ble_eq_true rfl) rfl (fun r1 w1 q1 => ?_)
  refine zk_aload_n hX dL_law_476 rfl ?_
  refine zk_fload_n hX dL_law_477 rfl ?_
  refine zk_iload_n hX dL_law_478 rfl ?_
  refine zk_iconst (v := 1) hX dL_law_479 (by decide) ?_
  refine zk_iadd hX dL_law_480 ?_
  refine zk_sld hX hs dL_law_481 h1 ?_
  refine zk_fload_n hX dL_law_482 rfl ?_
  refine zk_iload_n hX dL_law_483 rfl ?_
  refine zk_iconst (v := 2) hX dL_law_484 (by decide) ?_
  refine zk_iadd hX dL_law_485 ?_
  refine zk_sld hX hs dL_law_486 h2 ?_
  refine zk_V2ip hX dL_law_487 kcX12_text mlL_44 viX12_text rfl k_166 z_166 q1 (Nat.le_of_ble_eq_true rfl) rfl (fun r2 w2 q2 => ?_)
  obtain ⟨rfl, hq2⟩ := q2
  exact zk_icmp_eq (tgt := 1744) hX dL_law_490 (by decide) (fun _ => kk _ hq2) (fun h => absurd rfl h)
theorem lw_c7 {G : zG} {X : zX} {L : Nat} {xs : Nat → Int32} {x : Int32} {w : zW} (hX : zH G X mL_law) (hs : zScr G X.2.2.1 L xs) (h1 : vp_in (x + 1) L) (h2 : vp_in (x + 2) L) (h3 : vp_in (x + 3) L) (hq : zQ w) (kk : ∀ w, zQ w → zk0 G X mL_law 1744 [.float 0, .ref 0, .ref 166, .int x] [] w) : zk0 G X mL_law 495 [.float 0, .ref 0, .ref 166, .int x] [] w := by
  refine zk_aload_n hX dL_law_495 rfl ?_
  refine zk_fload_n hX dL_law_496 rfl ?_
  refine zk_iload_n hX dL_law_497 rfl ?_
  refine zk_iconst (v := 1) hX dL_law_498 (by decide) ?_
  refine zk_iadd hX dL_law_499 ?_
  refine zk_sld hX hs dL_law_500 h1 ?_
  refine zk_fload_n hX dL_law_501 rfl ?_
  refine zk_iload_n hX dL_law_502 rfl ?_
  refine zk_iconst (v := 2) hX dL_law_503 (by decide) ?_
  refine zk_iadd hX dL_law_504 ?_
  refine zk_sld hX hs dL_law_505 h2 ?_
  refine zk_fload_n hX dL_law_506 rfl ?_
  refine zk_iload_n hX dL_law_507 rfl ?_
  refine zk_iconst (v := 3) hX dL_law_508 (by decide) ?_
  refine zk_iadd hX dL_law_509 ?_
  refine zk_sld hX hs dL_law_510 h3 ?_
  refine zk_V3ip hX dL_law_511 kcX11_put mlL_45 viX11_put rfl k_0 z_0 (zO_put _ _ _ w hq) (Nat.le_of_ble_eq_true rfl) rfl (fun r1 w1 q1 => ?_)
  refine zk_aload_n hX dL_law_514 rfl ?_
  refine zk_fload_n hX dL_law_515 rfl ?_
  refine zk_iload_n hX dL_law_516 rfl ?_
  refine zk_iconst (v := 1) hX dL_law_517 (by decide) ?_
  refine zk_iadd hX dL_law_518 ?_
  refine zk_sld hX hs dL_law_519 h1 ?_
  refine zk_fload_n hX dL_law_520 rfl ?_
  refine zk_iload_n hX dL_law_521 rfl ?_
  refine zk_iconst (v := 2) hX dL_law_522 (by decide) ?_
  refine zk_iadd hX dL_law_523 ?_
  refine zk_sld hX hs dL_law_524 h2 ?_
  refine zk_fload_n hX dL_law_525 rfl ?_
  refine zk_iload_n hX dL_law_526 rfl ?_
  refine zk_iconst (v := 3) hX dL_law_527 (by decide) ?_
  refine zk_iadd hX dL_law_528 ?_
  refine zk_sld hX hs dL_law_529 h3 ?_
  refine zk_V3ip hX dL_law_530 kcX12_put mlL_48 viX12_put rfl k_166 z_166 q1 (Nat.le_of_ble_eq_true rfl) rfl (fun r2 w2 q2 => ?_)
  obtain ⟨rfl, hq2⟩ := q2
  exact zk_icmp_eq (tgt := 1744) hX dL_law_533 (by decide) (fun _ => kk _ hq2) (fun h => absurd rfl h)
theorem lw_c8 {G : zG} {X : zX} {L : Nat} {xs : Nat → Int32} {x : Int32} {w : zW} (hX : zH G X mL_law) (hs : zScr G X.2.2.1 L xs) (h1 : vp_in (x + 1) L) (hq : zQ w) (kk : ∀ w, zQ w → zk0 G X mL_law 1744 [.float 0, .ref 0, .ref 166, .int x] [] w) : zk0 G X mL_law 538 [.float 0, .ref 0, .ref 166, .int x] [] w := by
  refine zk_aload_n hX dL_law_538 rfl ?_
  refine zk_fload_n hX dL_law_539 rfl ?_
  refine zk_iload_n hX dL_law_540 rfl ?_
  refine zk_iconst (v := 1) hX dL_law_541 (by decide) ?_
  refine zk_iadd hX dL_law_542 ?_
  refine zk_sld hX hs dL_law_543 h1 ?_
  refine zk_V1ip hX dL_law_544 kcX11_fault mlL_49 viX11_fault rfl k_0 z_0 (zO_fault _ w hq) (Nat.le_of_ble_eq_true rfl) rfl (fun r1 w1 q1 => ?_)
  refine zk_aload_n hX dL_law_547 rfl ?_
  refine zk_fload_n hX dL_law_548 rfl ?_
  refine zk_iload_n hX dL_law_549 rfl ?_
  refine zk_iconst (v := 1) hX dL_law_550 (by decide) ?_
  refine zk_iadd hX dL_law_551 ?_
  refine zk_sld hX hs dL_law_552 h1 ?_
  refine zk_V1ip hX dL_law_553 kcX12_fault mlL_52 viX12_fault rfl k_166 z_166 q1 (Nat.le_of_ble_eq_true rfl) rfl (fun r2 w2 q2 => ?_)
  obtain ⟨rfl, hq2⟩ := q2
  exact zk_icmp_eq (tgt := 1744) hX dL_law_556 (by decide) (fun _ => kk _ hq2) (fun h => absurd rfl h)
theorem lw_c9 {G : zG} {X : zX} {L : Nat} {xs : Nat → Int32} {x : Int32} {w : zW} (hX : zH G X mL_law) (hs : zScr G X.2.2.1 L xs) (h1 : vp_in (x + 1) L) (hq : zQ w) (kk : ∀ w, zQ w → zk0 G X mL_law 1744 [.float 0, .ref 0, .ref 166, .int x] [] w) : zk0 G X mL_law 561 [.float 0, .ref 0, .ref 166, .int x] [] w := by
  refine zk_aload_n hX dL_law_561 rfl ?_
  refine zk_fload_n hX dL_law_562 rfl ?_
  refine zk_iload_n hX dL_law_563 rfl ?_
  refine zk_iconst (v := 1) hX dL_law_564 (by decide) ?_
  refine zk_iadd hX dL_law_565 ?_
  refine zk_sld hX hs dL_law_566 h1 ?_
  refine zk_V1ip hX dL_law_567 kcX11_hands mlL_53 viX11_hands rfl k_0 z_0 (zO_hands _ w hq) (Nat.le_of_ble_eq_true rfl) rfl (fun r1 w1 q1 => ?_)
  refine zk_aload_n hX dL_law_570 rfl ?_
  refine zk_fload_n hX dL_law_571 rfl ?_
  refine zk_iload_n hX dL_law_572 rfl ?_
  refine zk_iconst (v := 1) hX dL_law_573 (by decide) ?_
  refine zk_iadd hX dL_law_574 ?_
  refine zk_sld hX hs dL_law_575 h1 ?_
  refine zk_V1ip hX dL_law_576 kcX12_hands mlL_56 viX12_hands rfl k_166 z_166 q1 (Nat.le_of_ble_eq_true rfl) rfl (fun r2 w2 q2 => ?_)
  obtain ⟨rfl, hq2⟩ := q2
  exact zk_icmp_eq (tgt := 1744) hX dL_law_579 (by decide) (fun _ => kk _ hq2) (fun h => absurd rfl h)
theorem lw_c10 {G : zG} {X : zX} {L : Nat} {xs : Nat → Int32} {x : Int32} {w : zW} (hX : zH G X mL_law) (hs : zScr G X.2.2.1 L xs) (h1 : vp_in (x + 1) L) (h2 : vp_in (x + 2) L) (hq : zQ w) (kk : ∀ w, zQ w → zk0 G X mL_law 1744 [.float 0, .ref 0, .ref 166, .int x] [] w) : zk0 G X mL_law 584 [.float 0, .ref 0, .ref 166, .int x] [] w := by
  refine zk_aload_n hX dL_law_584 rfl ?_
  refine zk_fload_n hX dL_law_585 rfl ?_
  refine zk_iload_n hX dL_law_586 rfl ?_
  refine zk_iconst (v := 1) hX dL_law_587 (by decide) ?_
  refine zk_iadd hX dL_law_588 ?_
  refine zk_sld hX hs dL_law_589 h1 ?_
  refine zk_fload_n hX dL_law_590 rfl ?_
  refine zk_iload_n hX dL_law_591 rfl ?_
  refine zk_iconst (v := 2) hX dL_law_592 (by decide) ?_
  refine zk_iadd hX dL_law_593 ?_
  refine zk_sld hX hs dL_law_594 h2 ?_
  refine zk_V2ip hX dL_law_595 kcX11_finger mlL_57 viX11_finger rfl k_0 z_0 (zO_finger _ _ w hq) (Nat.le_of_ble_eq_true rfl) rfl (fun r1 w1 q1 => ?_)
  refine zk_aload_n hX dL_law_598 rfl ?_
  refine zk_fload_n hX dL_law_599 rfl ?_
  refine zk_iload_n hX dL_law_600 rfl ?_
  refine zk_iconst (v := 1) hX dL_law_601 (by decide) ?_
  refine zk_iadd hX dL_law_602 ?_
  refine zk_sld hX hs dL_law_603 h1 ?_
  refine zk_fload_n hX dL_law_604 rfl ?_
  refine zk_iload_n hX dL_law_605 rfl ?_
  refine zk_iconst (v := 2) hX dL_law_606 (by decide) ?_
  refine zk_iadd hX dL_law_607 ?_
  refine zk_sld hX hs dL_law_608 h2 ?_
  refine zk_V2ip hX dL_law_609 kcX12_finger mlL_60 viX12_finger rfl k_166 z_166 q1 (Nat.le_of_ble_eq_true rfl) rfl (fun r2 w2 q2 => ?_)
  obtain ⟨rfl, hq2⟩ := q2
  exact zk_icmp_eq (tgt := 1744) hX dL_law_612 (by decide) (fun _ => kk _ hq2) (fun h => absurd rfl h)
theorem lw_c11 {G : zG} {X : zX} {L : Nat} {xs : Nat → Int32} {x : Int32} {w : zW} (hX : zH G X mL_law) (hs : zScr G X.2.2.1 L xs) (h1 : vp_in (x + 1) L) (h2 : vp_in (x + 2) L) (hq : zQ w) (kk : ∀ w, zQ w → zk0 G X mL_law 1744 [.float 0, .ref 0, .ref 166, .int x] [] w) : zk0 G X mL_law 617 [.float 0, .ref 0, .ref 166, .int x] [] w := by
  refine zk_aload_n hX dL_law_617 rfl ?_
  refine zk_fload_n hX dL_law_618 rfl ?_
  refine zk_iload_n hX dL_law_619 rfl ?_
  refine zk_iconst (v := 1) hX dL_law_620 (by decide) ?_
  refine zk_iadd hX dL_law_621 ?_
  refine zk_sld hX hs dL_law_622 h1 ?_
  refine zk_fload_n hX dL_law_623 rfl ?_
  refine zk_iload_n hX dL_law_624 rfl ?_
  refine zk_iconst (v := 2) hX dL_law_625 (by decide) ?_
  refine zk_iadd hX dL_law_626 ?_
  refine zk_sld hX hs dL_law_627 h2 ?_
  refine zk_V2ip hX dL_law_628 kcX11_joint mlL_61 viX11_joint rfl k_0 z_0 (zO_joint _ _ w hq) (Nat.le_of_ble_eq_true rfl) rfl (fun r1 w1 q1 => ?_)
  refine zk_aload_n hX dL_law_631 rfl ?_
  refine zk_fload_n hX dL_law_632 rfl ?_
  refine zk_iload_n hX dL_law_633 rfl ?_
  refine zk_iconst (v := 1) hX dL_law_634 (by decide) ?_
  refine zk_iadd hX dL_law_635 ?_
  refine zk_sld hX hs dL_law_636 h1 ?_
  refine zk_fload_n hX dL_law_637 rfl ?_
  refine zk_iload_n hX dL_law_638 rfl ?_
  refine zk_iconst (v := 2) hX dL_law_639 (by decide) ?_
  refine zk_iadd hX dL_law_640 ?_
  refine zk_sld hX hs dL_law_641 h2 ?_
  refine zk_V2ip hX dL_law_642 kcX12_joint mlL_64 viX12_joint rfl k_166 z_166 q1 (Nat.le_of_ble_eq_true rfl) rfl (fun r2 w2 q2 => ?_)
  obtain ⟨rfl, hq2⟩ := q2
  exact zk_icmp_eq (tgt := 1744) hX dL_law_645 (by decide) (fun _ => kk _ hq2) (fun h => absurd rfl h)
theorem lw_c12 {G : zG} {X : zX} {L : Nat} {xs : Nat → Int32} {x : Int32} {w : zW} (hX : zH G X mL_law) (hs : zScr G X.2.2.1 L xs) (h1 : vp_in (x + 1) L) (hq : zQ w) (kk : ∀ w, zQ w → zk0 G X mL_law 1744 [.float 0, .ref 0, .ref 166, .int x] [] w) : zk0 G X mL_law 650 [.float 0, .ref 0, .ref 166, .int x] [] w := by
  refine zk_aload_n hX dL_law_650 rfl ?_
  refine zk_fload_n hX dL_law_651 rfl ?_
  refine zk_iload_n hX dL_law_652 rfl ?_
  refine zk_iconst (v := 1) hX dL_law_653 (by decide) ?_
  refine zk_iadd hX dL_law_654 ?_
  refine zk_sld hX hs dL_law_655 h1 ?_
  refine zk_V1ip hX dL_law_656 kcX11_strain mlL_65 viX11_strain rfl k_0 z_0 (zO_strain _ w hq) (Nat.le_of_ble_eq_true rfl) rfl (fun r1 w1 q1 => ?_)
  refine zk_aload_n hX dL_law_659 rfl ?_
  refine zk_fload_n hX dL_law_660 rfl ?_
  refine zk_iload_n hX dL_law_661 rfl ?_
  refine zk_iconst (v := 1) hX dL_law_662 (by decide) ?_
  refine zk_iadd hX dL_law_663 ?_
  refine zk_sld hX hs dL_law_664 h1 ?_
  refine zk_V1ip hX dL_law_665 kcX12_strain mlL_68 viX12_strain rfl k_166 z_166 q1 (Nat.le_of_ble_eq_true rfl) rfl (fun r2 w2 q2 => ?_)
  obtain ⟨rfl, hq2⟩ := q2
  exact zk_icmp_eq (tgt := 1744) hX dL_law_668 (by decide) (fun _ => kk _ hq2) (fun h => absurd rfl h)
theorem lw_c13 {G : zG} {X : zX} {L : Nat} {xs : Nat → Int32} {x : Int32} {w : zW} (hX : zH G X mL_law) (hs : zScr G X.2.2.1 L xs) (h1 : vp_in (x + 1) L) (h2 : vp_in (x + 2) L) (h3 : vp_in (x + 3) L) (hq : zQ w) (kk : ∀ w, zQ w → zk0 G X mL_law 1744 [.float 0, .ref 0, .ref 166, .int x] [] w) : zk0 G X mL_law 673 [.float 0, .ref 0, .ref 166, .int x] [] w := by
  refine zk_aload_n hX dL_law_673 rfl ?_
  refine zk_fload_n hX dL_law_674 rfl ?_
  refine zk_iload_n hX dL_law_675 rfl ?_
  refine zk_iconst (v := 1) hX dL_law_676 (by decide) ?_
  refine zk_iadd hX dL_law_677 ?_
  refine zk_sld hX hs dL_law_678 h1 ?_
  refine zk_fload_n hX dL_law_679 rfl ?_
  refine zk_iload_n hX dL_law_680 rfl ?_
  refine zk_iconst (v := 2) hX dL_law_681 (by decide) ?_
  refine zk_iadd hX dL_law_682 ?_
  refine zk_sld hX hs dL_law_683 h2 ?_
  refine zk_fload_n hX dL_law_684 rfl ?_
  refine zk_iload_n hX dL_law_685 rfl ?_
  refine zk_iconst (v := 3) hX dL_law_686 (by decide) ?_
  refine zk_iadd hX dL_law_687 ?_
  refine zk_sld hX hs dL_law_688 h3 ?_
  refine zk_V3ip hX dL_law_689 kcX11_lamp mlL_69 viX11_lamp rfl k_0 z_0 (zO_lamp _ _ _ w hq) (Nat.le_of_ble_eq_true rfl) rfl (fun r1 w1 q1 => ?_)
  refine zk_aload_n hX dL_law_692 rfl ?_
  refine zk_fload_n hX dL_law_693 rfl ?_
  refine zk_iload_n hX dL_law_694 rfl ?_
  refine zk_iconst (v := 1) hX dL_law_695 (by decide) ?_
  refine zk_iadd hX dL_law_696 ?_
  refine zk_sld hX hs dL_law_697 h1 ?_
  refine zk_fload_n hX dL_law_698 rfl ?_
  refine zk_iload_n hX dL_law_699 rfl ?_
  refine zk_iconst (v := 2) hX dL_law_700 (by decide) ?_
  refine zk_iadd hX dL_law_701 ?_
  refine zk_sld hX hs dL_law_702 h2 ?_
  refine zk_fload_n hX dL_law_703 rfl ?_
  refine zk_iload_n hX dL_law_704 rfl ?_
  refine zk_iconst (v := 3) hX dL_law_705 (by decide) ?_
  refine zk_iadd hX dL_law_706 ?_
  refine zk_sld hX hs dL_law_707 h3 ?_
  refine zk_V3ip hX dL_law_708 kcX12_lamp mlL_72 viX12_lamp rfl k_166 z_166 q1 (Nat.le_of_ble_eq_true rfl) rfl (fun r2 w2 q2 => ?_)
  obtain ⟨rfl, hq2⟩ := q2
  exact zk_icmp_eq (tgt := 1744) hX dL_law_711 (by decide) (fun _ => kk _ hq2) (fun h => absurd rfl h)
theorem lw_c14 {G : zG} {X : zX} {L : Nat} {xs : Nat → Int32} {x : Int32} {w : zW} (hX : zH G X mL_law) (hs : zScr G X.2.2.1 L xs) (h1 : vp_in (x + 1) L) (h2 : vp_in (x + 2) L) (hq : zQ w) (kk : ∀ w, zQ w → zk0 G X mL_law 1744 [.float 0, .ref 0, .ref 166, .int x] [] w) : zk0 G X mL_law 716 [.float 0, .ref 0, .ref 166, .int x] [] w := by
  refine zk_aload_n hX dL_law_716 rfl ?_
  refine zk_fload_n hX dL_law_717 rfl ?_
  refine zk_iload_n hX dL_law_718 rfl ?_
  refine zk_iconst (v := 1) hX dL_law_719 (by decide) ?_
  refine zk_iadd hX dL_law_720 ?_
  refine zk_sld hX hs dL_law_721 h1 ?_
  refine zk_fload_n hX dL_law_722 rfl ?_
  refine zk_iload_n hX dL_law_723 rfl ?_
  refine zk_iconst (v := 2) hX dL_law_724 (by decide) ?_
  refine zk_iadd hX dL_law_725 ?_
  refine zk_sld hX hs dL_law_726 h2 ?_
  refine zk_V2ip hX dL_law_727 kcX11_pose mlL_73 viX11_pose rfl k_0 z_0 (zO_pose _ _ w hq) (Nat.le_of_ble_eq_true rfl) rfl (fun r1 w1 q1 => ?_)
  refine zk_aload_n hX dL_law_730 rfl ?_
  refine zk_fload_n hX dL_law_731 rfl ?_
  refine zk_iload_n hX dL_law_732 rfl ?_
  refine zk_iconst (v := 1) hX dL_law_733 (by decide) ?_
  refine zk_iadd hX dL_law_734 ?_
  refine zk_sld hX hs dL_law_735 h1 ?_
  refine zk_fload_n hX dL_law_736 rfl ?_
  refine zk_iload_n hX dL_law_737 rfl ?_
  refine zk_iconst (v := 2) hX dL_law_738 (by decide) ?_
  refine zk_iadd hX dL_law_739 ?_
  refine zk_sld hX hs dL_law_740 h2 ?_
  refine zk_V2ip hX dL_law_741 kcX12_pose mlL_76 viX12_pose rfl k_166 z_166 q1 (Nat.le_of_ble_eq_true rfl) rfl (fun r2 w2 q2 => ?_)
  obtain ⟨rfl, hq2⟩ := q2
  exact zk_icmp_eq (tgt := 1744) hX dL_law_744 (by decide) (fun _ => kk _ hq2) (fun h => absurd rfl h)
theorem lw_c15 {G : zG} {X : zX} {L : Nat} {xs : Nat → Int32} {x : Int32} {w : zW} (hX : zH G X mL_law) (hs : zScr G X.2.2.1 L xs) (h1 : vp_in (x + 1) L) (h2 : vp_in (x + 2) L) (hq : zQ w) (kk : ∀ w, zQ w → zk0 G X mL_law 1744 [.float 0, .ref 0, .ref 166, .int x] [] w) : zk0 G X mL_law 749 [.float 0, .ref 0, .ref 166, .int x] [] w := by
  refine zk_aload_n hX dL_law_749 rfl ?_
  refine zk_fload_n hX dL_law_750 rfl ?_
  refine zk_iload_n hX dL_law_751 rfl ?_
  refine zk_iconst (v := 1) hX dL_law_752 (by decide) ?_
  refine zk_iadd hX dL_law_753 ?_
  refine zk_sld hX hs dL_law_754 h1 ?_
  refine zk_fload_n hX dL_law_755 rfl ?_
  refine zk_iload_n hX dL_law_756 rfl ?_
  refine zk_iconst (v := 2) hX dL_law_757 (by decide) ?_
  refine zk_iadd hX dL_law_758 ?_
  refine zk_sld hX hs dL_law_759 h2 ?_
  refine zk_V2ip hX dL_law_760 kcX11_help mlL_77 viX11_help rfl k_0 z_0 (zO_help _ _ w hq) (Nat.le_of_ble_eq_true rfl) rfl (fun r1 w1 q1 => ?_)
  refine zk_aload_n hX dL_law_763 rfl ?_
  refine zk_fload_n hX dL_law_764 rfl ?_
  refine zk_iload_n hX dL_law_765 rfl ?_
  refine zk_iconst (v := 1) hX dL_law_766 (by decide) ?_
  refine zk_iadd hX dL_law_767 ?_
  refine zk_sld hX hs dL_law_768 h1 ?_
  refine zk_fload_n hX dL_law_769 rfl ?_
  refine zk_iload_n hX dL_law_770 rfl ?_
  refine zk_iconst (v := 2) hX dL_law_771 (by decide) ?_
  refine zk_iadd hX dL_law_772 ?_
  refine zk_sld hX hs dL_law_773 h2 ?_
  refine zk_V2ip hX dL_law_774 kcX12_help mlL_80 viX12_help rfl k_166 z_166 q1 (Nat.le_of_ble_eq_true rfl) rfl (fun r2 w2 q2 => ?_)
  obtain ⟨rfl, hq2⟩ := q2
  exact zk_icmp_eq (tgt := 1744) hX dL_law_777 (by decide) (fun _ => kk _ hq2) (fun h => absurd rfl h)
theorem lw_c16 {G : zG} {X : zX} {L : Nat} {xs : Nat → Int32} {x : Int32} {w : zW} (hX : zH G X mL_law) (hs : zScr G X.2.2.1 L xs) (h1 : vp_in (x + 1) L) (hq : zQ w) (kk : ∀ w, zQ w → zk0 G X mL_law 1744 [.float 0, .ref 0, .ref 166, .int x] [] w) : zk0 G X mL_law 782 [.float 0, .ref 0, .ref 166, .int x] [] w := by
  refine zk_aload_n hX dL_law_782 rfl ?_
  refine zk_fload_n hX dL_law_783 rfl ?_
  refine zk_iload_n hX dL_law_784 rfl ?_
  refine zk_iconst (v := 1) hX dL_law_785 (by decide) ?_
  refine zk_iadd hX dL_law_786 ?_
  refine zk_sld hX hs dL_law_787 h1 ?_
  refine zk_V1ip hX dL_law_788 kcX11_back mlL_81 viX11_back rfl k_0 z_0 (zO_back _ w hq) (Nat.le_of_ble_eq_true rfl) rfl (fun r1 w1 q1 => ?_)
  refine zk_aload_n hX dL_law_791 rfl ?_
  refine zk_fload_n hX dL_law_792 rfl ?_
  refine zk_iload_n hX dL_law_793 rfl ?_
  refine zk_iconst (v := 1) hX dL_law_794 (by decide) ?_
  refine zk_iadd hX dL_law_795 ?_
  refine zk_sld hX hs dL_law_796 h1 ?_
  refine zk_V1ip hX dL_law_797 kcX12_back mlL_84 viX12_back rfl k_166 z_166 q1 (Nat.le_of_ble_eq_true rfl) rfl (fun r2 w2 q2 => ?_)
  obtain ⟨rfl, hq2⟩ := q2
  exact zk_icmp_eq (tgt := 1744) hX dL_law_800 (by decide) (fun _ => kk _ hq2) (fun h => absurd rfl h)
theorem lw_c17 {G : zG} {X : zX} {L : Nat} {xs : Nat → Int32} {x : Int32} {w : zW} (hX : zH G X mL_law) (hs : zScr G X.2.2.1 L xs) (h1 : vp_in (x + 1) L) (h2 : vp_in (x + 2) L) (hq : zQ w) (kk : ∀ w, zQ w → zk0 G X mL_law 1744 [.float 0, .ref 0, .ref 166, .int x] [] w) : zk0 G X mL_law 805 [.float 0, .ref 0, .ref 166, .int x] [] w := by
  refine zk_aload_n hX dL_law_805 rfl ?_
  refine zk_fload_n hX dL_law_806 rfl ?_
  refine zk_iload_n hX dL_law_807 rfl ?_
  refine zk_iconst (v := 1) hX dL_law_808 (by decide) ?_
  refine zk_iadd hX dL_law_809 ?_
  refine zk_sld hX hs dL_law_810 h1 ?_
  refine zk_fload_n hX dL_law_811 rfl ?_
  refine zk_iload_n hX dL_law_812 rfl ?_
  refine zk_iconst (v := 2) hX dL_law_813 (by decide) ?_
  refine zk_iadd hX dL_law_814 ?_
  refine zk_sld hX hs dL_law_815 h2 ?_
  refine zk_V2ip hX dL_law_816 kcX11_about mlL_85 viX11_about rfl k_0 z_0 (zO_about _ _ w hq) (Nat.le_of_ble_eq_true rfl) rfl (fun r1 w1 q1 => ?_)
  refine zk_aload_n hX dL_law_819 rfl ?_
  refine zk_fload_n hX dL_law_820 rfl ?_
  refine zk_iload_n hX dL_law_821 rfl ?_
  refine zk_iconst (v := 1) hX dL_law_822 (by decide) ?_
  refine zk_iadd hX dL_law_823 ?_
  refine zk_sld hX hs dL_law_824 h1 ?_
  refine zk_fload_n hX dL_law_825 rfl ?_
  refine zk_iload_n hX dL_law_826 rfl ?_
  refine zk_iconst (v := 2) hX dL_law_827 (by decide) ?_
  refine zk_iadd hX dL_law_828 ?_
  refine zk_sld hX hs dL_law_829 h2 ?_
  refine zk_V2ip hX dL_law_830 kcX12_about mlL_88 viX12_about rfl k_166 z_166 q1 (Nat.le_of_ble_eq_true rfl) rfl (fun r2 w2 q2 => ?_)
  obtain ⟨rfl, hq2⟩ := q2
  exact zk_icmp_eq (tgt := 1744) hX dL_law_833 (by decide) (fun _ => kk _ hq2) (fun h => absurd rfl h)
theorem lw_c18 {G : zG} {X : zX} {L : Nat} {xs : Nat → Int32} {x : Int32} {w : zW} (hX : zH G X mL_law) (hs : zScr G X.2.2.1 L xs) (h1 : vp_in (x + 1) L) (h2 : vp_in (x + 2) L) (hq : zQ w) (kk : ∀ w, zQ w → zk0 G X mL_law 1744 [.float 0, .ref 0, .ref 166, .int x] [] w) : zk0 G X mL_law 838 [.float 0, .ref 0, .ref 166, .int x] [] w := by
  refine zk_aload_n hX dL_law_838 rfl ?_
  refine zk_fload_n hX dL_law_839 rfl ?_
  refine zk_iload_n hX dL_law_840 rfl ?_
  refine zk_iconst (v := 1) hX dL_law_841 (by decide) ?_
  refine zk_iadd hX dL_law_842 ?_
  refine zk_sld hX hs dL_law_843 h1 ?_
  refine zk_fload_n hX dL_law_844 rfl ?_
  refine zk_iload_n hX dL_law_845 rfl ?_
  refine zk_iconst (v := 2) hX dL_law_846 (by decide) ?_
  refine zk_iadd hX dL_law_847 ?_
  refine zk_sld hX hs dL_law_848 h2 ?_
  refine zk_V2ip hX dL_law_849 kcX11_turn mlL_89 viX11_turn rfl k_0 z_0 (zO_turn _ _ w hq) (Nat.le_of_ble_eq_true rfl) rfl (fun r1 w1 q1 => ?_)
  refine zk_aload_n hX dL_law_852 rfl ?_
  refine zk_fload_n hX dL_law_853 rfl ?_
  refine zk_iload_n hX dL_law_854 rfl ?_
  refine zk_iconst (v := 1) hX dL_law_855 (by decide) ?_
  refine zk_iadd hX dL_law_856 ?_
  refine zk_sld hX hs dL_law_857 h1 ?_
  refine zk_fload_n hX dL_law_858 rfl ?_
  refine zk_iload_n hX dL_law_859 rfl ?_
  refine zk_iconst (v := 2) hX dL_law_860 (by decide) ?_
  refine zk_iadd hX dL_law_861 ?_
  refine zk_sld hX hs dL_law_862 h2 ?_
  refine zk_V2ip hX dL_law_863 kcX12_turn mlL_92 viX12_turn rfl k_166 z_166 q1 (Nat.le_of_ble_eq_true rfl) rfl (fun r2 w2 q2 => ?_)
  obtain ⟨rfl, hq2⟩ := q2
  exact zk_icmp_eq (tgt := 1744) hX dL_law_866 (by decide) (fun _ => kk _ hq2) (fun h => absurd rfl h)
theorem lw_c19 {G : zG} {X : zX} {L : Nat} {xs : Nat → Int32} {x : Int32} {w : zW} (hX : zH G X mL_law) (hs : zScr G X.2.2.1 L xs) (h1 : vp_in (x + 1) L) (h2 : vp_in (x + 2) L) (hq : zQ w) (kk : ∀ w, zQ w → zk0 G X mL_law 1744 [.float 0, .ref 0, .ref 166, .int x] [] w) : zk0 G X mL_law 871 [.float 0, .ref 0, .ref 166, .int x] [] w := by
  refine zk_aload_n hX dL_law_871 rfl ?_
  refine zk_fload_n hX dL_law_872 rfl ?_
  refine zk_iload_n hX dL_law_873 rfl ?_
  refine zk_iconst (v := 1) hX dL_law_874 (by decide) ?_
  refine zk_iadd hX dL_law_875 ?_
  refine zk_sld hX hs dL_law_876 h1 ?_
  refine zk_fload_n hX dL_law_877 rfl ?_
  refine zk_iload_n hX dL_law_878 rfl ?_
  refine zk_iconst (v := 2) hX dL_law_879 (by decide) ?_
  refine zk_iadd hX dL_law_880 ?_
  refine zk_sld hX hs dL_law_881 h2 ?_
  refine zk_V2ip hX dL_law_882 kcX11_mark mlL_93 viX11_mark rfl k_0 z_0 (zO_mark _ _ w hq) (Nat.le_of_ble_eq_true rfl) rfl (fun r1 w1 q1 => ?_)
  refine zk_aload_n hX dL_law_885 rfl ?_
  refine zk_fload_n hX dL_law_886 rfl ?_
  refine zk_iload_n hX dL_law_887 rfl ?_
  refine zk_iconst (v := 1) hX dL_law_888 (by decide) ?_
  refine zk_iadd hX dL_law_889 ?_
  refine zk_sld hX hs dL_law_890 h1 ?_
  refine zk_fload_n hX dL_law_891 rfl ?_
  refine zk_iload_n hX dL_law_892 rfl ?_
  refine zk_iconst (v := 2) hX dL_law_893 (by decide) ?_
  refine zk_iadd hX dL_law_894 ?_
  refine zk_sld hX hs dL_law_895 h2 ?_
  refine zk_V2ip hX dL_law_896 kcX12_mark mlL_96 viX12_mark rfl k_166 z_166 q1 (Nat.le_of_ble_eq_true rfl) rfl (fun r2 w2 q2 => ?_)
  obtain ⟨rfl, hq2⟩ := q2
  exact zk_icmp_eq (tgt := 1744) hX dL_law_899 (by decide) (fun _ => kk _ hq2) (fun h => absurd rfl h)
theorem lw_c20 {G : zG} {X : zX} {L : Nat} {xs : Nat → Int32} {x : Int32} {w : zW} (hX : zH G X mL_law) (hs : zScr G X.2.2.1 L xs) (h1 : vp_in (x + 1) L) (h2 : vp_in (x + 2) L) (hq : zQ w) (kk : ∀ w, zQ w → zk0 G X mL_law 1744 [.float 0, .ref 0, .ref 166, .int x] [] w) : zk0 G X mL_law 904 [.float 0, .ref 0, .ref 166, .int x] [] w := by
  refine zk_aload_n hX dL_law_904 rfl ?_
  refine zk_fload_n hX dL_law_905 rfl ?_
  refine zk_iload_n hX dL_law_906 rfl ?_
  refine zk_iconst (v := 1) hX dL_law_907 (by decide) ?_
  refine zk_iadd hX dL_law_908 ?_
  refine zk_sld hX hs dL_law_909 h1 ?_
  refine zk_fload_n hX dL_law_910 rfl ?_
  refine zk_iload_n hX dL_law_911 rfl ?_
  refine zk_iconst (v := 2) hX dL_law_912 (by decide) ?_
  refine zk_iadd hX dL_law_913 ?_
  refine zk_sld hX hs dL_law_914 h2 ?_
  refine zk_V2ip hX dL_law_915 kcX11_shape mlL_97 viX11_shape rfl k_0 z_0 (zO_shape _ _ w hq) (Nat.le_of_ble_eq_true rfl) rfl (fun r1 w1 q1 => ?_)
  refine zk_aload_n hX dL_law_918 rfl ?_
  refine zk_fload_n hX dL_law_919 rfl ?_
  refine zk_iload_n hX dL_law_920 rfl ?_
  refine zk_iconst (v := 1) hX dL_law_921 (by decide) ?_
  refine zk_iadd hX dL_law_922 ?_
  refine zk_sld hX hs dL_law_923 h1 ?_
  refine zk_fload_n hX dL_law_924 rfl ?_
  refine zk_iload_n hX dL_law_925 rfl ?_
  refine zk_iconst (v := 2) hX dL_law_926 (by decide) ?_
  refine zk_iadd hX dL_law_927 ?_
  refine zk_sld hX hs dL_law_928 h2 ?_
  refine zk_V2ip hX dL_law_929 kcX12_shape mlL_100 viX12_shape rfl k_166 z_166 q1 (Nat.le_of_ble_eq_true rfl) rfl (fun r2 w2 q2 => ?_)
  obtain ⟨rfl, hq2⟩ := q2
  exact zk_icmp_eq (tgt := 1744) hX dL_law_932 (by decide) (fun _ => kk _ hq2) (fun h => absurd rfl h)
theorem lw_c21 {G : zG} {X : zX} {L : Nat} {xs : Nat → Int32} {x : Int32} {w : zW} (hX : zH G X mL_law) (hs : zScr G X.2.2.1 L xs) (h1 : vp_in (x + 1) L) (h2 : vp_in (x + 2) L) (hq : zQ w) (kk : ∀ w, zQ w → zk0 G X mL_law 1744 [.float 0, .ref 0, .ref 166, .int x] [] w) : zk0 G X mL_law 937 [.float 0, .ref 0, .ref 166, .int x] [] w := by
  refine zk_aload_n hX dL_law_937 rfl ?_
  refine zk_fload_n hX dL_law_938 rfl ?_
  refine zk_iload_n hX dL_law_939 rfl ?_
  refine zk_iconst (v := 1) hX dL_law_940 (by decide) ?_
  refine zk_iadd hX dL_law_941 ?_
  refine zk_sld hX hs dL_law_942 h1 ?_
  refine zk_fload_n hX dL_law_943 rfl ?_
  refine zk_iload_n hX dL_law_944 rfl ?_
  refine zk_iconst (v := 2) hX dL_law_945 (by decide) ?_
  refine zk_iadd hX dL_law_946 ?_
  refine zk_sld hX hs dL_law_947 h2 ?_
  refine zk_V2ip hX dL_law_948 kcX11_thrown mlL_101 viX11_thrown rfl k_0 z_0 (zO_thrown _ _ w hq) (Nat.le_of_ble_eq_true rfl) rfl (fun r1 w1 q1 => ?_)
  refine zk_aload_n hX dL_law_951 rfl ?_
  refine zk_fload_n hX dL_law_952 rfl ?_
  refine zk_iload_n hX dL_law_953 rfl ?_
  refine zk_iconst (v := 1) hX dL_law_954 (by decide) ?_
  refine zk_iadd hX dL_law_955 ?_
  refine zk_sld hX hs dL_law_956 h1 ?_
  refine zk_fload_n hX dL_law_957 rfl ?_
  refine zk_iload_n hX dL_law_958 rfl ?_
  refine zk_iconst (v := 2) hX dL_law_959 (by decide) ?_
  refine zk_iadd hX dL_law_960 ?_
  refine zk_sld hX hs dL_law_961 h2 ?_
  refine zk_V2ip hX dL_law_962 kcX12_thrown mlL_104 viX12_thrown rfl k_166 z_166 q1 (Nat.le_of_ble_eq_true rfl) rfl (fun r2 w2 q2 => ?_)
  obtain ⟨rfl, hq2⟩ := q2
  exact zk_icmp_eq (tgt := 1744) hX dL_law_965 (by decide) (fun _ => kk _ hq2) (fun h => absurd rfl h)
theorem lw_c22 {G : zG} {X : zX} {L : Nat} {xs : Nat → Int32} {x : Int32} {w : zW} (hX : zH G X mL_law) (hs : zScr G X.2.2.1 L xs) (h1 : vp_in (x + 1) L) (h2 : vp_in (x + 2) L) (h3 : vp_in (x + 3) L) (h4 : vp_in (x + 4) L) (hq : zQ w) (kk : ∀ w, zQ w → zk0 G X mL_law 1744 [.float 0, .ref 0, .ref 166, .int x] [] w) : zk0 G X mL_law 970 [.float 0, .ref 0, .ref 166, .int x] [] w := by
  refine zk_aload_n hX dL_law_970 rfl ?_
  refine zk_fload_n hX dL_law_971 rfl ?_
  refine zk_iload_n hX dL_law_972 rfl ?_
  refine zk_iconst (v := 1) hX dL_law_973 (by decide) ?_
  refine zk_iadd hX dL_law_974 ?_
  refine zk_sld hX hs dL_law_975 h1 ?_
  refine zk_fload_n hX dL_law_976 rfl ?_
  refine zk_iload_n hX dL_law_977 rfl ?_
  refine zk_iconst (v := 2) hX dL_law_978 (by decide) ?_
  refine zk_iadd hX dL_law_979 ?_
  refine zk_sld hX hs dL_law_980 h2 ?_
  refine zk_fload_n hX dL_law_981 rfl ?_
  refine zk_iload_n hX dL_law_982 rfl ?_
  refine zk_iconst (v := 3) hX dL_law_983 (by decide) ?_
  refine zk_iadd hX dL_law_984 ?_
  refine zk_sld hX hs dL_law_985 h3 ?_
  refine zk_fload_n hX dL_law_986 rfl ?_
  refine zk_iload_n hX dL_law_987 rfl ?_
  refine zk_iconst (v := 4) hX dL_law_988 (by decide) ?_
  refine zk_iadd hX dL_law_989 ?_
  refine zk_sld hX hs dL_law_990 h4 ?_
  refine zk_V4ip hX dL_law_991 kcX11_beast mlL_105 viX11_beast rfl k_0 z_0 (zO_beast _ _ _ _ w hq) (Nat.le_of_ble_eq_true rfl) rfl (fun r1 w1 q1 => ?_)
  refine zk_aload_n hX dL_law_994 rfl ?_
  refine zk_fload_n hX dL_law_995 rfl ?_
  refine zk_iload_n hX dL_law_996 rfl ?_
  refine zk_iconst (v := 1) hX dL_law_997 (by decide) ?_
  refine zk_iadd hX dL_law_998 ?_
  refine zk_sld hX hs dL_law_999 h1 ?_
  refine zk_fload_n hX dL_law_1000 rfl ?_
  refine zk_iload_n hX dL_law_1001 rfl ?_
  refine zk_iconst (v := 2) hX dL_law_1002 (by decide) ?_
  refine zk_iadd hX dL_law_1003 ?_
  refine zk_sld hX hs dL_law_1004 h2 ?_
  refine zk_fload_n hX dL_law_1005 rfl ?_
  refine zk_iload_n hX dL_law_1006 rfl ?_
  refine zk_iconst (v := 3) hX dL_law_1007 (by decide) ?_
  refine zk_iadd hX dL_law_1008 ?_
  refine zk_sld hX hs dL_law_1009 h3 ?_
  refine zk_fload_n hX dL_law_1010 rfl ?_
  refine zk_iload_n hX dL_law_1011 rfl ?_
  refine zk_iconst (v := 4) hX dL_law_1012 (by decide) ?_
  refine zk_iadd hX dL_law_1013 ?_
  refine zk_sld hX hs dL_law_1014 h4 ?_
  refine zk_V4ip hX dL_law_1015 kcX12_beast mlL_109 viX12_beast rfl k_166 z_166 q1 (Nat.le_of_ble_eq_true rfl) rfl (fun r2 w2 q2 => ?_)
  obtain ⟨rfl, hq2⟩ := q2
  exact zk_icmp_eq (tgt := 1744) hX dL_law_1018 (by decide) (fun _ => kk _ hq2) (fun h => absurd rfl h)
theorem lw_c23 {G : zG} {X : zX} {L : Nat} {xs : Nat → Int32} {x : Int32} {w : zW} (hX : zH G X mL_law) (hs : zScr G X.2.2.1 L xs) (h1 : vp_in (x + 1) L) (h2 : vp_in (x + 2) L) (hq : zQ w) (kk : ∀ w, zQ w → zk0 G X mL_law 1744 [.float 0, .ref 0, .ref 166, .int x] [] w) : zk0 G X mL_law 1023 [.float 0, .ref 0, .ref 166, .int x] [] w := by
  refine zk_aload_n hX dL_law_1023 rfl ?_
  refine zk_fload_n hX dL_law_1024 rfl ?_
  refine zk_iload_n hX dL_law_1025 rfl ?_
  refine zk_iconst (v := 1) hX dL_law_1026 (by decide) ?_
  refine zk_iadd hX dL_law_1027 ?_
  refine zk_sld hX hs dL_law_1028 h1 ?_
  refine zk_fload_n hX dL_law_1029 rfl ?_
  refine zk_iload_n hX dL_law_1030 rfl ?_
  refine zk_iconst (v := 2) hX dL_law_1031 (by decide) ?_
  refine zk_iadd hX dL_law_1032 ?_
  refine zk_sld hX hs dL_law_1033 h2 ?_
  refine zk_V2ip hX dL_law_1034 kcX11_off mlL_110 viX11_off rfl k_0 z_0 (zO_off _ _ w hq) (Nat.le_of_ble_eq_true rfl) rfl (fun r1 w1 q1 => ?_)
  refine zk_aload_n hX dL_law_1037 rfl ?_
  refine zk_fload_n hX dL_law_1038 rfl ?_
  refine zk_iload_n hX dL_law_1039 rfl ?_
  refine zk_iconst (v := 1) hX dL_law_1040 (by decide) ?_
  refine zk_iadd hX dL_law_1041 ?_
  refine zk_sld hX hs dL_law_1042 h1 ?_
  refine zk_fload_n hX dL_law_1043 rfl ?_
  refine zk_iload_n hX dL_law_1044 rfl ?_
  refine zk_iconst (v := 2) hX dL_law_1045 (by decide) ?_
  refine zk_iadd hX dL_law_1046 ?_
  refine zk_sld hX hs dL_law_1047 h2 ?_
  refine zk_V2ip hX dL_law_1048 kcX12_off mlL_113 viX12_off rfl k_166 z_166 q1 (Nat.le_of_ble_eq_true rfl) rfl (fun r2 w2 q2 => ?_)
  obtain ⟨rfl, hq2⟩ := q2
  exact zk_icmp_eq (tgt := 1744) hX dL_law_1051 (by decide) (fun _ => kk _ hq2) (fun h => absurd rfl h)
theorem lw_c24 {G : zG} {X : zX} {L : Nat} {xs : Nat → Int32} {x : Int32} {w : zW} (hX : zH G X mL_law) (hs : zScr G X.2.2.1 L xs)  (hq : zQ w) (kk : ∀ w, zQ w → zk0 G X mL_law 1744 [.float 0, .ref 0, .ref 166, .int x] [] w) : zk0 G X mL_law 1056 [.float 0, .ref 0, .ref 166, .int x] [] w := by
  refine zk_aload_n hX dL_law_1056 rfl ?_
  refine zk_V0ip hX dL_law_1057 kcX11_many mlL_114 viX11_many rfl k_0 z_0 (zO_many  w hq) (Nat.le_of_ble_eq_true rfl) rfl (fun r1 w1 q1 => ?_)
  refine zk_aload_n hX dL_law_1060 rfl ?_
  refine zk_V0ip hX dL_law_1061 kcX12_many mlL_118 viX12_many rfl k_166 z_166 q1 (Nat.le_of_ble_eq_true rfl) rfl (fun r2 w2 q2 => ?_)
  obtain ⟨rfl, hq2⟩ := q2
  exact zk_icmp_eq (tgt := 1744) hX dL_law_1064 (by decide) (fun _ => kk _ hq2) (fun h => absurd rfl h)
theorem lw_c25 {G : zG} {X : zX} {L : Nat} {xs : Nat → Int32} {x : Int32} {w : zW} (hX : zH G X mL_law) (hs : zScr G X.2.2.1 L xs) (h1 : vp_in (x + 1) L) (h2 : vp_in (x + 2) L) (hq : zQ w) (kk : ∀ w, zQ w → zk0 G X mL_law 1744 [.float 0, .ref 0, .ref 166, .int x] [] w) : zk0 G X mL_law 1069 [.float 0, .ref 0, .ref 166, .int x] [] w := by
  refine zk_aload_n hX dL_law_1069 rfl ?_
  refine zk_fload_n hX dL_law_1070 rfl ?_
  refine zk_iload_n hX dL_law_1071 rfl ?_
  refine zk_iconst (v := 1) hX dL_law_1072 (by decide) ?_
  refine zk_iadd hX dL_law_1073 ?_
  refine zk_sld hX hs dL_law_1074 h1 ?_
  refine zk_fload_n hX dL_law_1075 rfl ?_
  refine zk_iload_n hX dL_law_1076 rfl ?_
  refine zk_iconst (v := 2) hX dL_law_1077 (by decide) ?_
  refine zk_iadd hX dL_law_1078 ?_
  refine zk_sld hX hs dL_law_1079 h2 ?_
  refine zk_V2ip hX dL_law_1080 kcX11_nearest mlL_119 viX11_nearest rfl k_0 z_0 (zO_nearest _ _ w hq) (Nat.le_of_ble_eq_true rfl) rfl (fun r1 w1 q1 => ?_)
  refine zk_aload_n hX dL_law_1083 rfl ?_
  refine zk_fload_n hX dL_law_1084 rfl ?_
  refine zk_iload_n hX dL_law_1085 rfl ?_
  refine zk_iconst (v := 1) hX dL_law_1086 (by decide) ?_
  refine zk_iadd hX dL_law_1087 ?_
  refine zk_sld hX hs dL_law_1088 h1 ?_
  refine zk_fload_n hX dL_law_1089 rfl ?_
  refine zk_iload_n hX dL_law_1090 rfl ?_
  refine zk_iconst (v := 2) hX dL_law_1091 (by decide) ?_
  refine zk_iadd hX dL_law_1092 ?_
  refine zk_sld hX hs dL_law_1093 h2 ?_
  refine zk_V2ip hX dL_law_1094 kcX12_nearest mlL_122 viX12_nearest rfl k_166 z_166 q1 (Nat.le_of_ble_eq_true rfl) rfl (fun r2 w2 q2 => ?_)
  obtain ⟨rfl, hq2⟩ := q2
  exact zk_icmp_eq (tgt := 1744) hX dL_law_1097 (by decide) (fun _ => kk _ hq2) (fun h => absurd rfl h)
theorem lw_c26 {G : zG} {X : zX} {L : Nat} {xs : Nat → Int32} {x : Int32} {w : zW} (hX : zH G X mL_law) (hs : zScr G X.2.2.1 L xs) (h1 : vp_in (x + 1) L) (h2 : vp_in (x + 2) L) (hq : zQ w) (kk : ∀ w, zQ w → zk0 G X mL_law 1744 [.float 0, .ref 0, .ref 166, .int x] [] w) : zk0 G X mL_law 1102 [.float 0, .ref 0, .ref 166, .int x] [] w := by
  refine zk_aload_n hX dL_law_1102 rfl ?_
  refine zk_fload_n hX dL_law_1103 rfl ?_
  refine zk_iload_n hX dL_law_1104 rfl ?_
  refine zk_iconst (v := 1) hX dL_law_1105 (by decide) ?_
  refine zk_iadd hX dL_law_1106 ?_
  refine zk_sld hX hs dL_law_1107 h1 ?_
  refine zk_fload_n hX dL_law_1108 rfl ?_
  refine zk_iload_n hX dL_law_1109 rfl ?_
  refine zk_iconst (v := 2) hX dL_law_1110 (by decide) ?_
  refine zk_iadd hX dL_law_1111 ?_
  refine zk_sld hX hs dL_law_1112 h2 ?_
  refine zk_V2ip hX dL_law_1113 kcX11_never mlL_123 viX11_never rfl k_0 z_0 (zO_never _ _ w hq) (Nat.le_of_ble_eq_true rfl) rfl (fun r1 w1 q1 => ?_)
  refine zk_aload_n hX dL_law_1116 rfl ?_
  refine zk_fload_n hX dL_law_1117 rfl ?_
  refine zk_iload_n hX dL_law_1118 rfl ?_
  refine zk_iconst (v := 1) hX dL_law_1119 (by decide) ?_
  refine zk_iadd hX dL_law_1120 ?_
  refine zk_sld hX hs dL_law_1121 h1 ?_
  refine zk_fload_n hX dL_law_1122 rfl ?_
  refine zk_iload_n hX dL_law_1123 rfl ?_
  refine zk_iconst (v := 2) hX dL_law_1124 (by decide) ?_
  refine zk_iadd hX dL_law_1125 ?_
  refine zk_sld hX hs dL_law_1126 h2 ?_
  refine zk_V2ip hX dL_law_1127 kcX12_never mlL_126 viX12_never rfl k_166 z_166 q1 (Nat.le_of_ble_eq_true rfl) rfl (fun r2 w2 q2 => ?_)
  obtain ⟨rfl, hq2⟩ := q2
  exact zk_icmp_eq (tgt := 1744) hX dL_law_1130 (by decide) (fun _ => kk _ hq2) (fun h => absurd rfl h)
theorem lw_c27 {G : zG} {X : zX} {L : Nat} {xs : Nat → Int32} {x : Int32} {w : zW} (hX : zH G X mL_law) (hs : zScr G X.2.2.1 L xs) (h1 : vp_in (x + 1) L) (hq : zQ w) (kk : ∀ w, zQ w → zk0 G X mL_law 1744 [.float 0, .ref 0, .ref 166, .int x] [] w) : zk0 G X mL_law 1135 [.float 0, .ref 0, .ref 166, .int x] [] w := by
  refine zk_aload_n hX dL_law_1135 rfl ?_
  refine zk_fload_n hX dL_law_1136 rfl ?_
  refine zk_iload_n hX dL_law_1137 rfl ?_
  refine zk_iconst (v := 1) hX dL_law_1138 (by decide) ?_
  refine zk_iadd hX dL_law_1139 ?_
  refine zk_sld hX hs dL_law_1140 h1 ?_
  refine zk_V1ip hX dL_law_1141 kcX11_sets mlL_127 viX11_sets rfl k_0 z_0 (zO_sets _ w hq) (Nat.le_of_ble_eq_true rfl) rfl (fun r1 w1 q1 => ?_)
  refine zk_aload_n hX dL_law_1144 rfl ?_
  refine zk_fload_n hX dL_law_1145 rfl ?_
  refine zk_iload_n hX dL_law_1146 rfl ?_
  refine zk_iconst (v := 1) hX dL_law_1147 (by decide) ?_
  refine zk_iadd hX dL_law_1148 ?_
  refine zk_sld hX hs dL_law_1149 h1 ?_
  refine zk_V1ip hX dL_law_1150 kcX12_sets mlL_130 viX12_sets rfl k_166 z_166 q1 (Nat.le_of_ble_eq_true rfl) rfl (fun r2 w2 q2 => ?_)
  obtain ⟨rfl, hq2⟩ := q2
  exact zk_icmp_eq (tgt := 1744) hX dL_law_1153 (by decide) (fun _ => kk _ hq2) (fun h => absurd rfl h)
theorem lw_c28 {G : zG} {X : zX} {L : Nat} {xs : Nat → Int32} {x : Int32} {w : zW} (hX : zH G X mL_law) (hs : zScr G X.2.2.1 L xs) (h1 : vp_in (x + 1) L) (h2 : vp_in (x + 2) L) (hq : zQ w) (kk : ∀ w, zQ w → zk0 G X mL_law 1744 [.float 0, .ref 0, .ref 166, .int x] [] w) : zk0 G X mL_law 1158 [.float 0, .ref 0, .ref 166, .int x] [] w := by
  refine zk_aload_n hX dL_law_1158 rfl ?_
  refine zk_fload_n hX dL_law_1159 rfl ?_
  refine zk_iload_n hX dL_law_1160 rfl ?_
  refine zk_iconst (v := 1) hX dL_law_1161 (by decide) ?_
  refine zk_iadd hX dL_law_1162 ?_
  refine zk_sld hX hs dL_law_1163 h1 ?_
  refine zk_fload_n hX dL_law_1164 rfl ?_
  refine zk_iload_n hX dL_law_1165 rfl ?_
  refine zk_iconst (v := 2) hX dL_law_1166 (by decide) ?_
  refine zk_iadd hX dL_law_1167 ?_
  refine zk_sld hX hs dL_law_1168 h2 ?_
  refine zk_V2ip hX dL_law_1169 kcX11_way mlL_131 viX11_way rfl k_0 z_0 (zO_way _ _ w hq) (Nat.le_of_ble_eq_true rfl) rfl (fun r1 w1 q1 => ?_)
  refine zk_aload_n hX dL_law_1172 rfl ?_
  refine zk_fload_n hX dL_law_1173 rfl ?_
  refine zk_iload_n hX dL_law_1174 rfl ?_
  refine zk_iconst (v := 1) hX dL_law_1175 (by decide) ?_
  refine zk_iadd hX dL_law_1176 ?_
  refine zk_sld hX hs dL_law_1177 h1 ?_
  refine zk_fload_n hX dL_law_1178 rfl ?_
  refine zk_iload_n hX dL_law_1179 rfl ?_
  refine zk_iconst (v := 2) hX dL_law_1180 (by decide) ?_
  refine zk_iadd hX dL_law_1181 ?_
  refine zk_sld hX hs dL_law_1182 h2 ?_
  refine zk_V2ip hX dL_law_1183 kcX12_way mlL_134 viX12_way rfl k_166 z_166 q1 (Nat.le_of_ble_eq_true rfl) rfl (fun r2 w2 q2 => ?_)
  obtain ⟨rfl, hq2⟩ := q2
  exact zk_icmp_eq (tgt := 1744) hX dL_law_1186 (by decide) (fun _ => kk _ hq2) (fun h => absurd rfl h)
theorem lw_c29 {G : zG} {X : zX} {L : Nat} {xs : Nat → Int32} {x : Int32} {w : zW} (hX : zH G X mL_law) (hs : zScr G X.2.2.1 L xs) (h1 : vp_in (x + 1) L) (h2 : vp_in (x + 2) L) (h3 : vp_in (x + 3) L) (h4 : vp_in (x + 4) L) (hq : zQ w) (kk : ∀ w, zQ w → zk0 G X mL_law 1744 [.float 0, .ref 0, .ref 166, .int x] [] w) : zk0 G X mL_law 1191 [.float 0, .ref 0, .ref 166, .int x] [] w := by
  refine zk_aload_n hX dL_law_1191 rfl ?_
  refine zk_fload_n hX dL_law_1192 rfl ?_
  refine zk_iload_n hX dL_law_1193 rfl ?_
  refine zk_iconst (v := 1) hX dL_law_1194 (by decide) ?_
  refine zk_iadd hX dL_law_1195 ?_
  refine zk_sld hX hs dL_law_1196 h1 ?_
  refine zk_fload_n hX dL_law_1197 rfl ?_
  refine zk_iload_n hX dL_law_1198 rfl ?_
  refine zk_iconst (v := 2) hX dL_law_1199 (by decide) ?_
  refine zk_iadd hX dL_law_1200 ?_
  refine zk_sld hX hs dL_law_1201 h2 ?_
  refine zk_fload_n hX dL_law_1202 rfl ?_
  refine zk_iload_n hX dL_law_1203 rfl ?_
  refine zk_iconst (v := 3) hX dL_law_1204 (by decide) ?_
  refine zk_iadd hX dL_law_1205 ?_
  refine zk_sld hX hs dL_law_1206 h3 ?_
  refine zk_fload_n hX dL_law_1207 rfl ?_
  refine zk_iload_n hX dL_law_1208 rfl ?_
  refine zk_iconst (v := 4) hX dL_law_1209 (by decide) ?_
  refine zk_iadd hX dL_law_1210 ?_
  refine zk_sld hX hs dL_law_1211 h4 ?_
  refine zk_V4ip hX dL_law_1212 kcX11_unseen mlL_135 viX11_unseen rfl k_0 z_0 (zO_unseen _ _ _ _ w hq) (Nat.le_of_ble_eq_true rfl) rfl (fun r1 w1 q1 => ?_)
  refine zk_aload_n hX dL_law_1215 rfl ?_
  refine zk_fload_n hX dL_law_1216 rfl ?_
  refine zk_iload_n hX dL_law_1217 rfl ?_
  refine zk_iconst (v := 1) hX dL_law_1218 (by decide) ?_
  refine zk_iadd hX dL_law_1219 ?_
  refine zk_sld hX hs dL_law_1220 h1 ?_
  refine zk_fload_n hX dL_law_1221 rfl ?_
  refine zk_iload_n hX dL_law_1222 rfl ?_
  refine zk_iconst (v := 2) hX dL_law_1223 (by decide) ?_
  refine zk_iadd hX dL_law_1224 ?_
  refine zk_sld hX hs dL_law_1225 h2 ?_
  refine zk_fload_n hX dL_law_1226 rfl ?_
  refine zk_iload_n hX dL_law_1227 rfl ?_
  refine zk_iconst (v := 3) hX dL_law_1228 (by decide) ?_
  refine zk_iadd hX dL_law_1229 ?_
  refine zk_sld hX hs dL_law_1230 h3 ?_
  refine zk_fload_n hX dL_law_1231 rfl ?_
  refine zk_iload_n hX dL_law_1232 rfl ?_
  refine zk_iconst (v := 4) hX dL_law_1233 (by decide) ?_
  refine zk_iadd hX dL_law_1234 ?_
  refine zk_sld hX hs dL_law_1235 h4 ?_
  refine zk_V4ip hX dL_law_1236 kcX12_unseen mlL_138 viX12_unseen rfl k_166 z_166 q1 (Nat.le_of_ble_eq_true rfl) rfl (fun r2 w2 q2 => ?_)
  obtain ⟨rfl, hq2⟩ := q2
  exact zk_icmp_eq (tgt := 1744) hX dL_law_1239 (by decide) (fun _ => kk _ hq2) (fun h => absurd rfl h)
theorem lw_c30 {G : zG} {X : zX} {L : Nat} {xs : Nat → Int32} {x : Int32} {w : zW} (hX : zH G X mL_law) (hs : zScr G X.2.2.1 L xs) (h1 : vp_in (x + 1) L) (h2 : vp_in (x + 2) L) (hq : zQ w) (kk : ∀ w, zQ w → zk0 G X mL_law 1744 [.float 0, .ref 0, .ref 166, .int x] [] w) : zk0 G X mL_law 1244 [.float 0, .ref 0, .ref 166, .int x] [] w := by
  refine zk_aload_n hX dL_law_1244 rfl ?_
  refine zk_fload_n hX dL_law_1245 rfl ?_
  refine zk_iload_n hX dL_law_1246 rfl ?_
  refine zk_iconst (v := 1) hX dL_law_1247 (by decide) ?_
  refine zk_iadd hX dL_law_1248 ?_
  refine zk_sld hX hs dL_law_1249 h1 ?_
  refine zk_fload_n hX dL_law_1250 rfl ?_
  refine zk_iload_n hX dL_law_1251 rfl ?_
  refine zk_iconst (v := 2) hX dL_law_1252 (by decide) ?_
  refine zk_iadd hX dL_law_1253 ?_
  refine zk_sld hX hs dL_law_1254 h2 ?_
  refine zk_V2ip hX dL_law_1255 kcX11_where mlL_139 viX11_where rfl k_0 z_0 (zO_where _ _ w hq) (Nat.le_of_ble_eq_true rfl) rfl (fun r1 w1 q1 => ?_)
  refine zk_aload_n hX dL_law_1258 rfl ?_
  refine zk_fload_n hX dL_law_1259 rfl ?_
  refine zk_iload_n hX dL_law_1260 rfl ?_
  refine zk_iconst (v := 1) hX dL_law_1261 (by decide) ?_
  refine zk_iadd hX dL_law_1262 ?_
  refine zk_sld hX hs dL_law_1263 h1 ?_
  refine zk_fload_n hX dL_law_1264 rfl ?_
  refine zk_iload_n hX dL_law_1265 rfl ?_
  refine zk_iconst (v := 2) hX dL_law_1266 (by decide) ?_
  refine zk_iadd hX dL_law_1267 ?_
  refine zk_sld hX hs dL_law_1268 h2 ?_
  refine zk_V2ip hX dL_law_1269 kcX12_where mlL_142 viX12_where rfl k_166 z_166 q1 (Nat.le_of_ble_eq_true rfl) rfl (fun r2 w2 q2 => ?_)
  obtain ⟨rfl, hq2⟩ := q2
  exact zk_icmp_eq (tgt := 1744) hX dL_law_1272 (by decide) (fun _ => kk _ hq2) (fun h => absurd rfl h)
theorem lw_c31 {G : zG} {X : zX} {L : Nat} {xs : Nat → Int32} {x : Int32} {w : zW} (hX : zH G X mL_law) (hs : zScr G X.2.2.1 L xs) (h1 : vp_in (x + 1) L) (hq : zQ w) (kk : ∀ w, zQ w → zk0 G X mL_law 1744 [.float 0, .ref 0, .ref 166, .int x] [] w) : zk0 G X mL_law 1277 [.float 0, .ref 0, .ref 166, .int x] [] w := by
  refine zk_aload_n hX dL_law_1277 rfl ?_
  refine zk_fload_n hX dL_law_1278 rfl ?_
  refine zk_iload_n hX dL_law_1279 rfl ?_
  refine zk_iconst (v := 1) hX dL_law_1280 (by decide) ?_
  refine zk_iadd hX dL_law_1281 ?_
  refine zk_sld hX hs dL_law_1282 h1 ?_
  refine zk_V1ip hX dL_law_1283 kcX11_picture mlL_143 viX11_picture rfl k_0 z_0 (zO_picture _ w hq) (Nat.le_of_ble_eq_true rfl) rfl (fun r1 w1 q1 => ?_)
  refine zk_aload_n hX dL_law_1286 rfl ?_
  refine zk_fload_n hX dL_law_1287 rfl ?_
  refine zk_iload_n hX dL_law_1288 rfl ?_
  refine zk_iconst (v := 1) hX dL_law_1289 (by decide) ?_
  refine zk_iadd hX dL_law_1290 ?_
  refine zk_sld hX hs dL_law_1291 h1 ?_
  refine zk_V1ip hX dL_law_1292 kcX12_picture mlL_146 viX12_picture rfl k_166 z_166 q1 (Nat.le_of_ble_eq_true rfl) rfl (fun r2 w2 q2 => ?_)
  obtain ⟨rfl, hq2⟩ := q2
  exact zk_icmp_eq (tgt := 1744) hX dL_law_1295 (by decide) (fun _ => kk _ hq2) (fun h => absurd rfl h)
theorem lw_c32 {G : zG} {X : zX} {L : Nat} {xs : Nat → Int32} {x : Int32} {w : zW} (hX : zH G X mL_law) (hs : zScr G X.2.2.1 L xs) (h1 : vp_in (x + 1) L) (h2 : vp_in (x + 2) L) (hq : zQ w) (kk : ∀ w, zQ w → zk0 G X mL_law 1744 [.float 0, .ref 0, .ref 166, .int x] [] w) : zk0 G X mL_law 1300 [.float 0, .ref 0, .ref 166, .int x] [] w := by
  refine zk_aload_n hX dL_law_1300 rfl ?_
  refine zk_fload_n hX dL_law_1301 rfl ?_
  refine zk_iload_n hX dL_law_1302 rfl ?_
  refine zk_iconst (v := 1) hX dL_law_1303 (by decide) ?_
  refine zk_iadd hX dL_law_1304 ?_
  refine zk_sld hX hs dL_law_1305 h1 ?_
  refine zk_fload_n hX dL_law_1306 rfl ?_
  refine zk_iload_n hX dL_law_1307 rfl ?_
  refine zk_iconst (v := 2) hX dL_law_1308 (by decide) ?_
  refine zk_iadd hX dL_law_1309 ?_
  refine zk_sld hX hs dL_law_1310 h2 ?_
  refine zk_V2ip hX dL_law_1311 kcX11_order mlL_147 viX11_order rfl k_0 z_0 (zO_order _ _ w hq) (Nat.le_of_ble_eq_true rfl) rfl (fun r1 w1 q1 => ?_)
  refine zk_aload_n hX dL_law_1314 rfl ?_
  refine zk_fload_n hX dL_law_1315 rfl ?_
  refine zk_iload_n hX dL_law_1316 rfl ?_
  refine zk_iconst (v := 1) hX dL_law_1317 (by decide) ?_
  refine zk_iadd hX dL_law_1318 ?_
  refine zk_sld hX hs dL_law_1319 h1 ?_
  refine zk_fload_n hX dL_law_1320 rfl ?_
  refine zk_iload_n hX dL_law_1321 rfl ?_
  refine zk_iconst (v := 2) hX dL_law_1322 (by decide) ?_
  refine zk_iadd hX dL_law_1323 ?_
  refine zk_sld hX hs dL_law_1324 h2 ?_
  refine zk_V2ip hX dL_law_1325 kcX12_order mlL_150 viX12_order rfl k_166 z_166 q1 (Nat.le_of_ble_eq_true rfl) rfl (fun r2 w2 q2 => ?_)
  obtain ⟨rfl, hq2⟩ := q2
  exact zk_icmp_eq (tgt := 1744) hX dL_law_1328 (by decide) (fun _ => kk _ hq2) (fun h => absurd rfl h)
theorem lw_c33 {G : zG} {X : zX} {L : Nat} {xs : Nat → Int32} {x : Int32} {w : zW} (hX : zH G X mL_law) (hs : zScr G X.2.2.1 L xs) (h1 : vp_in (x + 1) L) (h2 : vp_in (x + 2) L) (hq : zQ w) (kk : ∀ w, zQ w → zk0 G X mL_law 1744 [.float 0, .ref 0, .ref 166, .int x] [] w) : zk0 G X mL_law 1333 [.float 0, .ref 0, .ref 166, .int x] [] w := by
  refine zk_aload_n hX dL_law_1333 rfl ?_
  refine zk_fload_n hX dL_law_1334 rfl ?_
  refine zk_iload_n hX dL_law_1335 rfl ?_
  refine zk_iconst (v := 1) hX dL_law_1336 (by decide) ?_
  refine zk_iadd hX dL_law_1337 ?_
  refine zk_sld hX hs dL_law_1338 h1 ?_
  refine zk_fload_n hX dL_law_1339 rfl ?_
  refine zk_iload_n hX dL_law_1340 rfl ?_
  refine zk_iconst (v := 2) hX dL_law_1341 (by decide) ?_
  refine zk_iadd hX dL_law_1342 ?_
  refine zk_sld hX hs dL_law_1343 h2 ?_
  refine zk_V2ip hX dL_law_1344 kcX11_two mlL_151 viX11_two rfl k_0 z_0 (zO_two _ _ w hq) (Nat.le_of_ble_eq_true rfl) rfl (fun r1 w1 q1 => ?_)
  refine zk_aload_n hX dL_law_1347 rfl ?_
  refine zk_fload_n hX dL_law_1348 rfl ?_
  refine zk_iload_n hX dL_law_1349 rfl ?_
  refine zk_iconst (v := 1) hX dL_law_1350 (by decide) ?_
  refine zk_iadd hX dL_law_1351 ?_
  refine zk_sld hX hs dL_law_1352 h1 ?_
  refine zk_fload_n hX dL_law_1353 rfl ?_
  refine zk_iload_n hX dL_law_1354 rfl ?_
  refine zk_iconst (v := 2) hX dL_law_1355 (by decide) ?_
  refine zk_iadd hX dL_law_1356 ?_
  refine zk_sld hX hs dL_law_1357 h2 ?_
  refine zk_V2ip hX dL_law_1358 kcX12_two mlL_154 viX12_two rfl k_166 z_166 q1 (Nat.le_of_ble_eq_true rfl) rfl (fun r2 w2 q2 => ?_)
  obtain ⟨rfl, hq2⟩ := q2
  exact zk_icmp_eq (tgt := 1744) hX dL_law_1361 (by decide) (fun _ => kk _ hq2) (fun h => absurd rfl h)
theorem lw_c34 {G : zG} {X : zX} {L : Nat} {xs : Nat → Int32} {x : Int32} {w : zW} (hX : zH G X mL_law) (hs : zScr G X.2.2.1 L xs) (h1 : vp_in (x + 1) L) (h2 : vp_in (x + 2) L) (hq : zQ w) (kk : ∀ w, zQ w → zk0 G X mL_law 1744 [.float 0, .ref 0, .ref 166, .int x] [] w) : zk0 G X mL_law 1366 [.float 0, .ref 0, .ref 166, .int x] [] w := by
  refine zk_aload_n hX dL_law_1366 rfl ?_
  refine zk_fload_n hX dL_law_1367 rfl ?_
  refine zk_iload_n hX dL_law_1368 rfl ?_
  refine zk_iconst (v := 1) hX dL_law_1369 (by decide) ?_
  refine zk_iadd hX dL_law_1370 ?_
  refine zk_sld hX hs dL_law_1371 h1 ?_
  refine zk_fload_n hX dL_law_1372 rfl ?_
  refine zk_iload_n hX dL_law_1373 rfl ?_
  refine zk_iconst (v := 2) hX dL_law_1374 (by decide) ?_
  refine zk_iadd hX dL_law_1375 ?_
  refine zk_sld hX hs dL_law_1376 h2 ?_
  refine zk_V2ip hX dL_law_1377 kcX11_stiff mlL_155 viX11_stiff rfl k_0 z_0 (zO_stiff _ _ w hq) (Nat.le_of_ble_eq_true rfl) rfl (fun r1 w1 q1 => ?_)
  refine zk_aload_n hX dL_law_1380 rfl ?_
  refine zk_fload_n hX dL_law_1381 rfl ?_
  refine zk_iload_n hX dL_law_1382 rfl ?_
  refine zk_iconst (v := 1) hX dL_law_1383 (by decide) ?_
  refine zk_iadd hX dL_law_1384 ?_
  refine zk_sld hX hs dL_law_1385 h1 ?_
  refine zk_fload_n hX dL_law_1386 rfl ?_
  refine zk_iload_n hX dL_law_1387 rfl ?_
  refine zk_iconst (v := 2) hX dL_law_1388 (by decide) ?_
  refine zk_iadd hX dL_law_1389 ?_
  refine zk_sld hX hs dL_law_1390 h2 ?_
  refine zk_V2ip hX dL_law_1391 kcX12_stiff mlL_158 viX12_stiff rfl k_166 z_166 q1 (Nat.le_of_ble_eq_true rfl) rfl (fun r2 w2 q2 => ?_)
  obtain ⟨rfl, hq2⟩ := q2
  exact zk_icmp_eq (tgt := 1744) hX dL_law_1394 (by decide) (fun _ => kk _ hq2) (fun h => absurd rfl h)
theorem lw_c35 {G : zG} {X : zX} {L : Nat} {xs : Nat → Int32} {x : Int32} {w : zW} (hX : zH G X mL_law) (hs : zScr G X.2.2.1 L xs) (h1 : vp_in (x + 1) L) (h2 : vp_in (x + 2) L) (h3 : vp_in (x + 3) L) (hq : zQ w) (kk : ∀ w, zQ w → zk0 G X mL_law 1744 [.float 0, .ref 0, .ref 166, .int x] [] w) : zk0 G X mL_law 1399 [.float 0, .ref 0, .ref 166, .int x] [] w := by
  refine zk_aload_n hX dL_law_1399 rfl ?_
  refine zk_fload_n hX dL_law_1400 rfl ?_
  refine zk_iload_n hX dL_law_1401 rfl ?_
  refine zk_iconst (v := 1) hX dL_law_1402 (by decide) ?_
  refine zk_iadd hX dL_law_1403 ?_
  refine zk_sld hX hs dL_law_1404 h1 ?_
  refine zk_fload_n hX dL_law_1405 rfl ?_
  refine zk_iload_n hX dL_law_1406 rfl ?_
  refine zk_iconst (v := 2) hX dL_law_1407 (by decide) ?_
  refine zk_iadd hX dL_law_1408 ?_
  refine zk_sld hX hs dL_law_1409 h2 ?_
  refine zk_fload_n hX dL_law_1410 rfl ?_
  refine zk_iload_n hX dL_law_1411 rfl ?_
  refine zk_iconst (v := 3) hX dL_law_1412 (by decide) ?_
  refine zk_iadd hX dL_law_1413 ?_
  refine zk_sld hX hs dL_law_1414 h3 ?_
  refine zk_V3ip hX dL_law_1415 kcX11_looker mlL_159 viX11_looker rfl k_0 z_0 (zO_looker _ _ _ w hq) (Nat.le_of_ble_eq_true rfl) rfl (fun r1 w1 q1 => ?_)
  refine zk_aload_n hX dL_law_1418 rfl ?_
  refine zk_fload_n hX dL_law_1419 rfl ?_
  refine zk_iload_n hX dL_law_1420 rfl ?_
  refine zk_iconst (v := 1) hX dL_law_1421 (by decide) ?_
  refine zk_iadd hX dL_law_1422 ?_
  refine zk_sld hX hs dL_law_1423 h1 ?_
  refine zk_fload_n hX dL_law_1424 rfl ?_
  refine zk_iload_n hX dL_law_1425 rfl ?_
  refine zk_iconst (v := 2) hX dL_law_1426 (by decide) ?_
  refine zk_iadd hX dL_law_1427 ?_
  refine zk_sld hX hs dL_law_1428 h2 ?_
  refine zk_fload_n hX dL_law_1429 rfl ?_
  refine zk_iload_n hX dL_law_1430 rfl ?_
  refine zk_iconst (v := 3) hX dL_law_1431 (by decide) ?_
  refine zk_iadd hX dL_law_1432 ?_
  refine zk_sld hX hs dL_law_1433 h3 ?_
  refine zk_V3ip hX dL_law_1434 kcX12_looker mlL_162 viX12_looker rfl k_166 z_166 q1 (Nat.le_of_ble_eq_true rfl) rfl (fun r2 w2 q2 => ?_)
  obtain ⟨rfl, hq2⟩ := q2
  exact zk_icmp_eq (tgt := 1744) hX dL_law_1437 (by decide) (fun _ => kk _ hq2) (fun h => absurd rfl h)
theorem lw_c36 {G : zG} {X : zX} {L : Nat} {xs : Nat → Int32} {x : Int32} {w : zW} (hX : zH G X mL_law) (hs : zScr G X.2.2.1 L xs) (h1 : vp_in (x + 1) L) (h2 : vp_in (x + 2) L) (hq : zQ w) (kk : ∀ w, zQ w → zk0 G X mL_law 1744 [.float 0, .ref 0, .ref 166, .int x] [] w) : zk0 G X mL_law 1442 [.float 0, .ref 0, .ref 166, .int x] [] w := by
  refine zk_aload_n hX dL_law_1442 rfl ?_
  refine zk_fload_n hX dL_law_1443 rfl ?_
  refine zk_iload_n hX dL_law_1444 rfl ?_
  refine zk_iconst (v := 1) hX dL_law_1445 (by decide) ?_
  refine zk_iadd hX dL_law_1446 ?_
  refine zk_sld hX hs dL_law_1447 h1 ?_
  refine zk_fload_n hX dL_law_1448 rfl ?_
  refine zk_iload_n hX dL_law_1449 rfl ?_
  refine zk_iconst (v := 2) hX dL_law_1450 (by decide) ?_
  refine zk_iadd hX dL_law_1451 ?_
  refine zk_sld hX hs dL_law_1452 h2 ?_
  refine zk_V2ip hX dL_law_1453 kcX11_weight mlL_163 viX11_weight rfl k_0 z_0 (zO_weight _ _ w hq) (Nat.le_of_ble_eq_true rfl) rfl (fun r1 w1 q1 => ?_)
  refine zk_aload_n hX dL_law_1456 rfl ?_
  refine zk_fload_n hX dL_law_1457 rfl ?_
  refine zk_iload_n hX dL_law_1458 rfl ?_
  refine zk_iconst (v := 1) hX dL_law_1459 (by decide) ?_
  refine zk_iadd hX dL_law_1460 ?_
  refine zk_sld hX hs dL_law_1461 h1 ?_
  refine zk_fload_n hX dL_law_1462 rfl ?_
  refine zk_iload_n hX dL_law_1463 rfl ?_
  refine zk_iconst (v := 2) hX dL_law_1464 (by decide) ?_
  refine zk_iadd hX dL_law_1465 ?_
  refine zk_sld hX hs dL_law_1466 h2 ?_
  refine zk_V2ip hX dL_law_1467 kcX12_weight mlL_166 viX12_weight rfl k_166 z_166 q1 (Nat.le_of_ble_eq_true rfl) rfl (fun r2 w2 q2 => ?_)
  obtain ⟨rfl, hq2⟩ := q2
  exact zk_icmp_eq (tgt := 1744) hX dL_law_1470 (by decide) (fun _ => kk _ hq2) (fun h => absurd rfl h)
theorem lw_c37 {G : zG} {X : zX} {L : Nat} {xs : Nat → Int32} {x : Int32} {w : zW} (hX : zH G X mL_law) (hs : zScr G X.2.2.1 L xs) (h1 : vp_in (x + 1) L) (h2 : vp_in (x + 2) L) (h3 : vp_in (x + 3) L) (hq : zQ w) (kk : ∀ w, zQ w → zk0 G X mL_law 1744 [.float 0, .ref 0, .ref 166, .int x] [] w) : zk0 G X mL_law 1475 [.float 0, .ref 0, .ref 166, .int x] [] w := by
  refine zk_aload_n hX dL_law_1475 rfl ?_
  refine zk_fload_n hX dL_law_1476 rfl ?_
  refine zk_iload_n hX dL_law_1477 rfl ?_
  refine zk_iconst (v := 1) hX dL_law_1478 (by decide) ?_
  refine zk_iadd hX dL_law_1479 ?_
  refine zk_sld hX hs dL_law_1480 h1 ?_
  refine zk_fload_n hX dL_law_1481 rfl ?_
  refine zk_iload_n hX dL_law_1482 rfl ?_
  refine zk_iconst (v := 2) hX dL_law_1483 (by decide) ?_
  refine zk_iadd hX dL_law_1484 ?_
  refine zk_sld hX hs dL_law_1485 h2 ?_
  refine zk_fload_n hX dL_law_1486 rfl ?_
  refine zk_iload_n hX dL_law_1487 rfl ?_
  refine zk_iconst (v := 3) hX dL_law_1488 (by decide) ?_
  refine zk_iadd hX dL_law_1489 ?_
  refine zk_sld hX hs dL_law_1490 h3 ?_
  refine zk_V3ip hX dL_law_1491 kcX11_call mlL_167 viX11_call rfl k_0 z_0 (zO_call _ _ _ w hq) (Nat.le_of_ble_eq_true rfl) rfl (fun r1 w1 q1 => ?_)
  refine zk_aload_n hX dL_law_1494 rfl ?_
  refine zk_fload_n hX dL_law_1495 rfl ?_
  refine zk_iload_n hX dL_law_1496 rfl ?_
  refine zk_iconst (v := 1) hX dL_law_1497 (by decide) ?_
  refine zk_iadd hX dL_law_1498 ?_
  refine zk_sld hX hs dL_law_1499 h1 ?_
  refine zk_fload_n hX dL_law_1500 rfl ?_
  refine zk_iload_n hX dL_law_1501 rfl ?_
  refine zk_iconst (v := 2) hX dL_law_1502 (by decide) ?_
  refine zk_iadd hX dL_law_1503 ?_
  refine zk_sld hX hs dL_law_1504 h2 ?_
  refine zk_fload_n hX dL_law_1505 rfl ?_
  refine zk_iload_n hX dL_law_1506 rfl ?_
  refine zk_iconst (v := 3) hX dL_law_1507 (by decide) ?_
  refine zk_iadd hX dL_law_1508 ?_
  refine zk_sld hX hs dL_law_1509 h3 ?_
  refine zk_V3ip hX dL_law_1510 kcX12_call mlL_170 viX12_call rfl k_166 z_166 q1 (Nat.le_of_ble_eq_true rfl) rfl (fun r2 w2 q2 => ?_)
  obtain ⟨rfl, hq2⟩ := q2
  exact zk_icmp_eq (tgt := 1744) hX dL_law_1513 (by decide) (fun _ => kk _ hq2) (fun h => absurd rfl h)
theorem lw_c38 {G : zG} {X : zX} {L : Nat} {xs : Nat → Int32} {x : Int32} {w : zW} (hX : zH G X mL_law) (hs : zScr G X.2.2.1 L xs) (h1 : vp_in (x + 1) L) (h2 : vp_in (x + 2) L) (hq : zQ w) (kk : ∀ w, zQ w → zk0 G X mL_law 1744 [.float 0, .ref 0, .ref 166, .int x] [] w) : zk0 G X mL_law 1518 [.float 0, .ref 0, .ref 166, .int x] [] w := by
  refine zk_aload_n hX dL_law_1518 rfl ?_
  refine zk_fload_n hX dL_law_1519 rfl ?_
  refine zk_iload_n hX dL_law_1520 rfl ?_
  refine zk_iconst (v := 1) hX dL_law_1521 (by decide) ?_
  refine zk_iadd hX dL_law_1522 ?_
  refine zk_sld hX hs dL_law_1523 h1 ?_
  refine zk_fload_n hX dL_law_1524 rfl ?_
  refine zk_iload_n hX dL_law_1525 rfl ?_
  refine zk_iconst (v := 2) hX dL_law_1526 (by decide) ?_
  refine zk_iadd hX dL_law_1527 ?_
  refine zk_sld hX hs dL_law_1528 h2 ?_
  refine zk_V2ip hX dL_law_1529 kcX11_guess mlL_171 viX11_guess rfl k_0 z_0 (zO_guess _ _ w hq) (Nat.le_of_ble_eq_true rfl) rfl (fun r1 w1 q1 => ?_)
  refine zk_aload_n hX dL_law_1532 rfl ?_
  refine zk_fload_n hX dL_law_1533 rfl ?_
  refine zk_iload_n hX dL_law_1534 rfl ?_
  refine zk_iconst (v := 1) hX dL_law_1535 (by decide) ?_
  refine zk_iadd hX dL_law_1536 ?_
  refine zk_sld hX hs dL_law_1537 h1 ?_
  refine zk_fload_n hX dL_law_1538 rfl ?_
  refine zk_iload_n hX dL_law_1539 rfl ?_
  refine zk_iconst (v := 2) hX dL_law_1540 (by decide) ?_
  refine zk_iadd hX dL_law_1541 ?_
  refine zk_sld hX hs dL_law_1542 h2 ?_
  refine zk_V2ip hX dL_law_1543 kcX12_guess mlL_174 viX12_guess rfl k_166 z_166 q1 (Nat.le_of_ble_eq_true rfl) rfl (fun r2 w2 q2 => ?_)
  obtain ⟨rfl, hq2⟩ := q2
  exact zk_icmp_eq (tgt := 1744) hX dL_law_1546 (by decide) (fun _ => kk _ hq2) (fun h => absurd rfl h)
theorem lw_c39 {G : zG} {X : zX} {L : Nat} {xs : Nat → Int32} {x : Int32} {w : zW} (hX : zH G X mL_law) (hs : zScr G X.2.2.1 L xs) (h1 : vp_in (x + 1) L) (hq : zQ w) (kk : ∀ w, zQ w → zk0 G X mL_law 1744 [.float 0, .ref 0, .ref 166, .int x] [] w) : zk0 G X mL_law 1551 [.float 0, .ref 0, .ref 166, .int x] [] w := by
  refine zk_aload_n hX dL_law_1551 rfl ?_
  refine zk_fload_n hX dL_law_1552 rfl ?_
  refine zk_iload_n hX dL_law_1553 rfl ?_
  refine zk_iconst (v := 1) hX dL_law_1554 (by decide) ?_
  refine zk_iadd hX dL_law_1555 ?_
  refine zk_sld hX hs dL_law_1556 h1 ?_
  refine zk_V1ip hX dL_law_1557 kcX11_agrees mlL_175 viX11_agrees rfl k_0 z_0 (zO_agrees _ w hq) (Nat.le_of_ble_eq_true rfl) rfl (fun r1 w1 q1 => ?_)
  refine zk_aload_n hX dL_law_1560 rfl ?_
  refine zk_fload_n hX dL_law_1561 rfl ?_
  refine zk_iload_n hX dL_law_1562 rfl ?_
  refine zk_iconst (v := 1) hX dL_law_1563 (by decide) ?_
  refine zk_iadd hX dL_law_1564 ?_
  refine zk_sld hX hs dL_law_1565 h1 ?_
  refine zk_V1ip hX dL_law_1566 kcX12_agrees mlL_178 viX12_agrees rfl k_166 z_166 q1 (Nat.le_of_ble_eq_true rfl) rfl (fun r2 w2 q2 => ?_)
  obtain ⟨rfl, hq2⟩ := q2
  exact zk_icmp_eq (tgt := 1744) hX dL_law_1569 (by decide) (fun _ => kk _ hq2) (fun h => absurd rfl h)
theorem lw_c40 {G : zG} {X : zX} {L : Nat} {xs : Nat → Int32} {x : Int32} {w : zW} (hX : zH G X mL_law) (hs : zScr G X.2.2.1 L xs) (h1 : vp_in (x + 1) L) (hq : zQ w) (kk : ∀ w, zQ w → zk0 G X mL_law 1744 [.float 0, .ref 0, .ref 166, .int x] [] w) : zk0 G X mL_law 1574 [.float 0, .ref 0, .ref 166, .int x] [] w := by
  refine zk_aload_n hX dL_law_1574 rfl ?_
  refine zk_fload_n hX dL_law_1575 rfl ?_
  refine zk_iload_n hX dL_law_1576 rfl ?_
  refine zk_iconst (v := 1) hX dL_law_1577 (by decide) ?_
  refine zk_iadd hX dL_law_1578 ?_
  refine zk_sld hX hs dL_law_1579 h1 ?_
  refine zk_V1ip hX dL_law_1580 kcX11_fit mlL_179 viX11_fit rfl k_0 z_0 (zO_fit _ w hq) (Nat.le_of_ble_eq_true rfl) rfl (fun r1 w1 q1 => ?_)
  refine zk_aload_n hX dL_law_1583 rfl ?_
  refine zk_fload_n hX dL_law_1584 rfl ?_
  refine zk_iload_n hX dL_law_1585 rfl ?_
  refine zk_iconst (v := 1) hX dL_law_1586 (by decide) ?_
  refine zk_iadd hX dL_law_1587 ?_
  refine zk_sld hX hs dL_law_1588 h1 ?_
  refine zk_V1ip hX dL_law_1589 kcX12_fit mlL_182 viX12_fit rfl k_166 z_166 q1 (Nat.le_of_ble_eq_true rfl) rfl (fun r2 w2 q2 => ?_)
  obtain ⟨rfl, hq2⟩ := q2
  exact zk_icmp_eq (tgt := 1744) hX dL_law_1592 (by decide) (fun _ => kk _ hq2) (fun h => absurd rfl h)
theorem lw_c41 {G : zG} {X : zX} {L : Nat} {xs : Nat → Int32} {x : Int32} {w : zW} (hX : zH G X mL_law) (hs : zScr G X.2.2.1 L xs) (h1 : vp_in (x + 1) L) (h2 : vp_in (x + 2) L) (hq : zQ w) (kk : ∀ w, zQ w → zk0 G X mL_law 1744 [.float 0, .ref 0, .ref 166, .int x] [] w) : zk0 G X mL_law 1597 [.float 0, .ref 0, .ref 166, .int x] [] w := by
  refine zk_aload_n hX dL_law_1597 rfl ?_
  refine zk_fload_n hX dL_law_1598 rfl ?_
  refine zk_iload_n hX dL_law_1599 rfl ?_
  refine zk_iconst (v := 1) hX dL_law_1600 (by decide) ?_
  refine zk_iadd hX dL_law_1601 ?_
  refine zk_sld hX hs dL_law_1602 h1 ?_
  refine zk_fload_n hX dL_law_1603 rfl ?_
  refine zk_iload_n hX dL_law_1604 rfl ?_
  refine zk_iconst (v := 2) hX dL_law_1605 (by decide) ?_
  refine zk_iadd hX dL_law_1606 ?_
  refine zk_sld hX hs dL_law_1607 h2 ?_
  refine zk_V2ip hX dL_law_1608 kcX11_odds mlL_183 viX11_odds rfl k_0 z_0 (zO_odds _ _ w hq) (Nat.le_of_ble_eq_true rfl) rfl (fun r1 w1 q1 => ?_)
  refine zk_aload_n hX dL_law_1611 rfl ?_
  refine zk_fload_n hX dL_law_1612 rfl ?_
  refine zk_iload_n hX dL_law_1613 rfl ?_
  refine zk_iconst (v := 1) hX dL_law_1614 (by decide) ?_
  refine zk_iadd hX dL_law_1615 ?_
  refine zk_sld hX hs dL_law_1616 h1 ?_
  refine zk_fload_n hX dL_law_1617 rfl ?_
  refine zk_iload_n hX dL_law_1618 rfl ?_
  refine zk_iconst (v := 2) hX dL_law_1619 (by decide) ?_
  refine zk_iadd hX dL_law_1620 ?_
  refine zk_sld hX hs dL_law_1621 h2 ?_
  refine zk_V2ip hX dL_law_1622 kcX12_odds mlL_186 viX12_odds rfl k_166 z_166 q1 (Nat.le_of_ble_eq_true rfl) rfl (fun r2 w2 q2 => ?_)
  obtain ⟨rfl, hq2⟩ := q2
  exact zk_icmp_eq (tgt := 1744) hX dL_law_1625 (by decide) (fun _ => kk _ hq2) (fun h => absurd rfl h)
theorem lw_c42 {G : zG} {X : zX} {L : Nat} {xs : Nat → Int32} {x : Int32} {w : zW} (hX : zH G X mL_law) (hs : zScr G X.2.2.1 L xs)  (hq : zQ w) (kk : ∀ w, zQ w → zk0 G X mL_law 1744 [.float 0, .ref 0, .ref 166, .int x] [] w) : zk0 G X mL_law 1630 [.float 0, .ref 0, .ref 166, .int x] [] w := by
  refine zk_aload_n hX dL_law_1630 rfl ?_
  refine zk_V0ip hX dL_law_1631 kcX11_asked mlL_187 viX11_asked rfl k_0 z_0 (zO_asked  w hq) (Nat.le_of_ble_eq_true rfl) rfl (fun r1 w1 q1 => ?_)
  refine zk_aload_n hX dL_law_1634 rfl ?_
  refine zk_V0ip hX dL_law_1635 kcX12_asked mlL_190 viX12_asked rfl k_166 z_166 q1 (Nat.le_of_ble_eq_true rfl) rfl (fun r2 w2 q2 => ?_)
  obtain ⟨rfl, hq2⟩ := q2
  exact zk_icmp_eq (tgt := 1744) hX dL_law_1638 (by decide) (fun _ => kk _ hq2) (fun h => absurd rfl h)
theorem lw_c43 {G : zG} {X : zX} {L : Nat} {xs : Nat → Int32} {x : Int32} {w : zW} (hX : zH G X mL_law) (hs : zScr G X.2.2.1 L xs)  (hq : zQ w) (kk : ∀ w, zQ w → zk0 G X mL_law 1744 [.float 0, .ref 0, .ref 166, .int x] [] w) : zk0 G X mL_law 1643 [.float 0, .ref 0, .ref 166, .int x] [] w := by
  refine zk_aload_n hX dL_law_1643 rfl ?_
  refine zk_V0lp hX dL_law_1644 kcX11_upper mlL_191 viX11_upper rfl k_0 z_0 (zO_upper  w hq) (Nat.le_of_ble_eq_true rfl) rfl (fun r1 w1 q1 => ?_)
  refine zk_aload_n hX dL_law_1647 rfl ?_
  refine zk_V0lp hX dL_law_1648 kcX12_upper mlL_195 viX12_upper rfl k_166 z_166 q1 (Nat.le_of_ble_eq_true rfl) rfl (fun r2 w2 q2 => ?_)
  obtain ⟨rfl, hq2⟩ := q2
  refine zk_lcmp hX dL_law_1651 ?_
  exact zk_if_eq (tgt := 1744) hX dL_law_1652 (by decide) (fun _ => kk _ hq2) (fun h => absurd (by simp [lg_cmp]) h)
theorem lw_c44 {G : zG} {X : zX} {L : Nat} {xs : Nat → Int32} {x : Int32} {w : zW} (hX : zH G X mL_law) (hs : zScr G X.2.2.1 L xs)  (hq : zQ w) (kk : ∀ w, zQ w → zk0 G X mL_law 1744 [.float 0, .ref 0, .ref 166, .int x] [] w) : zk0 G X mL_law 1657 [.float 0, .ref 0, .ref 166, .int x] [] w := by
  refine zk_aload_n hX dL_law_1657 rfl ?_
  refine zk_V0lp hX dL_law_1658 kcX11_lower mlL_196 viX11_lower rfl k_0 z_0 (zO_lower  w hq) (Nat.le_of_ble_eq_true rfl) rfl (fun r1 w1 q1 => ?_)
  refine zk_aload_n hX dL_law_1661 rfl ?_
  refine zk_V0lp hX dL_law_1662 kcX12_lower mlL_199 viX12_lower rfl k_166 z_166 q1 (Nat.le_of_ble_eq_true rfl) rfl (fun r2 w2 q2 => ?_)
  obtain ⟨rfl, hq2⟩ := q2
  refine zk_lcmp hX dL_law_1665 ?_
  exact zk_if_eq (tgt := 1744) hX dL_law_1666 (by decide) (fun _ => kk _ hq2) (fun h => absurd (by simp [lg_cmp]) h)
theorem lw_c45 {G : zG} {X : zX} {L : Nat} {xs : Nat → Int32} {x : Int32} {w : zW} (hX : zH G X mL_law) (hs : zScr G X.2.2.1 L xs) (h1 : vp_in (x + 1) L) (hq : zQ w) (kk : ∀ w, zQ w → zk0 G X mL_law 1744 [.float 0, .ref 0, .ref 166, .int x] [] w) : zk0 G X mL_law 1671 [.float 0, .ref 0, .ref 166, .int x] [] w := by
  refine zk_aload_n hX dL_law_1671 rfl ?_
  refine zk_fload_n hX dL_law_1672 rfl ?_
  refine zk_iload_n hX dL_law_1673 rfl ?_
  refine zk_iconst (v := 1) hX dL_law_1674 (by decide) ?_
  refine zk_iadd hX dL_law_1675 ?_
  refine zk_sld hX hs dL_law_1676 h1 ?_
  refine zk_V1ip hX dL_law_1677 kcX11_count mlL_200 viX11_count rfl k_0 z_0 (zO_count _ w hq) (Nat.le_of_ble_eq_true rfl) rfl (fun r1 w1 q1 => ?_)
  refine zk_aload_n hX dL_law_1680 rfl ?_
  refine zk_fload_n hX dL_law_1681 rfl ?_
  refine zk_iload_n hX dL_law_1682 rfl ?_
  refine zk_iconst (v := 1) hX dL_law_1683 (by decide) ?_
  refine zk_iadd hX dL_law_1684 ?_
  refine zk_sld hX hs dL_law_1685 h1 ?_
  refine zk_V1ip hX dL_law_1686 kcX12_count mlL_203 viX12_count rfl k_166 z_166 q1 (Nat.le_of_ble_eq_true rfl) rfl (fun r2 w2 q2 => ?_)
  obtain ⟨rfl, hq2⟩ := q2
  exact zk_icmp_eq (tgt := 1744) hX dL_law_1689 (by decide) (fun _ => kk _ hq2) (fun h => absurd rfl h)
theorem lw_c46 {G : zG} {X : zX} {L : Nat} {xs : Nat → Int32} {x : Int32} {w : zW} (hX : zH G X mL_law) (hs : zScr G X.2.2.1 L xs)  (hq : zQ w) (kk : ∀ w, zQ w → zk0 G X mL_law 1744 [.float 0, .ref 0, .ref 166, .int x] [] w) : zk0 G X mL_law 1694 [.float 0, .ref 0, .ref 166, .int x] [] w := by
  refine zk_aload_n hX dL_law_1694 rfl ?_
  refine zk_V0ip hX dL_law_1695 kcX11_finding mlL_204 viX11_finding rfl k_0 z_0 (zO_finding  w hq) (Nat.le_of_ble_eq_true rfl) rfl (fun r1 w1 q1 => ?_)
  refine zk_aload_n hX dL_law_1698 rfl ?_
  refine zk_V0ip hX dL_law_1699 kcX12_finding mlL_207 viX12_finding rfl k_166 z_166 q1 (Nat.le_of_ble_eq_true rfl) rfl (fun r2 w2 q2 => ?_)
  obtain ⟨rfl, hq2⟩ := q2
  exact zk_icmp_eq (tgt := 1744) hX dL_law_1702 (by decide) (fun _ => kk _ hq2) (fun h => absurd rfl h)
theorem lw_c47 {G : zG} {X : zX} {L : Nat} {xs : Nat → Int32} {x : Int32} {w : zW} (hX : zH G X mL_law) (hs : zScr G X.2.2.1 L xs) (h1 : vp_in (x + 1) L) (hq : zQ w) (kk : ∀ w, zQ w → zk0 G X mL_law 1744 [.float 0, .ref 0, .ref 166, .int x] [] w) : zk0 G X mL_law 1707 [.float 0, .ref 0, .ref 166, .int x] [] w := by
  refine zk_aload_n hX dL_law_1707 rfl ?_
  refine zk_fload_n hX dL_law_1708 rfl ?_
  refine zk_iload_n hX dL_law_1709 rfl ?_
  refine zk_iconst (v := 1) hX dL_law_1710 (by decide) ?_
  refine zk_iadd hX dL_law_1711 ?_
  refine zk_sld hX hs dL_law_1712 h1 ?_
  refine zk_V1ip hX dL_law_1713 kcX11_findings mlL_208 viX11_findings rfl k_0 z_0 (zO_findings _ w hq) (Nat.le_of_ble_eq_true rfl) rfl (fun r1 w1 q1 => ?_)
  refine zk_aload_n hX dL_law_1716 rfl ?_
  refine zk_fload_n hX dL_law_1717 rfl ?_
  refine zk_iload_n hX dL_law_1718 rfl ?_
  refine zk_iconst (v := 1) hX dL_law_1719 (by decide) ?_
  refine zk_iadd hX dL_law_1720 ?_
  refine zk_sld hX hs dL_law_1721 h1 ?_
  refine zk_V1ip hX dL_law_1722 kcX12_findings mlL_211 viX12_findings rfl k_166 z_166 q1 (Nat.le_of_ble_eq_true rfl) rfl (fun r2 w2 q2 => ?_)
  obtain ⟨rfl, hq2⟩ := q2
  exact zk_icmp_eq (tgt := 1744) hX dL_law_1725 (by decide) (fun _ => kk _ hq2) (fun h => absurd rfl h)
theorem lw_c48 {G : zG} {X : zX} {L : Nat} {xs : Nat → Int32} {x : Int32} {w : zW} (hX : zH G X mL_law) (hs : zScr G X.2.2.1 L xs)  (hq : zQ w) (kk : ∀ w, zQ w → zk0 G X mL_law 1744 [.float 0, .ref 0, .ref 166, .int x] [] w) : zk0 G X mL_law 1730 [.float 0, .ref 0, .ref 166, .int x] [] w := by
  refine zk_aload_n hX dL_law_1730 rfl ?_
  refine zk_V0lp hX dL_law_1731 kcX11_digest mlL_212 viX11_digest rfl k_0 z_0 (zO_digest  w hq) (Nat.le_of_ble_eq_true rfl) rfl (fun r1 w1 q1 => ?_)
  refine zk_aload_n hX dL_law_1734 rfl ?_
  refine zk_V0lp hX dL_law_1735 kcX12_digest mlL_215 viX12_digest rfl k_166 z_166 q1 (Nat.le_of_ble_eq_true rfl) rfl (fun r2 w2 q2 => ?_)
  obtain ⟨rfl, hq2⟩ := q2
  refine zk_lcmp hX dL_law_1738 ?_
  exact zk_if_eq (tgt := 1744) hX dL_law_1739 (by decide) (fun _ => kk _ hq2) (fun h => absurd (by simp [lg_cmp]) h)
theorem lw_sw {G : zG} {X : zX} {L : Nat} {xs : Nat → Int32} {x : Int32} {w : zW} (hX : zH G X mL_law) (hs : zScr G X.2.2.1 L xs) (h1 : vp_in (x + 1) L) (h2 : vp_in (x + 2) L) (h3 : vp_in (x + 3) L) (h4 : vp_in (x + 4) L) (h5 : vp_in (x + 5) L) (y : Int32) (hq : zQ w) (kk : ∀ w, zQ w → zk0 G X mL_law 1744 [.float 0, .ref 0, .ref 166, .int x] [] w) : zk0 G X mL_law 33 [.float 0, .ref 0, .ref 166, .int x] [.int y] w := by
  by_cases c1 : y.toInt < 0
  · exact zk_tableOut (tgt := 1744) hX dL_law_33 (Or.inl c1) (by decide) (kk w hq)
  by_cases c2 : 48 < y.toInt
  · exact zk_tableOut (tgt := 1744) hX dL_law_33 (Or.inr c2) (by decide) (kk w hq)
  obtain ⟨k, hk⟩ : ∃ k : Nat, y.toInt = (k : Int) := ⟨y.toInt.toNat, by omega⟩
  have hk9 : k < 49 := by omega
  match k, hk9, hk with
  | 0, _, hk => exact zk_tableIn (off := 211) (tgt := 244) hX dL_law_33 c1 c2 (by rw [hk]; rfl) (by decide) (lw_c0 hX hs h1 h2 hq kk)
  | 1, _, hk => exact zk_tableIn (off := 244) (tgt := 277) hX dL_law_33 c1 c2 (by rw [hk]; rfl) (by decide) (lw_c1 hX hs h1 h2 h3 hq kk)
  | 2, _, hk => exact zk_tableIn (off := 287) (tgt := 320) hX dL_law_33 c1 c2 (by rw [hk]; rfl) (by decide) (lw_c2 hX hs h1 h2 hq kk)
  | 3, _, hk => exact zk_tableIn (off := 320) (tgt := 353) hX dL_law_33 c1 c2 (by rw [hk]; rfl) (by decide) (lw_c3 hX hs h1 hq kk)
  | 4, _, hk => exact zk_tableIn (off := 343) (tgt := 376) hX dL_law_33 c1 c2 (by rw [hk]; rfl) (by decide) (lw_c4 hX hs h1 h2 h3 h4 h5 hq kk)
  | 5, _, hk => exact zk_tableIn (off := 406) (tgt := 439) hX dL_law_33 c1 c2 (by rw [hk]; rfl) (by decide) (lw_c5 hX hs h1 hq kk)
  | 6, _, hk => exact zk_tableIn (off := 429) (tgt := 462) hX dL_law_33 c1 c2 (by rw [hk]; rfl) (by decide) (lw_c6 hX hs h1 h2 hq kk)
  | 7, _, hk => exact zk_tableIn (off := 462) (tgt := 495) hX dL_law_33 c1 c2 (by rw [hk]; rfl) (by decide) (lw_c7 hX hs h1 h2 h3 hq kk)
  | 8, _, hk => exact zk_tableIn (off := 505) (tgt := 538) hX dL_law_33 c1 c2 (by rw [hk]; rfl) (by decide) (lw_c8 hX hs h1 hq kk)
  | 9, _, hk => exact zk_tableIn (off := 528) (tgt := 561) hX dL_law_33 c1 c2 (by rw [hk]; rfl) (by decide) (lw_c9 hX hs h1 hq kk)
  | 10, _, hk => exact zk_tableIn (off := 551) (tgt := 584) hX dL_law_33 c1 c2 (by rw [hk]; rfl) (by decide) (lw_c10 hX hs h1 h2 hq kk)
  | 11, _, hk => exact zk_tableIn (off := 584) (tgt := 617) hX dL_law_33 c1 c2 (by rw [hk]; rfl) (by decide) (lw_c11 hX hs h1 h2 hq kk)
  | 12, _, hk => exact zk_tableIn (off := 617) (tgt := 650) hX dL_law_33 c1 c2 (by rw [hk]; rfl) (by decide) (lw_c12 hX hs h1 hq kk)
  | 13, _, hk => exact zk_tableIn (off := 640) (tgt := 673) hX dL_law_33 c1 c2 (by rw [hk]; rfl) (by decide) (lw_c13 hX hs h1 h2 h3 hq kk)
  | 14, _, hk => exact zk_tableIn (off := 683) (tgt := 716) hX dL_law_33 c1 c2 (by rw [hk]; rfl) (by decide) (lw_c14 hX hs h1 h2 hq kk)
  | 15, _, hk => exact zk_tableIn (off := 716) (tgt := 749) hX dL_law_33 c1 c2 (by rw [hk]; rfl) (by decide) (lw_c15 hX hs h1 h2 hq kk)
  | 16, _, hk => exact zk_tableIn (off := 749) (tgt := 782) hX dL_law_33 c1 c2 (by rw [hk]; rfl) (by decide) (lw_c16 hX hs h1 hq kk)
  | 17, _, hk => exact zk_tableIn (off := 772) (tgt := 805) hX dL_law_33 c1 c2 (by rw [hk]; rfl) (by decide) (lw_c17 hX hs h1 h2 hq kk)
  | 18, _, hk => exact zk_tableIn (off := 805) (tgt := 838) hX dL_law_33 c1 c2 (by rw [hk]; rfl) (by decide) (lw_c18 hX hs h1 h2 hq kk)
  | 19, _, hk => exact zk_tableIn (off := 838) (tgt := 871) hX dL_law_33 c1 c2 (by rw [hk]; rfl) (by decide) (lw_c19 hX hs h1 h2 hq kk)
  | 20, _, hk => exact zk_tableIn (off := 871) (tgt := 904) hX dL_law_33 c1 c2 (by rw [hk]; rfl) (by decide) (lw_c20 hX hs h1 h2 hq kk)
  | 21, _, hk => exact zk_tableIn (off := 904) (tgt := 937) hX dL_law_33 c1 c2 (by rw [hk]; rfl) (by decide) (lw_c21 hX hs h1 h2 hq kk)
  | 22, _, hk => exact zk_tableIn (off := 937) (tgt := 970) hX dL_law_33 c1 c2 (by rw [hk]; rfl) (by decide) (lw_c22 hX hs h1 h2 h3 h4 hq kk)
  | 23, _, hk => exact zk_tableIn (off := 990) (tgt := 1023) hX dL_law_33 c1 c2 (by rw [hk]; rfl) (by decide) (lw_c23 hX hs h1 h2 hq kk)
  | 24, _, hk => exact zk_tableIn (off := 1023) (tgt := 1056) hX dL_law_33 c1 c2 (by rw [hk]; rfl) (by decide) (lw_c24 hX hs  hq kk)
  | 25, _, hk => exact zk_tableIn (off := 1036) (tgt := 1069) hX dL_law_33 c1 c2 (by rw [hk]; rfl) (by decide) (lw_c25 hX hs h1 h2 hq kk)
  | 26, _, hk => exact zk_tableIn (off := 1069) (tgt := 1102) hX dL_law_33 c1 c2 (by rw [hk]; rfl) (by decide) (lw_c26 hX hs h1 h2 hq kk)
  | 27, _, hk => exact zk_tableIn (off := 1102) (tgt := 1135) hX dL_law_33 c1 c2 (by rw [hk]; rfl) (by decide) (lw_c27 hX hs h1 hq kk)
  | 28, _, hk => exact zk_tableIn (off := 1125) (tgt := 1158) hX dL_law_33 c1 c2 (by rw [hk]; rfl) (by decide) (lw_c28 hX hs h1 h2 hq kk)
  | 29, _, hk => exact zk_tableIn (off := 1158) (tgt := 1191) hX dL_law_33 c1 c2 (by rw [hk]; rfl) (by decide) (lw_c29 hX hs h1 h2 h3 h4 hq kk)
  | 30, _, hk => exact zk_tableIn (off := 1211) (tgt := 1244) hX dL_law_33 c1 c2 (by rw [hk]; rfl) (by decide) (lw_c30 hX hs h1 h2 hq kk)
  | 31, _, hk => exact zk_tableIn (off := 1244) (tgt := 1277) hX dL_law_33 c1 c2 (by rw [hk]; rfl) (by decide) (lw_c31 hX hs h1 hq kk)
  | 32, _, hk => exact zk_tableIn (off := 1267) (tgt := 1300) hX dL_law_33 c1 c2 (by rw [hk]; rfl) (by decide) (lw_c32 hX hs h1 h2 hq kk)
  | 33, _, hk => exact zk_tableIn (off := 1300) (tgt := 1333) hX dL_law_33 c1 c2 (by rw [hk]; rfl) (by decide) (lw_c33 hX hs h1 h2 hq kk)
  | 34, _, hk => exact zk_tableIn (off := 1333) (tgt := 1366) hX dL_law_33 c1 c2 (by rw [hk]; rfl) (by decide) (lw_c34 hX hs h1 h2 hq kk)
  | 35, _, hk => exact zk_tableIn (off := 1366) (tgt := 1399) hX dL_law_33 c1 c2 (by rw [hk]; rfl) (by decide) (lw_c35 hX hs h1 h2 h3 hq kk)
  | 36, _, hk => exact zk_tableIn (off := 1409) (tgt := 1442) hX dL_law_33 c1 c2 (by rw [hk]; rfl) (by decide) (lw_c36 hX hs h1 h2 hq kk)
  | 37, _, hk => exact zk_tableIn (off := 1442) (tgt := 1475) hX dL_law_33 c1 c2 (by rw [hk]; rfl) (by decide) (lw_c37 hX hs h1 h2 h3 hq kk)
  | 38, _, hk => exact zk_tableIn (off := 1485) (tgt := 1518) hX dL_law_33 c1 c2 (by rw [hk]; rfl) (by decide) (lw_c38 hX hs h1 h2 hq kk)
  | 39, _, hk => exact zk_tableIn (off := 1518) (tgt := 1551) hX dL_law_33 c1 c2 (by rw [hk]; rfl) (by decide) (lw_c39 hX hs h1 hq kk)
  | 40, _, hk => exact zk_tableIn (off := 1541) (tgt := 1574) hX dL_law_33 c1 c2 (by rw [hk]; rfl) (by decide) (lw_c40 hX hs h1 hq kk)
  | 41, _, hk => exact zk_tableIn (off := 1564) (tgt := 1597) hX dL_law_33 c1 c2 (by rw [hk]; rfl) (by decide) (lw_c41 hX hs h1 h2 hq kk)
  | 42, _, hk => exact zk_tableIn (off := 1597) (tgt := 1630) hX dL_law_33 c1 c2 (by rw [hk]; rfl) (by decide) (lw_c42 hX hs  hq kk)
  | 43, _, hk => exact zk_tableIn (off := 1610) (tgt := 1643) hX dL_law_33 c1 c2 (by rw [hk]; rfl) (by decide) (lw_c43 hX hs  hq kk)
  | 44, _, hk => exact zk_tableIn (off := 1624) (tgt := 1657) hX dL_law_33 c1 c2 (by rw [hk]; rfl) (by decide) (lw_c44 hX hs  hq kk)
  | 45, _, hk => exact zk_tableIn (off := 1638) (tgt := 1671) hX dL_law_33 c1 c2 (by rw [hk]; rfl) (by decide) (lw_c45 hX hs h1 hq kk)
  | 46, _, hk => exact zk_tableIn (off := 1661) (tgt := 1694) hX dL_law_33 c1 c2 (by rw [hk]; rfl) (by decide) (lw_c46 hX hs  hq kk)
  | 47, _, hk => exact zk_tableIn (off := 1674) (tgt := 1707) hX dL_law_33 c1 c2 (by rw [hk]; rfl) (by decide) (lw_c47 hX hs h1 hq kk)
  | 48, _, hk => exact zk_tableIn (off := 1697) (tgt := 1730) hX dL_law_33 c1 c2 (by rw [hk]; rfl) (by decide) (lw_c48 hX hs  hq kk)
  | k + 49, h, _ => exact absurd h (by omega)
