/-! the law: between -/
theorem dl_292 : decode code 292 = .ok (.aload_n 1, 1) := by decide +kernel
theorem dl_293 : decode code 293 = .ok (.aload_n 0, 1) := by decide +kernel
theorem dl_294 : decode code 294 = .ok (.iload 4, 2) := by decide +kernel
theorem dl_296 : decode code 296 = .ok (.iconst 1, 1) := by decide +kernel
theorem dl_297 : decode code 297 = .ok (.iadd, 1) := by decide +kernel
theorem dl_298 : decode code 298 = .ok (.iaload, 1) := by decide +kernel
theorem dl_299 : decode code 299 = .ok (.aload_n 0, 1) := by decide +kernel
theorem dl_300 : decode code 300 = .ok (.iload 4, 2) := by decide +kernel
theorem dl_302 : decode code 302 = .ok (.iconst 2, 1) := by decide +kernel
theorem dl_303 : decode code 303 = .ok (.iadd, 1) := by decide +kernel
theorem dl_304 : decode code 304 = .ok (.iaload, 1) := by decide +kernel
theorem dl_305 : decode code 305 = .ok (.ifCond .eq 7, 3) := by decide +kernel
theorem dl_308 : decode code 308 = .ok (.iconst 1, 1) := by decide +kernel
theorem dl_309 : decode code 309 = .ok (.goto 4, 3) := by decide +kernel
theorem dl_312 : decode code 312 = .ok (.iconst 0, 1) := by decide +kernel
theorem dl_313 : decode code 313 = .ok (.aload_n 0, 1) := by decide +kernel
theorem dl_314 : decode code 314 = .ok (.iload 4, 2) := by decide +kernel
theorem dl_316 : decode code 316 = .ok (.iconst 3, 1) := by decide +kernel
theorem dl_317 : decode code 317 = .ok (.iadd, 1) := by decide +kernel
theorem dl_318 : decode code 318 = .ok (.iaload, 1) := by decide +kernel
theorem dl_319 : decode code 319 = .ok (.i2l, 1) := by decide +kernel
theorem dl_320 : decode code 320 = .ok (.bipush 32, 2) := by decide +kernel
theorem dl_322 : decode code 322 = .ok (.lshl, 1) := by decide +kernel
theorem dl_323 : decode code 323 = .ok (.aload_n 0, 1) := by decide +kernel
theorem dl_324 : decode code 324 = .ok (.iload 4, 2) := by decide +kernel
theorem dl_326 : decode code 326 = .ok (.iconst 4, 1) := by decide +kernel
theorem dl_327 : decode code 327 = .ok (.iadd, 1) := by decide +kernel
theorem dl_328 : decode code 328 = .ok (.iaload, 1) := by decide +kernel
theorem dl_329 : decode code 329 = .ok (.i2l, 1) := by decide +kernel
theorem dl_330 : decode code 330 = .ok (.ldc2_w 83, 3) := by decide +kernel
theorem dl_333 : decode code 333 = .ok (.land, 1) := by decide +kernel
theorem dl_334 : decode code 334 = .ok (.lor, 1) := by decide +kernel
theorem dl_335 : decode code 335 = .ok (.aload_n 0, 1) := by decide +kernel
theorem dl_336 : decode code 336 = .ok (.iload 4, 2) := by decide +kernel
theorem dl_338 : decode code 338 = .ok (.iconst 5, 1) := by decide +kernel
theorem dl_339 : decode code 339 = .ok (.iadd, 1) := by decide +kernel
theorem dl_340 : decode code 340 = .ok (.iaload, 1) := by decide +kernel
theorem dl_341 : decode code 341 = .ok (.i2l, 1) := by decide +kernel
theorem dl_342 : decode code 342 = .ok (.bipush 32, 2) := by decide +kernel
theorem dl_344 : decode code 344 = .ok (.lshl, 1) := by decide +kernel
theorem dl_345 : decode code 345 = .ok (.aload_n 0, 1) := by decide +kernel
theorem dl_346 : decode code 346 = .ok (.iload 4, 2) := by decide +kernel
theorem dl_348 : decode code 348 = .ok (.bipush 6, 2) := by decide +kernel
theorem dl_350 : decode code 350 = .ok (.iadd, 1) := by decide +kernel
theorem dl_351 : decode code 351 = .ok (.iaload, 1) := by decide +kernel
theorem dl_352 : decode code 352 = .ok (.i2l, 1) := by decide +kernel
theorem dl_353 : decode code 353 = .ok (.ldc2_w 83, 3) := by decide +kernel
theorem dl_356 : decode code 356 = .ok (.land, 1) := by decide +kernel
theorem dl_357 : decode code 357 = .ok (.lor, 1) := by decide +kernel
theorem dl_358 : decode code 358 = .ok (.aload_n 0, 1) := by decide +kernel
theorem dl_359 : decode code 359 = .ok (.iload 4, 2) := by decide +kernel
theorem dl_361 : decode code 361 = .ok (.bipush 7, 2) := by decide +kernel
theorem dl_363 : decode code 363 = .ok (.iadd, 1) := by decide +kernel
theorem dl_364 : decode code 364 = .ok (.iaload, 1) := by decide +kernel
theorem dl_365 : decode code 365 = .ok (.i2l, 1) := by decide +kernel
theorem dl_366 : decode code 366 = .ok (.bipush 32, 2) := by decide +kernel
theorem dl_368 : decode code 368 = .ok (.lshl, 1) := by decide +kernel
theorem dl_369 : decode code 369 = .ok (.aload_n 0, 1) := by decide +kernel
theorem dl_370 : decode code 370 = .ok (.iload 4, 2) := by decide +kernel
theorem dl_372 : decode code 372 = .ok (.bipush 8, 2) := by decide +kernel
theorem dl_374 : decode code 374 = .ok (.iadd, 1) := by decide +kernel
theorem dl_375 : decode code 375 = .ok (.iaload, 1) := by decide +kernel
theorem dl_376 : decode code 376 = .ok (.i2l, 1) := by decide +kernel
theorem dl_377 : decode code 377 = .ok (.ldc2_w 83, 3) := by decide +kernel
theorem dl_380 : decode code 380 = .ok (.land, 1) := by decide +kernel
theorem dl_381 : decode code 381 = .ok (.lor, 1) := by decide +kernel
theorem dl_382 : decode code 382 = .ok (.invokestatic 98, 3) := by decide +kernel
theorem dl_385 : decode code 385 = .ok (.istore 5, 2) := by decide +kernel
theorem dl_387 : decode code 387 = .ok (.aload_n 2, 1) := by decide +kernel
theorem dl_388 : decode code 388 = .ok (.aload_n 0, 1) := by decide +kernel
theorem dl_389 : decode code 389 = .ok (.iload 4, 2) := by decide +kernel
theorem dl_391 : decode code 391 = .ok (.iconst 1, 1) := by decide +kernel
theorem dl_392 : decode code 392 = .ok (.iadd, 1) := by decide +kernel
theorem dl_393 : decode code 393 = .ok (.iaload, 1) := by decide +kernel
theorem dl_394 : decode code 394 = .ok (.aload_n 0, 1) := by decide +kernel
theorem dl_395 : decode code 395 = .ok (.iload 4, 2) := by decide +kernel
theorem dl_397 : decode code 397 = .ok (.iconst 2, 1) := by decide +kernel
theorem dl_398 : decode code 398 = .ok (.iadd, 1) := by decide +kernel
theorem dl_399 : decode code 399 = .ok (.iaload, 1) := by decide +kernel
theorem dl_400 : decode code 400 = .ok (.ifCond .eq 7, 3) := by decide +kernel
theorem dl_403 : decode code 403 = .ok (.iconst 1, 1) := by decide +kernel
theorem dl_404 : decode code 404 = .ok (.goto 4, 3) := by decide +kernel
theorem dl_407 : decode code 407 = .ok (.iconst 0, 1) := by decide +kernel
theorem dl_408 : decode code 408 = .ok (.aload_n 0, 1) := by decide +kernel
theorem dl_409 : decode code 409 = .ok (.iload 4, 2) := by decide +kernel
theorem dl_411 : decode code 411 = .ok (.iconst 3, 1) := by decide +kernel
theorem dl_412 : decode code 412 = .ok (.iadd, 1) := by decide +kernel
theorem dl_413 : decode code 413 = .ok (.iaload, 1) := by decide +kernel
theorem dl_414 : decode code 414 = .ok (.i2l, 1) := by decide +kernel
theorem dl_415 : decode code 415 = .ok (.bipush 32, 2) := by decide +kernel
theorem dl_417 : decode code 417 = .ok (.lshl, 1) := by decide +kernel
theorem dl_418 : decode code 418 = .ok (.aload_n 0, 1) := by decide +kernel
theorem dl_419 : decode code 419 = .ok (.iload 4, 2) := by decide +kernel
theorem dl_421 : decode code 421 = .ok (.iconst 4, 1) := by decide +kernel
theorem dl_422 : decode code 422 = .ok (.iadd, 1) := by decide +kernel
theorem dl_423 : decode code 423 = .ok (.iaload, 1) := by decide +kernel
theorem dl_424 : decode code 424 = .ok (.i2l, 1) := by decide +kernel
theorem dl_425 : decode code 425 = .ok (.ldc2_w 83, 3) := by decide +kernel
theorem dl_428 : decode code 428 = .ok (.land, 1) := by decide +kernel
theorem dl_429 : decode code 429 = .ok (.lor, 1) := by decide +kernel
theorem dl_430 : decode code 430 = .ok (.aload_n 0, 1) := by decide +kernel
theorem dl_431 : decode code 431 = .ok (.iload 4, 2) := by decide +kernel
theorem dl_433 : decode code 433 = .ok (.iconst 5, 1) := by decide +kernel
theorem dl_434 : decode code 434 = .ok (.iadd, 1) := by decide +kernel
theorem dl_435 : decode code 435 = .ok (.iaload, 1) := by decide +kernel
theorem dl_436 : decode code 436 = .ok (.i2l, 1) := by decide +kernel
theorem dl_437 : decode code 437 = .ok (.bipush 32, 2) := by decide +kernel
theorem dl_439 : decode code 439 = .ok (.lshl, 1) := by decide +kernel
theorem dl_440 : decode code 440 = .ok (.aload_n 0, 1) := by decide +kernel
theorem dl_441 : decode code 441 = .ok (.iload 4, 2) := by decide +kernel
theorem dl_443 : decode code 443 = .ok (.bipush 6, 2) := by decide +kernel
theorem dl_445 : decode code 445 = .ok (.iadd, 1) := by decide +kernel
theorem dl_446 : decode code 446 = .ok (.iaload, 1) := by decide +kernel
theorem dl_447 : decode code 447 = .ok (.i2l, 1) := by decide +kernel
theorem dl_448 : decode code 448 = .ok (.ldc2_w 83, 3) := by decide +kernel
theorem dl_451 : decode code 451 = .ok (.land, 1) := by decide +kernel
theorem dl_452 : decode code 452 = .ok (.lor, 1) := by decide +kernel
theorem dl_453 : decode code 453 = .ok (.aload_n 0, 1) := by decide +kernel
theorem dl_454 : decode code 454 = .ok (.iload 4, 2) := by decide +kernel
theorem dl_456 : decode code 456 = .ok (.bipush 7, 2) := by decide +kernel
theorem dl_458 : decode code 458 = .ok (.iadd, 1) := by decide +kernel
theorem dl_459 : decode code 459 = .ok (.iaload, 1) := by decide +kernel
theorem dl_460 : decode code 460 = .ok (.i2l, 1) := by decide +kernel
theorem dl_461 : decode code 461 = .ok (.bipush 32, 2) := by decide +kernel
theorem dl_463 : decode code 463 = .ok (.lshl, 1) := by decide +kernel
theorem dl_464 : decode code 464 = .ok (.aload_n 0, 1) := by decide +kernel
theorem dl_465 : decode code 465 = .ok (.iload 4, 2) := by decide +kernel
theorem dl_467 : decode code 467 = .ok (.bipush 8, 2) := by decide +kernel
theorem dl_469 : decode code 469 = .ok (.iadd, 1) := by decide +kernel
theorem dl_470 : decode code 470 = .ok (.iaload, 1) := by decide +kernel
theorem dl_471 : decode code 471 = .ok (.i2l, 1) := by decide +kernel
theorem dl_472 : decode code 472 = .ok (.ldc2_w 83, 3) := by decide +kernel
theorem dl_475 : decode code 475 = .ok (.land, 1) := by decide +kernel
theorem dl_476 : decode code 476 = .ok (.lor, 1) := by decide +kernel
theorem dl_477 : decode code 477 = .ok (.invokevirtual 101, 3) := by decide +kernel
theorem dl_480 : decode code 480 = .ok (.aload_n 2, 1) := by decide +kernel
theorem dl_481 : decode code 481 = .ok (.invokevirtual 91, 3) := by decide +kernel
theorem dl_484 : decode code 484 = .ok (.iload 5, 2) := by decide +kernel
theorem dl_486 : decode code 486 = .ok (.if_icmp .eq 5, 3) := by decide +kernel
theorem dl_489 : decode code 489 = .ok (.iconst 0, 1) := by decide +kernel
theorem dl_490 : decode code 490 = .ok (.ireturn, 1) := by decide +kernel
theorem dl_491 : decode code 491 = .ok (.goto 1225, 3) := by decide +kernel
set_option maxRecDepth 100000 in
theorem tw2_0 : Cond.methodLink R_L 98 y_L_between ∈ lw_tbl := List.mem_of_getElem? (i := 304) rfl
set_option maxRecDepth 100000 in
theorem tw2_1 : Cond.static y_L_between ∈ lw_tbl := List.mem_of_getElem? (i := 305) rfl
set_option maxRecDepth 100000 in
theorem tw2_2 : Cond.codeWith y_L_between b_L_between 10 (some .int) [(0, 11, 14, 13), (0, 11, 18, 22)] ∈ lw_tbl := List.mem_of_getElem? (i := 306) rfl
set_option maxRecDepth 100000 in
theorem tw2_3 : Cond.methodLink R_L 101 y_M_between ∈ lw_tbl := List.mem_of_getElem? (i := 703) rfl
set_option maxRecDepth 100000 in
theorem tw2_4 : Cond.methodLink R_L 91 y_M_thrown ∈ lw_tbl := List.mem_of_getElem? (i := 657) rfl
set_option maxRecDepth 100000 in
set_option maxHeartbeats 4000000 in
theorem law_between {p : Program} {l : Launch} {e : Env} {s : State} {m : MethodId} {below : List Frame} {meth : Method} {c : Code} {b L : Nat} {xs : Nat → Int32} {dC : Nat → ClassId} {dI : Nat → Nat → Nat} {cQ cJ cZ : ClassId} {ad am : Nat → Nat} {oa i cells slots : Nat} {Q : State → Prop} {v : Nat → VV} {w : Nat → Int64} {t : Int32} {x y z : VV} {o : Nat → Int64} {c0 : Int32} {r : Nat → VV} {H : Heap} {locs : List Loc} {ls : Array Slot} (E : LE l p s m c b L xs dC dI cQ cJ cZ) (hi : i + 9 ≤ L) (hc1 : cells + 4 ≤ 601024) (hc2 : slots + 24 ≤ 7293034) (I : LI s dC dI cQ cJ cZ ad am oa v w t x y z o c0 r H locs) (hl : LL ls b ad am oa i) (kk : LK p l e s m below meth c b dC dI cQ cJ cZ ad am oa i cells slots Q) : W p l e room_1 s m #[Value.ref b] below meth c H locs cells slots Q (F0 m 292 ls []) := by
  obtain ⟨hx, hb, hml, hown, hts, hX, hbl, hL, hlt, hQ, hNc, hKs, hKm⟩ := E
  obtain ⟨hI, hP, hD, hS⟩ := I
  have hA : ∀ q : Nat, s.heap.size ≤ q → (fun q : Nat => s.heap.size ≤ q) q := fun _ h => h
  have hbA : ¬ (fun q : Nat => s.heap.size ≤ q) b := Nat.not_le.mpr hbl
  have hl : lv_has ls 8 [(0, .ref b), (1, .ref (ad 0)), (2, .ref (am 0)), (3, .ref oa), (4, .int (nI i))] := hl
  refine lv_aload_n hx hb dl_292 rfl (lv_at hl 1 rfl) ?_
  refine ls_rd (j := 1) hx hb hX hbl hbA hS hL (lv_at hl 0 rfl) (lv_at hl 4 rfl) (by omega) (by decide) dl_293 dl_294 dl_296 dl_297 dl_298 ?_
  refine ls_rd (j := 2) hx hb hX hbl hbA hS hL (lv_at hl 0 rfl) (lv_at hl 4 rfl) (by omega) (by decide) dl_299 dl_300 dl_302 dl_303 dl_304 ?_
  refine ls_z hx hb dl_305 dl_308 dl_309 dl_312 ?_
  refine ls_rd (j := 3) hx hb hX hbl hbA hS hL (lv_at hl 0 rfl) (lv_at hl 4 rfl) (by omega) (by decide) dl_313 dl_314 dl_316 dl_317 dl_318 ?_
  refine ls_hi hx hb dl_319 dl_320 dl_322 ?_
  refine ls_rd (j := 4) hx hb hX hbl hbA hS hL (lv_at hl 0 rfl) (lv_at hl 4 rfl) (by omega) (by decide) dl_323 dl_324 dl_326 dl_327 dl_328 ?_
  refine ls_lo hx hb hown (hts _ tCon) dl_329 dl_330 dl_333 dl_334 ?_
  refine ls_rd (j := 5) hx hb hX hbl hbA hS hL (lv_at hl 0 rfl) (lv_at hl 4 rfl) (by omega) (by decide) dl_335 dl_336 dl_338 dl_339 dl_340 ?_
  refine ls_hi hx hb dl_341 dl_342 dl_344 ?_
  refine ls_rb (j := 6) hx hb hX hbl hbA hS hL (lv_at hl 0 rfl) (lv_at hl 4 rfl) (by omega) (by decide) dl_345 dl_346 dl_348 dl_350 dl_351 ?_
  refine ls_lo hx hb hown (hts _ tCon) dl_352 dl_353 dl_356 dl_357 ?_
  refine ls_rb (j := 7) hx hb hX hbl hbA hS hL (lv_at hl 0 rfl) (lv_at hl 4 rfl) (by omega) (by decide) dl_358 dl_359 dl_361 dl_363 dl_364 ?_
  refine ls_hi hx hb dl_365 dl_366 dl_368 ?_
  refine ls_rb (j := 8) hx hb hX hbl hbA hS hL (lv_at hl 0 rfl) (lv_at hl 4 rfl) (by omega) (by decide) dl_369 dl_370 dl_372 dl_374 dl_375 ?_
  refine ls_lo hx hb hown (hts _ tCon) dl_376 dl_377 dl_380 dl_381 ?_
  have hP : va_P (dC, dI) classes (sW ad cQ cJ v w t x y z ++ ([(oa, .inl (cJ, 1, .inr (.inl o)))] ++ mW am cJ cZ c0 r w t)) H := by rw [← List.append_assoc]; exact hP
  have hD : va_D (fun q : Nat => s.heap.size ≤ q) (sW ad cQ cJ v w t x y z ++ ([(oa, .inl (cJ, 1, .inr (.inl o)))] ++ mW am cJ cZ c0 r w t)) := by rw [← List.append_assoc]; exact hD
  refine lc_S (vx_runSW (As := [.ref (ad 0), .int (xs (i + 1)), .int (bI (bX (xs (i + 2)))), .long (lgX (xs (i + 3)) (xs (i + 4))), .long (lgX (xs (i + 5)) (xs (i + 6))), .long (lgX (xs (i + 7)) (xs (i + 8)))]) (rest := []) ⟨hx, hb, hml, hown, hts⟩ (c_L_between l hlt dC dI ad cQ cJ H.size v w t x y z (xs (i + 1)) (bI (bX (xs (i + 2)))) (lgX (xs (i + 3)) (xs (i + 4))) (lgX (xs (i + 5)) (xs (i + 6))) (lgX (xs (i + 7)) (xs (i + 8)))) (vx_cwSW 6 hts (gLS rfl tw2_0 tw2_1 tw2_2) rfl rfl rfl (by decide +kernel) ⟨(Nat.le_of_ble_eq_true rfl), (Nat.le_of_ble_eq_true rfl)⟩) (lc_pS (va_P.left hP) (va_D.left hD) hS hA hKs hQ hNc) rfl rfl hl.1 rfl (lv_room (Nat.le_of_ble_eq_true rfl)) dl_382 ⟨(show cells + 2 ≤ 601024 by omega), (show slots + 12 ≤ 7293034 by omega)⟩) hP hD hS hA (fun H locs hP hD hS => ?_)
  rw [← List.append_assoc] at hP hD
  refine lv_istore (lv' := [(5, .int (f_S_between v w t x y z (xs (i + 1)) (bI (bX (xs (i + 2)))) (lgX (xs (i + 3)) (xs (i + 4))) (lgX (xs (i + 5)) (xs (i + 6))) (lgX (xs (i + 7)) (xs (i + 8)))).1), (0, .ref b), (1, .ref (ad 0)), (2, .ref (am 0)), (3, .ref oa), (4, .int (nI i))]) hx hb dl_385 hl (by decide) rfl (fun ls hl => ?_)
  refine lv_aload_n hx hb dl_387 rfl (lv_at hl 3 rfl) ?_
  refine ls_rd (j := 1) hx hb hX hbl hbA hS hL (lv_at hl 1 rfl) (lv_at hl 5 rfl) (by omega) (by decide) dl_388 dl_389 dl_391 dl_392 dl_393 ?_
  refine ls_rd (j := 2) hx hb hX hbl hbA hS hL (lv_at hl 1 rfl) (lv_at hl 5 rfl) (by omega) (by decide) dl_394 dl_395 dl_397 dl_398 dl_399 ?_
  refine ls_z hx hb dl_400 dl_403 dl_404 dl_407 ?_
  refine ls_rd (j := 3) hx hb hX hbl hbA hS hL (lv_at hl 1 rfl) (lv_at hl 5 rfl) (by omega) (by decide) dl_408 dl_409 dl_411 dl_412 dl_413 ?_
  refine ls_hi hx hb dl_414 dl_415 dl_417 ?_
  refine ls_rd (j := 4) hx hb hX hbl hbA hS hL (lv_at hl 1 rfl) (lv_at hl 5 rfl) (by omega) (by decide) dl_418 dl_419 dl_421 dl_422 dl_423 ?_
  refine ls_lo hx hb hown (hts _ tCon) dl_424 dl_425 dl_428 dl_429 ?_
  refine ls_rd (j := 5) hx hb hX hbl hbA hS hL (lv_at hl 1 rfl) (lv_at hl 5 rfl) (by omega) (by decide) dl_430 dl_431 dl_433 dl_434 dl_435 ?_
  refine ls_hi hx hb dl_436 dl_437 dl_439 ?_
  refine ls_rb (j := 6) hx hb hX hbl hbA hS hL (lv_at hl 1 rfl) (lv_at hl 5 rfl) (by omega) (by decide) dl_440 dl_441 dl_443 dl_445 dl_446 ?_
  refine ls_lo hx hb hown (hts _ tCon) dl_447 dl_448 dl_451 dl_452 ?_
  refine ls_rb (j := 7) hx hb hX hbl hbA hS hL (lv_at hl 1 rfl) (lv_at hl 5 rfl) (by omega) (by decide) dl_453 dl_454 dl_456 dl_458 dl_459 ?_
  refine ls_hi hx hb dl_460 dl_461 dl_463 ?_
  refine ls_rb (j := 8) hx hb hX hbl hbA hS hL (lv_at hl 1 rfl) (lv_at hl 5 rfl) (by omega) (by decide) dl_464 dl_465 dl_467 dl_469 dl_470 ?_
  refine ls_lo hx hb hown (hts _ tCon) dl_471 dl_472 dl_475 dl_476 ?_
  refine lc_Mv (va_runV (As := [.int (xs (i + 1)), .int (bI (bX (xs (i + 2)))), .long (lgX (xs (i + 3)) (xs (i + 4))), .long (lgX (xs (i + 5)) (xs (i + 6))), .long (lgX (xs (i + 7)) (xs (i + 8)))]) (rest := []) ⟨hx, hb, hml, hown, hts⟩ (c_M_between l dC dI am cJ cZ H.size c0 r w t (xs (i + 1)) (bX (xs (i + 2))) (lgX (xs (i + 3)) (xs (i + 4))) (lgX (xs (i + 5)) (xs (i + 6))) (lgX (xs (i + 7)) (xs (i + 8)))) (cwV 5 hts (gLM tw2_3 gx66 gx67 gx68) rfl rfl rfl (by decide +kernel) ⟨(Nat.le_of_ble_eq_true rfl), (Nat.le_of_ble_eq_true rfl)⟩) (lc_pM (va_P.right hP) (va_D.right hD) hKm) rfl rfl hl.1 rfl (lv_room (Nat.le_of_ble_eq_true rfl)) dl_477 ⟨(show cells + 2 + 0 ≤ 601024 by omega), (show slots + 12 + 0 ≤ 7293034 by omega)⟩) hP hD hS hA (fun H locs hP hD hS => ?_)
  refine lv_aload_n hx hb dl_480 rfl (lv_at hl 3 rfl) ?_
  refine rc_i (W.runV (As := []) (rest := []) ⟨hx, hb, hml, hown, hts⟩ (c_M_thrown l dC dI am cJ cZ (f_M_between r w t (xs (i + 1)) (bX (xs (i + 2))) (lgX (xs (i + 3)) (xs (i + 4))) (lgX (xs (i + 5)) (xs (i + 6))) (lgX (xs (i + 7)) (xs (i + 8)))).1 (f_M_between r w t (xs (i + 1)) (bX (xs (i + 2))) (lgX (xs (i + 3)) (xs (i + 4))) (lgX (xs (i + 5)) (xs (i + 6))) (lgX (xs (i + 7)) (xs (i + 8)))).2.1 (f_M_between r w t (xs (i + 1)) (bX (xs (i + 2))) (lgX (xs (i + 3)) (xs (i + 4))) (lgX (xs (i + 5)) (xs (i + 6))) (lgX (xs (i + 7)) (xs (i + 8)))).2.2.1 (f_M_between r w t (xs (i + 1)) (bX (xs (i + 2))) (lgX (xs (i + 3)) (xs (i + 4))) (lgX (xs (i + 5)) (xs (i + 6))) (lgX (xs (i + 7)) (xs (i + 8)))).2.2.2) (cwV 0 hts (gLM tw2_4 gx30 gx31 gx32) rfl rfl rfl (by decide +kernel) ⟨(Nat.le_of_ble_eq_true rfl), (Nat.le_of_ble_eq_true rfl)⟩) (lc_pR (va_P.right hP) hKm) rfl rfl hl.1 rfl (lv_room (Nat.le_of_ble_eq_true rfl)) dl_481 ⟨(show cells + 2 + 0 + 0 ≤ 601024 by omega), (show slots + 12 + 0 + 0 ≤ 7293034 by omega)⟩) ?_
  obtain ⟨h1, h2, h3, h4⟩ := link_between hI t x y z (xs (i + 1)) (bX (xs (i + 2))) (lgX (xs (i + 3)) (xs (i + 4))) (lgX (xs (i + 5)) (xs (i + 6))) (lgX (xs (i + 7)) (xs (i + 8)))
  refine lv_iload hx hb dl_484 (lv_at hl 0 rfl) ?_
  refine lv_icmp_eq (tgt := 491) hx hb dl_486 (by decide) (fun _ => ?_) (fun hz => absurd (show f_M_thrown ((f_M_between r w t (xs (i + 1)) (bX (xs (i + 2))) (lgX (xs (i + 3)) (xs (i + 4))) (lgX (xs (i + 5)) (xs (i + 6))) (lgX (xs (i + 7)) (xs (i + 8)))).1) = (f_S_between v w t x y z (xs (i + 1)) (bI (bX (xs (i + 2)))) (lgX (xs (i + 3)) (xs (i + 4))) (lgX (xs (i + 5)) (xs (i + 6))) (lgX (xs (i + 7)) (xs (i + 8)))).1 from h1) hz)
  refine lv_goto (tgt := 1716) hx hb dl_491 (by decide) ?_
  rw [h3, h4] at hP hD
  refine W.widen (k := cells + 4) (n := slots + 24) (by omega) (by omega) ?_
  exact kk _ _ _ _ _ _ _ _ _ _ _ ls ⟨h2, hP, hD, hS⟩ (lv_sub hl [1, 2, 3, 4, 5] rfl)
