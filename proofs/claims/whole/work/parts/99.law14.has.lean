/-! the law: has -/
theorem dl_1320 : decode code 1320 = .ok (.aload_n 1, 1) := by decide +kernel
theorem dl_1321 : decode code 1321 = .ok (.aload_n 0, 1) := by decide +kernel
theorem dl_1322 : decode code 1322 = .ok (.iload 4, 2) := by decide +kernel
theorem dl_1324 : decode code 1324 = .ok (.iconst 1, 1) := by decide +kernel
theorem dl_1325 : decode code 1325 = .ok (.iadd, 1) := by decide +kernel
theorem dl_1326 : decode code 1326 = .ok (.iaload, 1) := by decide +kernel
theorem dl_1327 : decode code 1327 = .ok (.aload_n 0, 1) := by decide +kernel
theorem dl_1328 : decode code 1328 = .ok (.iload 4, 2) := by decide +kernel
theorem dl_1330 : decode code 1330 = .ok (.iconst 2, 1) := by decide +kernel
theorem dl_1331 : decode code 1331 = .ok (.iadd, 1) := by decide +kernel
theorem dl_1332 : decode code 1332 = .ok (.iaload, 1) := by decide +kernel
theorem dl_1333 : decode code 1333 = .ok (.i2l, 1) := by decide +kernel
theorem dl_1334 : decode code 1334 = .ok (.bipush 32, 2) := by decide +kernel
theorem dl_1336 : decode code 1336 = .ok (.lshl, 1) := by decide +kernel
theorem dl_1337 : decode code 1337 = .ok (.aload_n 0, 1) := by decide +kernel
theorem dl_1338 : decode code 1338 = .ok (.iload 4, 2) := by decide +kernel
theorem dl_1340 : decode code 1340 = .ok (.iconst 3, 1) := by decide +kernel
theorem dl_1341 : decode code 1341 = .ok (.iadd, 1) := by decide +kernel
theorem dl_1342 : decode code 1342 = .ok (.iaload, 1) := by decide +kernel
theorem dl_1343 : decode code 1343 = .ok (.i2l, 1) := by decide +kernel
theorem dl_1344 : decode code 1344 = .ok (.ldc2_w 83, 3) := by decide +kernel
theorem dl_1347 : decode code 1347 = .ok (.land, 1) := by decide +kernel
theorem dl_1348 : decode code 1348 = .ok (.lor, 1) := by decide +kernel
theorem dl_1349 : decode code 1349 = .ok (.aload_n 3, 1) := by decide +kernel
theorem dl_1350 : decode code 1350 = .ok (.invokestatic 138, 3) := by decide +kernel
theorem dl_1353 : decode code 1353 = .ok (.istore 5, 2) := by decide +kernel
theorem dl_1355 : decode code 1355 = .ok (.aload_n 2, 1) := by decide +kernel
theorem dl_1356 : decode code 1356 = .ok (.aload_n 0, 1) := by decide +kernel
theorem dl_1357 : decode code 1357 = .ok (.iload 4, 2) := by decide +kernel
theorem dl_1359 : decode code 1359 = .ok (.iconst 1, 1) := by decide +kernel
theorem dl_1360 : decode code 1360 = .ok (.iadd, 1) := by decide +kernel
theorem dl_1361 : decode code 1361 = .ok (.iaload, 1) := by decide +kernel
theorem dl_1362 : decode code 1362 = .ok (.aload_n 0, 1) := by decide +kernel
theorem dl_1363 : decode code 1363 = .ok (.iload 4, 2) := by decide +kernel
theorem dl_1365 : decode code 1365 = .ok (.iconst 2, 1) := by decide +kernel
theorem dl_1366 : decode code 1366 = .ok (.iadd, 1) := by decide +kernel
theorem dl_1367 : decode code 1367 = .ok (.iaload, 1) := by decide +kernel
theorem dl_1368 : decode code 1368 = .ok (.i2l, 1) := by decide +kernel
theorem dl_1369 : decode code 1369 = .ok (.bipush 32, 2) := by decide +kernel
theorem dl_1371 : decode code 1371 = .ok (.lshl, 1) := by decide +kernel
theorem dl_1372 : decode code 1372 = .ok (.aload_n 0, 1) := by decide +kernel
theorem dl_1373 : decode code 1373 = .ok (.iload 4, 2) := by decide +kernel
theorem dl_1375 : decode code 1375 = .ok (.iconst 3, 1) := by decide +kernel
theorem dl_1376 : decode code 1376 = .ok (.iadd, 1) := by decide +kernel
theorem dl_1377 : decode code 1377 = .ok (.iaload, 1) := by decide +kernel
theorem dl_1378 : decode code 1378 = .ok (.i2l, 1) := by decide +kernel
theorem dl_1379 : decode code 1379 = .ok (.ldc2_w 83, 3) := by decide +kernel
theorem dl_1382 : decode code 1382 = .ok (.land, 1) := by decide +kernel
theorem dl_1383 : decode code 1383 = .ok (.lor, 1) := by decide +kernel
theorem dl_1384 : decode code 1384 = .ok (.invokevirtual 141, 3) := by decide +kernel
theorem dl_1387 : decode code 1387 = .ok (.istore 6, 2) := by decide +kernel
theorem dl_1389 : decode code 1389 = .ok (.aload_n 2, 1) := by decide +kernel
theorem dl_1390 : decode code 1390 = .ok (.invokevirtual 91, 3) := by decide +kernel
theorem dl_1393 : decode code 1393 = .ok (.iload 5, 2) := by decide +kernel
theorem dl_1395 : decode code 1395 = .ok (.if_icmp .eq 5, 3) := by decide +kernel
theorem dl_1398 : decode code 1398 = .ok (.iconst 0, 1) := by decide +kernel
theorem dl_1399 : decode code 1399 = .ok (.ireturn, 1) := by decide +kernel
theorem dl_1400 : decode code 1400 = .ok (.iload 5, 2) := by decide +kernel
theorem dl_1402 : decode code 1402 = .ok (.ifCond .ne 22, 3) := by decide +kernel
theorem dl_1405 : decode code 1405 = .ok (.aload_n 3, 1) := by decide +kernel
theorem dl_1406 : decode code 1406 = .ok (.iconst 0, 1) := by decide +kernel
theorem dl_1407 : decode code 1407 = .ok (.laload, 1) := by decide +kernel
theorem dl_1408 : decode code 1408 = .ok (.iload 6, 2) := by decide +kernel
theorem dl_1410 : decode code 1410 = .ok (.ifCond .eq 7, 3) := by decide +kernel
theorem dl_1413 : decode code 1413 = .ok (.lconst 1, 1) := by decide +kernel
theorem dl_1414 : decode code 1414 = .ok (.goto 4, 3) := by decide +kernel
theorem dl_1417 : decode code 1417 = .ok (.lconst 0, 1) := by decide +kernel
theorem dl_1418 : decode code 1418 = .ok (.lcmp, 1) := by decide +kernel
theorem dl_1419 : decode code 1419 = .ok (.ifCond .eq 5, 3) := by decide +kernel
theorem dl_1422 : decode code 1422 = .ok (.iconst 0, 1) := by decide +kernel
theorem dl_1423 : decode code 1423 = .ok (.ireturn, 1) := by decide +kernel
theorem dl_1424 : decode code 1424 = .ok (.goto 292, 3) := by decide +kernel
set_option maxRecDepth 100000 in
theorem tw13_0 : Cond.methodLink R_L 138 y_L_has ∈ lw_tbl := List.mem_of_getElem? (i := 584) rfl
set_option maxRecDepth 100000 in
theorem tw13_1 : Cond.static y_L_has ∈ lw_tbl := List.mem_of_getElem? (i := 585) rfl
set_option maxRecDepth 100000 in
theorem tw13_2 : Cond.codeWith y_L_has b_L_has 6 (some .int) [(0, 18, 21, 13)] ∈ lw_tbl := List.mem_of_getElem? (i := 586) rfl
set_option maxRecDepth 100000 in
theorem tw13_3 : Cond.methodLink R_L 141 y_M_has0 ∈ lw_tbl := List.mem_of_getElem? (i := 930) rfl
set_option maxRecDepth 100000 in
theorem tw13_4 : Cond.methodLink R_L 91 y_M_thrown ∈ lw_tbl := List.mem_of_getElem? (i := 657) rfl
set_option maxRecDepth 100000 in
set_option maxHeartbeats 4000000 in
theorem law_has {p : Program} {l : Launch} {e : Env} {s : State} {m : MethodId} {below : List Frame} {meth : Method} {c : Code} {b L : Nat} {xs : Nat → Int32} {dC : Nat → ClassId} {dI : Nat → Nat → Nat} {cQ cJ cZ : ClassId} {ad am : Nat → Nat} {oa i cells slots : Nat} {Q : State → Prop} {v : Nat → VV} {w : Nat → Int64} {t : Int32} {x y z : VV} {o : Nat → Int64} {c0 : Int32} {r : Nat → VV} {H : Heap} {locs : List Loc} {ls : Array Slot} (E : LE l p s m c b L xs dC dI cQ cJ cZ) (hi : i + 9 ≤ L) (hc1 : cells + 4 ≤ 601024) (hc2 : slots + 24 ≤ 7293034) (I : LI s dC dI cQ cJ cZ ad am oa v w t x y z o c0 r H locs) (hl : LL ls b ad am oa i) (kk : LK p l e s m below meth c b dC dI cQ cJ cZ ad am oa i cells slots Q) : W p l e room_1 s m #[Value.ref b] below meth c H locs cells slots Q (F0 m 1320 ls []) := by
  obtain ⟨hx, hb, hml, hown, hts, hX, hbl, hL, hlt, hQ, hNc, hKs, hKm⟩ := E
  obtain ⟨hI, hP, hD, hS⟩ := I
  have hA : ∀ q : Nat, s.heap.size ≤ q → (fun q : Nat => s.heap.size ≤ q) q := fun _ h => h
  have hbA : ¬ (fun q : Nat => s.heap.size ≤ q) b := Nat.not_le.mpr hbl
  have hl : lv_has ls 8 [(0, .ref b), (1, .ref (ad 0)), (2, .ref (am 0)), (3, .ref oa), (4, .int (nI i))] := hl
  refine lv_aload_n hx hb dl_1320 rfl (lv_at hl 1 rfl) ?_
  refine ls_rd (j := 1) hx hb hX hbl hbA hS hL (lv_at hl 0 rfl) (lv_at hl 4 rfl) (by omega) (by decide) dl_1321 dl_1322 dl_1324 dl_1325 dl_1326 ?_
  refine ls_rd (j := 2) hx hb hX hbl hbA hS hL (lv_at hl 0 rfl) (lv_at hl 4 rfl) (by omega) (by decide) dl_1327 dl_1328 dl_1330 dl_1331 dl_1332 ?_
  refine ls_hi hx hb dl_1333 dl_1334 dl_1336 ?_
  refine ls_rd (j := 3) hx hb hX hbl hbA hS hL (lv_at hl 0 rfl) (lv_at hl 4 rfl) (by omega) (by decide) dl_1337 dl_1338 dl_1340 dl_1341 dl_1342 ?_
  refine ls_lo hx hb hown (hts _ tCon) dl_1343 dl_1344 dl_1347 dl_1348 ?_
  refine lv_aload_n hx hb dl_1349 rfl (lv_at hl 3 rfl) ?_
  have hP : va_P (dC, dI) classes ((sW ad cQ cJ v w t x y z ++ [(oa, .inl (cJ, 1, .inr (.inl o)))]) ++ mW am cJ cZ c0 r w t) H := hP
  have hD : va_D (fun q : Nat => s.heap.size ≤ q) ((sW ad cQ cJ v w t x y z ++ [(oa, .inl (cJ, 1, .inr (.inl o)))]) ++ mW am cJ cZ c0 r w t) := hD
  refine lc_S (vx_runSW (As := [.ref (ad 0), .int (xs (i + 1)), .long (lgX (xs (i + 2)) (xs (i + 3))), .ref oa]) (rest := []) ⟨hx, hb, hml, hown, hts⟩ (c_L_has l hlt dC dI ad cQ cJ H.size v w t x y z (xs (i + 1)) (lgX (xs (i + 2)) (xs (i + 3))) oa o) (vx_cwSW 4 hts (gLS rfl tw13_0 tw13_1 tw13_2) rfl rfl rfl (by decide +kernel) ⟨(Nat.le_of_ble_eq_true rfl), (Nat.le_of_ble_eq_true rfl)⟩) (lc_pS (va_P.left hP) (va_D.left hD) hS hA hKs hQ hNc) rfl rfl hl.1 rfl (lv_room (Nat.le_of_ble_eq_true rfl)) dl_1350 ⟨(show cells + 1 ≤ 601024 by omega), (show slots + 6 ≤ 7293034 by omega)⟩) hP hD hS hA (fun H locs hP hD hS => ?_)
  refine lv_istore (lv' := [(5, .int (f_S_has v w t x y z (xs (i + 1)) (lgX (xs (i + 2)) (xs (i + 3)))).1), (0, .ref b), (1, .ref (ad 0)), (2, .ref (am 0)), (3, .ref oa), (4, .int (nI i))]) hx hb dl_1353 hl (by decide) rfl (fun ls hl => ?_)
  refine lv_aload_n hx hb dl_1355 rfl (lv_at hl 3 rfl) ?_
  refine ls_rd (j := 1) hx hb hX hbl hbA hS hL (lv_at hl 1 rfl) (lv_at hl 5 rfl) (by omega) (by decide) dl_1356 dl_1357 dl_1359 dl_1360 dl_1361 ?_
  refine ls_rd (j := 2) hx hb hX hbl hbA hS hL (lv_at hl 1 rfl) (lv_at hl 5 rfl) (by omega) (by decide) dl_1362 dl_1363 dl_1365 dl_1366 dl_1367 ?_
  refine ls_hi hx hb dl_1368 dl_1369 dl_1371 ?_
  refine ls_rd (j := 3) hx hb hX hbl hbA hS hL (lv_at hl 1 rfl) (lv_at hl 5 rfl) (by omega) (by decide) dl_1372 dl_1373 dl_1375 dl_1376 dl_1377 ?_
  refine ls_lo hx hb hown (hts _ tCon) dl_1378 dl_1379 dl_1382 dl_1383 ?_
  refine lc_Mi (va_runV (As := [.int (xs (i + 1)), .long (lgX (xs (i + 2)) (xs (i + 3)))]) (rest := []) ⟨hx, hb, hml, hown, hts⟩ (c_M_has0 l dC dI am cJ cZ H.size c0 r w t (xs (i + 1)) (lgX (xs (i + 2)) (xs (i + 3)))) (cwV 2 hts (gLM tw13_3 gx249 gx250 gx251) rfl rfl rfl (by decide +kernel) ⟨(Nat.le_of_ble_eq_true rfl), (Nat.le_of_ble_eq_true rfl)⟩) (lc_pM (va_P.right hP) (va_D.right hD) hKm) rfl rfl hl.1 rfl (lv_room (Nat.le_of_ble_eq_true rfl)) dl_1384 ⟨(show cells + 1 + 0 ≤ 601024 by omega), (show slots + 6 + 0 ≤ 7293034 by omega)⟩) hP hD hS hA (fun H locs hP hD hS => ?_)
  refine lv_istore (lv' := [(6, .int (bI (f_M_has0 r (xs (i + 1)) (lgX (xs (i + 2)) (xs (i + 3)))).1)), (5, .int (f_S_has v w t x y z (xs (i + 1)) (lgX (xs (i + 2)) (xs (i + 3)))).1), (0, .ref b), (1, .ref (ad 0)), (2, .ref (am 0)), (3, .ref oa), (4, .int (nI i))]) hx hb dl_1387 hl (by decide) rfl (fun ls hl => ?_)
  refine lv_aload_n hx hb dl_1389 rfl (lv_at hl 4 rfl) ?_
  refine rc_i (W.runV (As := []) (rest := []) ⟨hx, hb, hml, hown, hts⟩ (c_M_thrown l dC dI am cJ cZ (f_M_has0 r (xs (i + 1)) (lgX (xs (i + 2)) (xs (i + 3)))).2 r w t) (cwV 0 hts (gLM tw13_4 gx30 gx31 gx32) rfl rfl rfl (by decide +kernel) ⟨(Nat.le_of_ble_eq_true rfl), (Nat.le_of_ble_eq_true rfl)⟩) (lc_pR (va_P.right hP) hKm) rfl rfl hl.1 rfl (lv_room (Nat.le_of_ble_eq_true rfl)) dl_1390 ⟨(show cells + 1 + 0 + 0 ≤ 601024 by omega), (show slots + 6 + 0 + 0 ≤ 7293034 by omega)⟩) ?_
  obtain ⟨h1, h2⟩ := link_has hI t x y z (xs (i + 1)) (lgX (xs (i + 2)) (xs (i + 3)))
  refine lv_iload hx hb dl_1393 (lv_at hl 1 rfl) ?_
  refine lv_icmp_eq (tgt := 1400) hx hb dl_1395 (by decide) (fun _ => ?_) (fun hz => absurd (show f_M_thrown ((f_M_has0 r (xs (i + 1)) (lgX (xs (i + 2)) (xs (i + 3)))).2) = (f_S_has v w t x y z (xs (i + 1)) (lgX (xs (i + 2)) (xs (i + 3)))).1 from h1) hz)
  refine lv_iload hx hb dl_1400 (lv_at hl 1 rfl) ?_
  have hE : W p l e room_1 s m #[Value.ref b] below meth c H locs (cells + 1 + 0) (slots + 6 + 0) Q (F0 m 1424 ls []) := by
    refine lv_goto (tgt := 1716) hx hb dl_1424 (by decide) ?_
    refine W.widen (k := cells + 4) (n := slots + 24) (by omega) (by omega) ?_
    exact kk _ _ _ _ _ _ _ _ _ _ _ ls ⟨hI, hP, hD, hS⟩ (lv_sub hl [2, 3, 4, 5, 6] rfl)
  refine lv_if_ne (tgt := 1424) hx hb dl_1402 (by decide) (fun _ => hE) (fun h0 => ?_)
  refine lv_aload_n hx hb dl_1405 rfl (lv_at hl 5 rfl) ?_
  refine lv_iconst (v := 0) hx hb dl_1406 (by decide) ?_
  refine va_lald hx hb hKs hP 22 1 rfl rfl (show vp_in 0 1 by unfold vp_in; decide) dl_1407 ?_
  rw [if_pos h0, upd0]
  refine lv_iload hx hb dl_1408 (lv_at hl 0 rfl) ?_
  refine ls_bit hx hb dl_1410 dl_1413 dl_1414 dl_1417 ?_
  refine W.lcmp hx hb dl_1418 ?_
  exact lv_if_eq (tgt := 1424) hx hb dl_1419 (by decide) (fun _ => hE) (fun hz => absurd ((lg_eq0 _ _).mpr (by rw [h2 h0])) hz)
