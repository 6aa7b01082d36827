/-! the law: least -/
theorem dl_1427 : decode code 1427 = .ok (.aload_n 1, 1) := by decide +kernel
theorem dl_1428 : decode code 1428 = .ok (.aload_n 0, 1) := by decide +kernel
theorem dl_1429 : decode code 1429 = .ok (.iload 4, 2) := by decide +kernel
theorem dl_1431 : decode code 1431 = .ok (.iconst 1, 1) := by decide +kernel
theorem dl_1432 : decode code 1432 = .ok (.iadd, 1) := by decide +kernel
theorem dl_1433 : decode code 1433 = .ok (.iaload, 1) := by decide +kernel
theorem dl_1434 : decode code 1434 = .ok (.aload_n 0, 1) := by decide +kernel
theorem dl_1435 : decode code 1435 = .ok (.iload 4, 2) := by decide +kernel
theorem dl_1437 : decode code 1437 = .ok (.iconst 2, 1) := by decide +kernel
theorem dl_1438 : decode code 1438 = .ok (.iadd, 1) := by decide +kernel
theorem dl_1439 : decode code 1439 = .ok (.iaload, 1) := by decide +kernel
theorem dl_1440 : decode code 1440 = .ok (.ifCond .eq 7, 3) := by decide +kernel
theorem dl_1443 : decode code 1443 = .ok (.iconst 1, 1) := by decide +kernel
theorem dl_1444 : decode code 1444 = .ok (.goto 4, 3) := by decide +kernel
theorem dl_1447 : decode code 1447 = .ok (.iconst 0, 1) := by decide +kernel
theorem dl_1448 : decode code 1448 = .ok (.aload_n 3, 1) := by decide +kernel
theorem dl_1449 : decode code 1449 = .ok (.invokestatic 142, 3) := by decide +kernel
theorem dl_1452 : decode code 1452 = .ok (.istore 5, 2) := by decide +kernel
theorem dl_1454 : decode code 1454 = .ok (.aload_n 2, 1) := by decide +kernel
theorem dl_1455 : decode code 1455 = .ok (.aload_n 0, 1) := by decide +kernel
theorem dl_1456 : decode code 1456 = .ok (.iload 4, 2) := by decide +kernel
theorem dl_1458 : decode code 1458 = .ok (.iconst 1, 1) := by decide +kernel
theorem dl_1459 : decode code 1459 = .ok (.iadd, 1) := by decide +kernel
theorem dl_1460 : decode code 1460 = .ok (.iaload, 1) := by decide +kernel
theorem dl_1461 : decode code 1461 = .ok (.aload_n 0, 1) := by decide +kernel
theorem dl_1462 : decode code 1462 = .ok (.iload 4, 2) := by decide +kernel
theorem dl_1464 : decode code 1464 = .ok (.iconst 2, 1) := by decide +kernel
theorem dl_1465 : decode code 1465 = .ok (.iadd, 1) := by decide +kernel
theorem dl_1466 : decode code 1466 = .ok (.iaload, 1) := by decide +kernel
theorem dl_1467 : decode code 1467 = .ok (.ifCond .eq 7, 3) := by decide +kernel
theorem dl_1470 : decode code 1470 = .ok (.iconst 1, 1) := by decide +kernel
theorem dl_1471 : decode code 1471 = .ok (.goto 4, 3) := by decide +kernel
theorem dl_1474 : decode code 1474 = .ok (.iconst 0, 1) := by decide +kernel
theorem dl_1475 : decode code 1475 = .ok (.invokevirtual 145, 3) := by decide +kernel
theorem dl_1478 : decode code 1478 = .ok (.lstore 6, 2) := by decide +kernel
theorem dl_1480 : decode code 1480 = .ok (.aload_n 2, 1) := by decide +kernel
theorem dl_1481 : decode code 1481 = .ok (.invokevirtual 91, 3) := by decide +kernel
theorem dl_1484 : decode code 1484 = .ok (.iload 5, 2) := by decide +kernel
theorem dl_1486 : decode code 1486 = .ok (.if_icmp .eq 5, 3) := by decide +kernel
theorem dl_1489 : decode code 1489 = .ok (.iconst 0, 1) := by decide +kernel
theorem dl_1490 : decode code 1490 = .ok (.ireturn, 1) := by decide +kernel
theorem dl_1491 : decode code 1491 = .ok (.iload 5, 2) := by decide +kernel
theorem dl_1493 : decode code 1493 = .ok (.ifCond .ne 14, 3) := by decide +kernel
theorem dl_1496 : decode code 1496 = .ok (.aload_n 3, 1) := by decide +kernel
theorem dl_1497 : decode code 1497 = .ok (.iconst 0, 1) := by decide +kernel
theorem dl_1498 : decode code 1498 = .ok (.laload, 1) := by decide +kernel
theorem dl_1499 : decode code 1499 = .ok (.lload 6, 2) := by decide +kernel
theorem dl_1501 : decode code 1501 = .ok (.lcmp, 1) := by decide +kernel
theorem dl_1502 : decode code 1502 = .ok (.ifCond .eq 5, 3) := by decide +kernel
theorem dl_1505 : decode code 1505 = .ok (.iconst 0, 1) := by decide +kernel
theorem dl_1506 : decode code 1506 = .ok (.ireturn, 1) := by decide +kernel
theorem dl_1507 : decode code 1507 = .ok (.goto 209, 3) := by decide +kernel
set_option maxRecDepth 100000 in
theorem tw14_0 : Cond.methodLink R_L 142 y_L_least ∈ lw_tbl := List.mem_of_getElem? (i := 591) rfl
set_option maxRecDepth 100000 in
theorem tw14_1 : Cond.static y_L_least ∈ lw_tbl := List.mem_of_getElem? (i := 592) rfl
set_option maxRecDepth 100000 in
theorem tw14_2 : Cond.codeWith y_L_least b_L_least 5 (some .int) [(0, 9, 12, 13)] ∈ lw_tbl := List.mem_of_getElem? (i := 593) rfl
set_option maxRecDepth 100000 in
theorem tw14_3 : Cond.methodLink R_L 145 y_M_least ∈ lw_tbl := List.mem_of_getElem? (i := 934) rfl
set_option maxRecDepth 100000 in
theorem tw14_4 : Cond.methodLink R_L 91 y_M_thrown ∈ lw_tbl := List.mem_of_getElem? (i := 657) rfl
set_option maxRecDepth 100000 in
set_option maxHeartbeats 4000000 in
theorem law_least {p : Program} {l : Launch} {e : Env} {s : State} {m : MethodId} {below : List Frame} {meth : Method} {c : Code} {b L : Nat} {xs : Nat → Int32} {dC : Nat → ClassId} {dI : Nat → Nat → Nat} {cQ cJ cZ : ClassId} {ad am : Nat → Nat} {oa i cells slots : Nat} {Q : State → Prop} {v : Nat → VV} {w : Nat → Int64} {t : Int32} {x y z : VV} {o : Nat → Int64} {c0 : Int32} {r : Nat → VV} {H : Heap} {locs : List Loc} {ls : Array Slot} (E : LE l p s m c b L xs dC dI cQ cJ cZ) (hi : i + 9 ≤ L) (hc1 : cells + 4 ≤ 601024) (hc2 : slots + 24 ≤ 7293034) (I : LI s dC dI cQ cJ cZ ad am oa v w t x y z o c0 r H locs) (hl : LL ls b ad am oa i) (kk : LK p l e s m below meth c b dC dI cQ cJ cZ ad am oa i cells slots Q) : W p l e room_1 s m #[Value.ref b] below meth c H locs cells slots Q (F0 m 1427 ls []) := by
  obtain ⟨hx, hb, hml, hown, hts, hX, hbl, hL, hlt, hQ, hNc, hKs, hKm⟩ := E
  obtain ⟨hI, hP, hD, hS⟩ := I
  have hA : ∀ q : Nat, s.heap.size ≤ q → (fun q : Nat => s.heap.size ≤ q) q := fun _ h => h
  have hbA : ¬ (fun q : Nat => s.heap.size ≤ q) b := Nat.not_le.mpr hbl
  have hl : lv_has ls 8 [(0, .ref b), (1, .ref (ad 0)), (2, .ref (am 0)), (3, .ref oa), (4, .int (nI i))] := hl
  refine lv_aload_n hx hb dl_1427 rfl (lv_at hl 1 rfl) ?_
  refine ls_rd (j := 1) hx hb hX hbl hbA hS hL (lv_at hl 0 rfl) (lv_at hl 4 rfl) (by omega) (by decide) dl_1428 dl_1429 dl_1431 dl_1432 dl_1433 ?_
  refine ls_rd (j := 2) hx hb hX hbl hbA hS hL (lv_at hl 0 rfl) (lv_at hl 4 rfl) (by omega) (by decide) dl_1434 dl_1435 dl_1437 dl_1438 dl_1439 ?_
  refine ls_z hx hb dl_1440 dl_1443 dl_1444 dl_1447 ?_
  refine lv_aload_n hx hb dl_1448 rfl (lv_at hl 3 rfl) ?_
  have hP : va_P (dC, dI) classes ((sW ad cQ cJ v w t x y z ++ [(oa, .inl (cJ, 1, .inr (.inl o)))]) ++ mW am cJ cZ c0 r w t) H := hP
  have hD : va_D (fun q : Nat => s.heap.size ≤ q) ((sW ad cQ cJ v w t x y z ++ [(oa, .inl (cJ, 1, .inr (.inl o)))]) ++ mW am cJ cZ c0 r w t) := hD
  refine lc_S (vx_runSW (As := [.ref (ad 0), .int (xs (i + 1)), .int (bI (bX (xs (i + 2)))), .ref oa]) (rest := []) ⟨hx, hb, hml, hown, hts⟩ (c_L_least l hlt dC dI ad cQ cJ H.size v w t x y z (xs (i + 1)) (bI (bX (xs (i + 2)))) oa o) (vx_cwSW 4 hts (gLS rfl tw14_0 tw14_1 tw14_2) rfl rfl rfl (by decide +kernel) ⟨(Nat.le_of_ble_eq_true rfl), (Nat.le_of_ble_eq_true rfl)⟩) (lc_pS (va_P.left hP) (va_D.left hD) hS hA hKs hQ hNc) rfl rfl hl.1 rfl (lv_room (Nat.le_of_ble_eq_true rfl)) dl_1449 ⟨(show cells + 1 ≤ 601024 by omega), (show slots + 6 ≤ 7293034 by omega)⟩) hP hD hS hA (fun H locs hP hD hS => ?_)
  refine lv_istore (lv' := [(5, .int (f_S_least v w t x y z (xs (i + 1)) (bI (bX (xs (i + 2))))).1), (0, .ref b), (1, .ref (ad 0)), (2, .ref (am 0)), (3, .ref oa), (4, .int (nI i))]) hx hb dl_1452 hl (by decide) rfl (fun ls hl => ?_)
  refine lv_aload_n hx hb dl_1454 rfl (lv_at hl 3 rfl) ?_
  refine ls_rd (j := 1) hx hb hX hbl hbA hS hL (lv_at hl 1 rfl) (lv_at hl 5 rfl) (by omega) (by decide) dl_1455 dl_1456 dl_1458 dl_1459 dl_1460 ?_
  refine ls_rd (j := 2) hx hb hX hbl hbA hS hL (lv_at hl 1 rfl) (lv_at hl 5 rfl) (by omega) (by decide) dl_1461 dl_1462 dl_1464 dl_1465 dl_1466 ?_
  refine ls_z hx hb dl_1467 dl_1470 dl_1471 dl_1474 ?_
  refine lc_Ml (va_runV (As := [.int (xs (i + 1)), .int (bI (bX (xs (i + 2))))]) (rest := []) ⟨hx, hb, hml, hown, hts⟩ (c_M_least l dC dI am cJ cZ H.size c0 r w t (xs (i + 1)) (bX (xs (i + 2)))) (cwV 2 hts (gLM tw14_3 gx252 gx253 gx254) rfl rfl rfl (by decide +kernel) ⟨(Nat.le_of_ble_eq_true rfl), (Nat.le_of_ble_eq_true rfl)⟩) (lc_pM (va_P.right hP) (va_D.right hD) hKm) rfl rfl hl.1 rfl (lv_room (Nat.le_of_ble_eq_true rfl)) dl_1475 ⟨(show cells + 1 + 0 ≤ 601024 by omega), (show slots + 6 + 0 ≤ 7293034 by omega)⟩) hP hD hS hA (fun H locs hP hD hS => ?_)
  refine lv_lstore (lv' := [(6, .long (f_M_least r (xs (i + 1)) (bX (xs (i + 2)))).1), (5, .int (f_S_least v w t x y z (xs (i + 1)) (bI (bX (xs (i + 2))))).1), (0, .ref b), (1, .ref (ad 0)), (2, .ref (am 0)), (3, .ref oa), (4, .int (nI i))]) hx hb dl_1478 hl (by decide) rfl (fun ls hl => ?_)
  refine lv_aload_n hx hb dl_1480 rfl (lv_at hl 4 rfl) ?_
  refine rc_i (W.runV (As := []) (rest := []) ⟨hx, hb, hml, hown, hts⟩ (c_M_thrown l dC dI am cJ cZ (f_M_least r (xs (i + 1)) (bX (xs (i + 2)))).2 r w t) (cwV 0 hts (gLM tw14_4 gx30 gx31 gx32) rfl rfl rfl (by decide +kernel) ⟨(Nat.le_of_ble_eq_true rfl), (Nat.le_of_ble_eq_true rfl)⟩) (lc_pR (va_P.right hP) hKm) rfl rfl hl.1 rfl (lv_room (Nat.le_of_ble_eq_true rfl)) dl_1481 ⟨(show cells + 1 + 0 + 0 ≤ 601024 by omega), (show slots + 6 + 0 + 0 ≤ 7293034 by omega)⟩) ?_
  obtain ⟨h1, h2⟩ := link_least hI t x y z (xs (i + 1)) (bX (xs (i + 2)))
  refine lv_iload hx hb dl_1484 (lv_at hl 1 rfl) ?_
  refine lv_icmp_eq (tgt := 1491) hx hb dl_1486 (by decide) (fun _ => ?_) (fun hz => absurd (show f_M_thrown ((f_M_least r (xs (i + 1)) (bX (xs (i + 2)))).2) = (f_S_least v w t x y z (xs (i + 1)) (bI (bX (xs (i + 2))))).1 from h1) hz)
  refine lv_iload hx hb dl_1491 (lv_at hl 1 rfl) ?_
  have hE : W p l e room_1 s m #[Value.ref b] below meth c H locs (cells + 1 + 0) (slots + 6 + 0) Q (F0 m 1507 ls []) := by
    refine lv_goto (tgt := 1716) hx hb dl_1507 (by decide) ?_
    refine W.widen (k := cells + 4) (n := slots + 24) (by omega) (by omega) ?_
    exact kk _ _ _ _ _ _ _ _ _ _ _ ls ⟨hI, hP, hD, hS⟩ (lv_sub hl [2, 3, 4, 5, 6] rfl)
  refine lv_if_ne (tgt := 1507) hx hb dl_1493 (by decide) (fun _ => hE) (fun h0 => ?_)
  refine lv_aload_n hx hb dl_1496 rfl (lv_at hl 5 rfl) ?_
  refine lv_iconst (v := 0) hx hb dl_1497 (by decide) ?_
  refine va_lald hx hb hKs hP 22 1 rfl rfl (show vp_in 0 1 by unfold vp_in; decide) dl_1498 ?_
  rw [if_pos h0, upd0]
  refine lv_lload hx hb dl_1499 (lv_at hl 0 rfl) ?_
  refine W.lcmp hx hb dl_1501 ?_
  exact lv_if_eq (tgt := 1507) hx hb dl_1502 (by decide) (fun _ => hE) (fun hz => absurd ((lg_eq0 _ _).mpr (by rw [h2 h0])) hz)
