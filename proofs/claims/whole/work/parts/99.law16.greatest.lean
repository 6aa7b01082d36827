/-! the law: greatest -/
theorem dl_1510 : decode code 1510 = .ok (.aload_n 1, 1) := by decide +kernel
theorem dl_1511 : decode code 1511 = .ok (.aload_n 0, 1) := by decide +kernel
theorem dl_1512 : decode code 1512 = .ok (.iload 4, 2) := by decide +kernel
theorem dl_1514 : decode code 1514 = .ok (.iconst 1, 1) := by decide +kernel
theorem dl_1515 : decode code 1515 = .ok (.iadd, 1) := by decide +kernel
theorem dl_1516 : decode code 1516 = .ok (.iaload, 1) := by decide +kernel
theorem dl_1517 : decode code 1517 = .ok (.aload_n 0, 1) := by decide +kernel
theorem dl_1518 : decode code 1518 = .ok (.iload 4, 2) := by decide +kernel
theorem dl_1520 : decode code 1520 = .ok (.iconst 2, 1) := by decide +kernel
theorem dl_1521 : decode code 1521 = .ok (.iadd, 1) := by decide +kernel
theorem dl_1522 : decode code 1522 = .ok (.iaload, 1) := by decide +kernel
theorem dl_1523 : decode code 1523 = .ok (.ifCond .eq 7, 3) := by decide +kernel
theorem dl_1526 : decode code 1526 = .ok (.iconst 1, 1) := by decide +kernel
theorem dl_1527 : decode code 1527 = .ok (.goto 4, 3) := by decide +kernel
theorem dl_1530 : decode code 1530 = .ok (.iconst 0, 1) := by decide +kernel
theorem dl_1531 : decode code 1531 = .ok (.aload_n 3, 1) := by decide +kernel
theorem dl_1532 : decode code 1532 = .ok (.invokestatic 146, 3) := by decide +kernel
theorem dl_1535 : decode code 1535 = .ok (.istore 5, 2) := by decide +kernel
theorem dl_1537 : decode code 1537 = .ok (.aload_n 2, 1) := by decide +kernel
theorem dl_1538 : decode code 1538 = .ok (.aload_n 0, 1) := by decide +kernel
theorem dl_1539 : decode code 1539 = .ok (.iload 4, 2) := by decide +kernel
theorem dl_1541 : decode code 1541 = .ok (.iconst 1, 1) := by decide +kernel
theorem dl_1542 : decode code 1542 = .ok (.iadd, 1) := by decide +kernel
theorem dl_1543 : decode code 1543 = .ok (.iaload, 1) := by decide +kernel
theorem dl_1544 : decode code 1544 = .ok (.aload_n 0, 1) := by decide +kernel
theorem dl_1545 : decode code 1545 = .ok (.iload 4, 2) := by decide +kernel
theorem dl_1547 : decode code 1547 = .ok (.iconst 2, 1) := by decide +kernel
theorem dl_1548 : decode code 1548 = .ok (.iadd, 1) := by decide +kernel
theorem dl_1549 : decode code 1549 = .ok (.iaload, 1) := by decide +kernel
theorem dl_1550 : decode code 1550 = .ok (.ifCond .eq 7, 3) := by decide +kernel
theorem dl_1553 : decode code 1553 = .ok (.iconst 1, 1) := by decide +kernel
theorem dl_1554 : decode code 1554 = .ok (.goto 4, 3) := by decide +kernel
theorem dl_1557 : decode code 1557 = .ok (.iconst 0, 1) := by decide +kernel
theorem dl_1558 : decode code 1558 = .ok (.invokevirtual 148, 3) := by decide +kernel
theorem dl_1561 : decode code 1561 = .ok (.lstore 6, 2) := by decide +kernel
theorem dl_1563 : decode code 1563 = .ok (.aload_n 2, 1) := by decide +kernel
theorem dl_1564 : decode code 1564 = .ok (.invokevirtual 91, 3) := by decide +kernel
theorem dl_1567 : decode code 1567 = .ok (.iload 5, 2) := by decide +kernel
theorem dl_1569 : decode code 1569 = .ok (.if_icmp .eq 5, 3) := by decide +kernel
theorem dl_1572 : decode code 1572 = .ok (.iconst 0, 1) := by decide +kernel
theorem dl_1573 : decode code 1573 = .ok (.ireturn, 1) := by decide +kernel
theorem dl_1574 : decode code 1574 = .ok (.iload 5, 2) := by decide +kernel
theorem dl_1576 : decode code 1576 = .ok (.ifCond .ne 14, 3) := by decide +kernel
theorem dl_1579 : decode code 1579 = .ok (.aload_n 3, 1) := by decide +kernel
theorem dl_1580 : decode code 1580 = .ok (.iconst 0, 1) := by decide +kernel
theorem dl_1581 : decode code 1581 = .ok (.laload, 1) := by decide +kernel
theorem dl_1582 : decode code 1582 = .ok (.lload 6, 2) := by decide +kernel
theorem dl_1584 : decode code 1584 = .ok (.lcmp, 1) := by decide +kernel
theorem dl_1585 : decode code 1585 = .ok (.ifCond .eq 5, 3) := by decide +kernel
theorem dl_1588 : decode code 1588 = .ok (.iconst 0, 1) := by decide +kernel
theorem dl_1589 : decode code 1589 = .ok (.ireturn, 1) := by decide +kernel
theorem dl_1590 : decode code 1590 = .ok (.goto 126, 3) := by decide +kernel
set_option maxRecDepth 100000 in
theorem tw15_0 : Cond.methodLink R_L 146 y_L_greatest ∈ lw_tbl := List.mem_of_getElem? (i := 598) rfl
set_option maxRecDepth 100000 in
theorem tw15_1 : Cond.static y_L_greatest ∈ lw_tbl := List.mem_of_getElem? (i := 599) rfl
set_option maxRecDepth 100000 in
theorem tw15_2 : Cond.codeWith y_L_greatest b_L_greatest 5 (some .int) [(0, 9, 12, 13)] ∈ lw_tbl := List.mem_of_getElem? (i := 600) rfl
set_option maxRecDepth 100000 in
theorem tw15_3 : Cond.methodLink R_L 148 y_M_greatest ∈ lw_tbl := List.mem_of_getElem? (i := 938) rfl
set_option maxRecDepth 100000 in
theorem tw15_4 : Cond.methodLink R_L 91 y_M_thrown ∈ lw_tbl := List.mem_of_getElem? (i := 657) rfl
set_option maxRecDepth 100000 in
set_option maxHeartbeats 4000000 in
theorem law_greatest {p : Program} {l : Launch} {e : Env} {s : State} {m : MethodId} {below : List Frame} {meth : Method} {c : Code} {b L : Nat} {xs : Nat → Int32} {dC : Nat → ClassId} {dI : Nat → Nat → Nat} {cQ cJ cZ : ClassId} {ad am : Nat → Nat} {oa i cells slots : Nat} {Q : State → Prop} {v : Nat → VV} {w : Nat → Int64} {t : Int32} {x y z : VV} {o : Nat → Int64} {c0 : Int32} {r : Nat → VV} {H : Heap} {locs : List Loc} {ls : Array Slot} (E : LE l p s m c b L xs dC dI cQ cJ cZ) (hi : i + 9 ≤ L) (hc1 : cells + 4 ≤ 601024) (hc2 : slots + 24 ≤ 7293034) (I : LI s dC dI cQ cJ cZ ad am oa v w t x y z o c0 r H locs) (hl : LL ls b ad am oa i) (kk : LK p l e s m below meth c b dC dI cQ cJ cZ ad am oa i cells slots Q) : W p l e room_1 s m #[Value.ref b] below meth c H locs cells slots Q (F0 m 1510 ls []) := by
  obtain ⟨hx, hb, hml, hown, hts, hX, hbl, hL, hlt, hQ, hNc, hKs, hKm⟩ := E
  obtain ⟨hI, hP, hD, hS⟩ := I
  have hA : ∀ q : Nat, s.heap.size ≤ q → (fun q : Nat => s.heap.size ≤ q) q := fun _ h => h
  have hbA : ¬ (fun q : Nat => s.heap.size ≤ q) b := Nat.not_le.mpr hbl
  have hl : lv_has ls 8 [(0, .ref b), (1, .ref (ad 0)), (2, .ref (am 0)), (3, .ref oa), (4, .int (nI i))] := hl
  refine lv_aload_n hx hb dl_1510 rfl (lv_at hl 1 rfl) ?_
  refine ls_rd (j := 1) hx hb hX hbl hbA hS hL (lv_at hl 0 rfl) (lv_at hl 4 rfl) (by omega) (by decide) dl_1511 dl_1512 dl_1514 dl_1515 dl_1516 ?_
  refine ls_rd (j := 2) hx hb hX hbl hbA hS hL (lv_at hl 0 rfl) (lv_at hl 4 rfl) (by omega) (by decide) dl_1517 dl_1518 dl_1520 dl_1521 dl_1522 ?_
  refine ls_z hx hb dl_1523 dl_1526 dl_1527 dl_1530 ?_
  refine lv_aload_n hx hb dl_1531 rfl (lv_at hl 3 rfl) ?_
  have hP : va_P (dC, dI) classes ((sW ad cQ cJ v w t x y z ++ [(oa, .inl (cJ, 1, .inr (.inl o)))]) ++ mW am cJ cZ c0 r w t) H := hP
  have hD : va_D (fun q : Nat => s.heap.size ≤ q) ((sW ad cQ cJ v w t x y z ++ [(oa, .inl (cJ, 1, .inr (.inl o)))]) ++ mW am cJ cZ c0 r w t) := hD
  refine lc_S (vx_runSW (As := [.ref (ad 0), .int (xs (i + 1)), .int (bI (bX (xs (i + 2)))), .ref oa]) (rest := []) ⟨hx, hb, hml, hown, hts⟩ (c_L_greatest l hlt dC dI ad cQ cJ H.size v w t x y z (xs (i + 1)) (bI (bX (xs (i + 2)))) oa o) (vx_cwSW 4 hts (gLS rfl tw15_0 tw15_1 tw15_2) rfl rfl rfl (by decide +kernel) ⟨(Nat.le_of_ble_eq_true rfl), (Nat.le_of_ble_eq_true rfl)⟩) (lc_pS (va_P.left hP) (va_D.left hD) hS hA hKs hQ hNc) rfl rfl hl.1 rfl (lv_room (Nat.le_of_ble_eq_true rfl)) dl_1532 ⟨(show cells + 1 ≤ 601024 by omega), (show slots + 6 ≤ 7293034 by omega)⟩) hP hD hS hA (fun H locs hP hD hS => ?_)
  refine lv_istore (lv' := [(5, .int (f_S_greatest v w t x y z (xs (i + 1)) (bI (bX (xs (i + 2))))).1), (0, .ref b), (1, .ref (ad 0)), (2, .ref (am 0)), (3, .ref oa), (4, .int (nI i))]) hx hb dl_1535 hl (by decide) rfl (fun ls hl => ?_)
  refine lv_aload_n hx hb dl_1537 rfl (lv_at hl 3 rfl) ?_
  refine ls_rd (j := 1) hx hb hX hbl hbA hS hL (lv_at hl 1 rfl) (lv_at hl 5 rfl) (by omega) (by decide) dl_1538 dl_1539 dl_1541 dl_1542 dl_1543 ?_
  refine ls_rd (j := 2) hx hb hX hbl hbA hS hL (lv_at hl 1 rfl) (lv_at hl 5 rfl) (by omega) (by decide) dl_1544 dl_1545 dl_1547 dl_1548 dl_1549 ?_
  refine ls_z hx hb dl_1550 dl_1553 dl_1554 dl_1557 ?_
  refine lc_Ml (va_runV (As := [.int (xs (i + 1)), .int (bI (bX (xs (i + 2))))]) (rest := []) ⟨hx, hb, hml, hown, hts⟩ (c_M_greatest l dC dI am cJ cZ H.size c0 r w t (xs (i + 1)) (bX (xs (i + 2)))) (cwV 2 hts (gLM tw15_3 gx255 gx256 gx257) rfl rfl rfl (by decide +kernel) ⟨(Nat.le_of_ble_eq_true rfl), (Nat.le_of_ble_eq_true rfl)⟩) (lc_pM (va_P.right hP) (va_D.right hD) hKm) rfl rfl hl.1 rfl (lv_room (Nat.le_of_ble_eq_true rfl)) dl_1558 ⟨(show cells + 1 + 0 ≤ 601024 by omega), (show slots + 6 + 0 ≤ 7293034 by omega)⟩) hP hD hS hA (fun H locs hP hD hS => ?_)
  refine lv_lstore (lv' := [(6, .long (f_M_greatest r (xs (i + 1)) (bX (xs (i + 2)))).1), (5, .int (f_S_greatest v w t x y z (xs (i + 1)) (bI (bX (xs (i + 2))))).1), (0, .ref b), (1, .ref (ad 0)), (2, .ref (am 0)), (3, .ref oa), (4, .int (nI i))]) hx hb dl_1561 hl (by decide) rfl (fun ls hl => ?_)
  refine lv_aload_n hx hb dl_1563 rfl (lv_at hl 4 rfl) ?_
  refine rc_i (W.runV (As := []) (rest := []) ⟨hx, hb, hml, hown, hts⟩ (c_M_thrown l dC dI am cJ cZ (f_M_greatest r (xs (i + 1)) (bX (xs (i + 2)))).2 r w t) (cwV 0 hts (gLM tw15_4 gx30 gx31 gx32) rfl rfl rfl (by decide +kernel) ⟨(Nat.le_of_ble_eq_true rfl), (Nat.le_of_ble_eq_true rfl)⟩) (lc_pR (va_P.right hP) hKm) rfl rfl hl.1 rfl (lv_room (Nat.le_of_ble_eq_true rfl)) dl_1564 ⟨(show cells + 1 + 0 + 0 ≤ 601024 by omega), (show slots + 6 + 0 + 0 ≤ 7293034 by omega)⟩) ?_
  obtain ⟨h1, h2⟩ := link_greatest hI t x y z (xs (i + 1)) (bX (xs (i + 2)))
  refine lv_iload hx hb dl_1567 (lv_at hl 1 rfl) ?_
  refine lv_icmp_eq (tgt := 1574) hx hb dl_1569 (by decide) (fun _ => ?_) (fun hz => absurd (show f_M_thrown ((f_M_greatest r (xs (i + 1)) (bX (xs (i + 2)))).2) = (f_S_greatest v w t x y z (xs (i + 1)) (bI (bX (xs (i + 2))))).1 from h1) hz)
  refine lv_iload hx hb dl_1574 (lv_at hl 1 rfl) ?_
  have hE : W p l e room_1 s m #[Value.ref b] below meth c H locs (cells + 1 + 0) (slots + 6 + 0) Q (F0 m 1590 ls []) := by
    refine lv_goto (tgt := 1716) hx hb dl_1590 (by decide) ?_
    refine W.widen (k := cells + 4) (n := slots + 24) (by omega) (by omega) ?_
    exact kk _ _ _ _ _ _ _ _ _ _ _ ls ⟨hI, hP, hD, hS⟩ (lv_sub hl [2, 3, 4, 5, 6] rfl)
  refine lv_if_ne (tgt := 1590) hx hb dl_1576 (by decide) (fun _ => hE) (fun h0 => ?_)
  refine lv_aload_n hx hb dl_1579 rfl (lv_at hl 5 rfl) ?_
  refine lv_iconst (v := 0) hx hb dl_1580 (by decide) ?_
  refine va_lald hx hb hKs hP 22 1 rfl rfl (show vp_in 0 1 by unfold vp_in; decide) dl_1581 ?_
  rw [if_pos h0, upd0]
  refine lv_lload hx hb dl_1582 (lv_at hl 0 rfl) ?_
  refine W.lcmp hx hb dl_1584 ?_
  exact lv_if_eq (tgt := 1590) hx hb dl_1585 (by decide) (fun _ => hE) (fun hz => absurd ((lg_eq0 _ _).mpr (by rw [h2 h0])) hz)
