/-! the law: pattern -/
theorem dl_494 : decode code 494 = .ok (.aload_n 1, 1) := by decide +kernel
theorem dl_495 : decode code 495 = .ok (.aload_n 0, 1) := by decide +kernel
theorem dl_496 : decode code 496 = .ok (.iload 4, 2) := by decide +kernel
theorem dl_498 : decode code 498 = .ok (.iconst 1, 1) := by decide +kernel
theorem dl_499 : decode code 499 = .ok (.iadd, 1) := by decide +kernel
theorem dl_500 : decode code 500 = .ok (.iaload, 1) := by decide +kernel
theorem dl_501 : decode code 501 = .ok (.aload_n 0, 1) := by decide +kernel
theorem dl_502 : decode code 502 = .ok (.iload 4, 2) := by decide +kernel
theorem dl_504 : decode code 504 = .ok (.iconst 2, 1) := by decide +kernel
theorem dl_505 : decode code 505 = .ok (.iadd, 1) := by decide +kernel
theorem dl_506 : decode code 506 = .ok (.iaload, 1) := by decide +kernel
theorem dl_507 : decode code 507 = .ok (.i2l, 1) := by decide +kernel
theorem dl_508 : decode code 508 = .ok (.bipush 32, 2) := by decide +kernel
theorem dl_510 : decode code 510 = .ok (.lshl, 1) := by decide +kernel
theorem dl_511 : decode code 511 = .ok (.aload_n 0, 1) := by decide +kernel
theorem dl_512 : decode code 512 = .ok (.iload 4, 2) := by decide +kernel
theorem dl_514 : decode code 514 = .ok (.iconst 3, 1) := by decide +kernel
theorem dl_515 : decode code 515 = .ok (.iadd, 1) := by decide +kernel
theorem dl_516 : decode code 516 = .ok (.iaload, 1) := by decide +kernel
theorem dl_517 : decode code 517 = .ok (.i2l, 1) := by decide +kernel
theorem dl_518 : decode code 518 = .ok (.ldc2_w 83, 3) := by decide +kernel
theorem dl_521 : decode code 521 = .ok (.land, 1) := by decide +kernel
theorem dl_522 : decode code 522 = .ok (.lor, 1) := by decide +kernel
theorem dl_523 : decode code 523 = .ok (.aload_n 0, 1) := by decide +kernel
theorem dl_524 : decode code 524 = .ok (.iload 4, 2) := by decide +kernel
theorem dl_526 : decode code 526 = .ok (.iconst 4, 1) := by decide +kernel
theorem dl_527 : decode code 527 = .ok (.iadd, 1) := by decide +kernel
theorem dl_528 : decode code 528 = .ok (.iaload, 1) := by decide +kernel
theorem dl_529 : decode code 529 = .ok (.i2l, 1) := by decide +kernel
theorem dl_530 : decode code 530 = .ok (.bipush 32, 2) := by decide +kernel
theorem dl_532 : decode code 532 = .ok (.lshl, 1) := by decide +kernel
theorem dl_533 : decode code 533 = .ok (.aload_n 0, 1) := by decide +kernel
theorem dl_534 : decode code 534 = .ok (.iload 4, 2) := by decide +kernel
theorem dl_536 : decode code 536 = .ok (.iconst 5, 1) := by decide +kernel
theorem dl_537 : decode code 537 = .ok (.iadd, 1) := by decide +kernel
theorem dl_538 : decode code 538 = .ok (.iaload, 1) := by decide +kernel
theorem dl_539 : decode code 539 = .ok (.i2l, 1) := by decide +kernel
theorem dl_540 : decode code 540 = .ok (.ldc2_w 83, 3) := by decide +kernel
theorem dl_543 : decode code 543 = .ok (.land, 1) := by decide +kernel
theorem dl_544 : decode code 544 = .ok (.lor, 1) := by decide +kernel
theorem dl_545 : decode code 545 = .ok (.aload_n 0, 1) := by decide +kernel
theorem dl_546 : decode code 546 = .ok (.iload 4, 2) := by decide +kernel
theorem dl_548 : decode code 548 = .ok (.bipush 6, 2) := by decide +kernel
theorem dl_550 : decode code 550 = .ok (.iadd, 1) := by decide +kernel
theorem dl_551 : decode code 551 = .ok (.iaload, 1) := by decide +kernel
theorem dl_552 : decode code 552 = .ok (.i2l, 1) := by decide +kernel
theorem dl_553 : decode code 553 = .ok (.bipush 32, 2) := by decide +kernel
theorem dl_555 : decode code 555 = .ok (.lshl, 1) := by decide +kernel
theorem dl_556 : decode code 556 = .ok (.aload_n 0, 1) := by decide +kernel
theorem dl_557 : decode code 557 = .ok (.iload 4, 2) := by decide +kernel
theorem dl_559 : decode code 559 = .ok (.bipush 7, 2) := by decide +kernel
theorem dl_561 : decode code 561 = .ok (.iadd, 1) := by decide +kernel
theorem dl_562 : decode code 562 = .ok (.iaload, 1) := by decide +kernel
theorem dl_563 : decode code 563 = .ok (.i2l, 1) := by decide +kernel
theorem dl_564 : decode code 564 = .ok (.ldc2_w 83, 3) := by decide +kernel
theorem dl_567 : decode code 567 = .ok (.land, 1) := by decide +kernel
theorem dl_568 : decode code 568 = .ok (.lor, 1) := by decide +kernel
theorem dl_569 : decode code 569 = .ok (.invokestatic 102, 3) := by decide +kernel
theorem dl_572 : decode code 572 = .ok (.istore 5, 2) := by decide +kernel
theorem dl_574 : decode code 574 = .ok (.aload_n 2, 1) := by decide +kernel
theorem dl_575 : decode code 575 = .ok (.aload_n 0, 1) := by decide +kernel
theorem dl_576 : decode code 576 = .ok (.iload 4, 2) := by decide +kernel
theorem dl_578 : decode code 578 = .ok (.iconst 1, 1) := by decide +kernel
theorem dl_579 : decode code 579 = .ok (.iadd, 1) := by decide +kernel
theorem dl_580 : decode code 580 = .ok (.iaload, 1) := by decide +kernel
theorem dl_581 : decode code 581 = .ok (.aload_n 0, 1) := by decide +kernel
theorem dl_582 : decode code 582 = .ok (.iload 4, 2) := by decide +kernel
theorem dl_584 : decode code 584 = .ok (.iconst 2, 1) := by decide +kernel
theorem dl_585 : decode code 585 = .ok (.iadd, 1) := by decide +kernel
theorem dl_586 : decode code 586 = .ok (.iaload, 1) := by decide +kernel
theorem dl_587 : decode code 587 = .ok (.i2l, 1) := by decide +kernel
theorem dl_588 : decode code 588 = .ok (.bipush 32, 2) := by decide +kernel
theorem dl_590 : decode code 590 = .ok (.lshl, 1) := by decide +kernel
theorem dl_591 : decode code 591 = .ok (.aload_n 0, 1) := by decide +kernel
theorem dl_592 : decode code 592 = .ok (.iload 4, 2) := by decide +kernel
theorem dl_594 : decode code 594 = .ok (.iconst 3, 1) := by decide +kernel
theorem dl_595 : decode code 595 = .ok (.iadd, 1) := by decide +kernel
theorem dl_596 : decode code 596 = .ok (.iaload, 1) := by decide +kernel
theorem dl_597 : decode code 597 = .ok (.i2l, 1) := by decide +kernel
theorem dl_598 : decode code 598 = .ok (.ldc2_w 83, 3) := by decide +kernel
theorem dl_601 : decode code 601 = .ok (.land, 1) := by decide +kernel
theorem dl_602 : decode code 602 = .ok (.lor, 1) := by decide +kernel
theorem dl_603 : decode code 603 = .ok (.aload_n 0, 1) := by decide +kernel
theorem dl_604 : decode code 604 = .ok (.iload 4, 2) := by decide +kernel
theorem dl_606 : decode code 606 = .ok (.iconst 4, 1) := by decide +kernel
theorem dl_607 : decode code 607 = .ok (.iadd, 1) := by decide +kernel
theorem dl_608 : decode code 608 = .ok (.iaload, 1) := by decide +kernel
theorem dl_609 : decode code 609 = .ok (.i2l, 1) := by decide +kernel
theorem dl_610 : decode code 610 = .ok (.bipush 32, 2) := by decide +kernel
theorem dl_612 : decode code 612 = .ok (.lshl, 1) := by decide +kernel
theorem dl_613 : decode code 613 = .ok (.aload_n 0, 1) := by decide +kernel
theorem dl_614 : decode code 614 = .ok (.iload 4, 2) := by decide +kernel
theorem dl_616 : decode code 616 = .ok (.iconst 5, 1) := by decide +kernel
theorem dl_617 : decode code 617 = .ok (.iadd, 1) := by decide +kernel
theorem dl_618 : decode code 618 = .ok (.iaload, 1) := by decide +kernel
theorem dl_619 : decode code 619 = .ok (.i2l, 1) := by decide +kernel
theorem dl_620 : decode code 620 = .ok (.ldc2_w 83, 3) := by decide +kernel
theorem dl_623 : decode code 623 = .ok (.land, 1) := by decide +kernel
theorem dl_624 : decode code 624 = .ok (.lor, 1) := by decide +kernel
theorem dl_625 : decode code 625 = .ok (.aload_n 0, 1) := by decide +kernel
theorem dl_626 : decode code 626 = .ok (.iload 4, 2) := by decide +kernel
theorem dl_628 : decode code 628 = .ok (.bipush 6, 2) := by decide +kernel
theorem dl_630 : decode code 630 = .ok (.iadd, 1) := by decide +kernel
theorem dl_631 : decode code 631 = .ok (.iaload, 1) := by decide +kernel
theorem dl_632 : decode code 632 = .ok (.i2l, 1) := by decide +kernel
theorem dl_633 : decode code 633 = .ok (.bipush 32, 2) := by decide +kernel
theorem dl_635 : decode code 635 = .ok (.lshl, 1) := by decide +kernel
theorem dl_636 : decode code 636 = .ok (.aload_n 0, 1) := by decide +kernel
theorem dl_637 : decode code 637 = .ok (.iload 4, 2) := by decide +kernel
theorem dl_639 : decode code 639 = .ok (.bipush 7, 2) := by decide +kernel
theorem dl_641 : decode code 641 = .ok (.iadd, 1) := by decide +kernel
theorem dl_642 : decode code 642 = .ok (.iaload, 1) := by decide +kernel
theorem dl_643 : decode code 643 = .ok (.i2l, 1) := by decide +kernel
theorem dl_644 : decode code 644 = .ok (.ldc2_w 83, 3) := by decide +kernel
theorem dl_647 : decode code 647 = .ok (.land, 1) := by decide +kernel
theorem dl_648 : decode code 648 = .ok (.lor, 1) := by decide +kernel
theorem dl_649 : decode code 649 = .ok (.invokevirtual 105, 3) := by decide +kernel
theorem dl_652 : decode code 652 = .ok (.aload_n 2, 1) := by decide +kernel
theorem dl_653 : decode code 653 = .ok (.invokevirtual 91, 3) := by decide +kernel
theorem dl_656 : decode code 656 = .ok (.iload 5, 2) := by decide +kernel
theorem dl_658 : decode code 658 = .ok (.if_icmp .eq 5, 3) := by decide +kernel
theorem dl_661 : decode code 661 = .ok (.iconst 0, 1) := by decide +kernel
theorem dl_662 : decode code 662 = .ok (.ireturn, 1) := by decide +kernel
theorem dl_663 : decode code 663 = .ok (.goto 1053, 3) := by decide +kernel
set_option maxRecDepth 100000 in
theorem tw3_0 : Cond.methodLink R_L 102 y_L_pattern ∈ lw_tbl := List.mem_of_getElem? (i := 330) rfl
set_option maxRecDepth 100000 in
theorem tw3_1 : Cond.static y_L_pattern ∈ lw_tbl := List.mem_of_getElem? (i := 331) rfl
set_option maxRecDepth 100000 in
theorem tw3_2 : Cond.codeWith y_L_pattern b_L_pattern 9 (some .int) [(0, 10, 13, 13), (0, 10, 17, 22)] ∈ lw_tbl := List.mem_of_getElem? (i := 332) rfl
set_option maxRecDepth 100000 in
theorem tw3_3 : Cond.methodLink R_L 105 y_M_pattern ∈ lw_tbl := List.mem_of_getElem? (i := 735) rfl
set_option maxRecDepth 100000 in
theorem tw3_4 : Cond.methodLink R_L 91 y_M_thrown ∈ lw_tbl := List.mem_of_getElem? (i := 657) rfl
set_option maxRecDepth 100000 in
set_option maxHeartbeats 4000000 in
theorem law_pattern {p : Program} {l : Launch} {e : Env} {s : State} {m : MethodId} {below : List Frame} {meth : Method} {c : Code} {b L : Nat} {xs : Nat → Int32} {dC : Nat → ClassId} {dI : Nat → Nat → Nat} {cQ cJ cZ : ClassId} {ad am : Nat → Nat} {oa i cells slots : Nat} {Q : State → Prop} {v : Nat → VV} {w : Nat → Int64} {t : Int32} {x y z : VV} {o : Nat → Int64} {c0 : Int32} {r : Nat → VV} {H : Heap} {locs : List Loc} {ls : Array Slot} (E : LE l p s m c b L xs dC dI cQ cJ cZ) (hi : i + 9 ≤ L) (hc1 : cells + 4 ≤ 601024) (hc2 : slots + 24 ≤ 7293034) (I : LI s dC dI cQ cJ cZ ad am oa v w t x y z o c0 r H locs) (hl : LL ls b ad am oa i) (kk : LK p l e s m below meth c b dC dI cQ cJ cZ ad am oa i cells slots Q) : W p l e room_1 s m #[Value.ref b] below meth c H locs cells slots Q (F0 m 494 ls []) := by
  obtain ⟨hx, hb, hml, hown, hts, hX, hbl, hL, hlt, hQ, hNc, hKs, hKm⟩ := E
  obtain ⟨hI, hP, hD, hS⟩ := I
  have hA : ∀ q : Nat, s.heap.size ≤ q → (fun q : Nat => s.heap.size ≤ q) q := fun _ h => h
  have hbA : ¬ (fun q : Nat => s.heap.size ≤ q) b := Nat.not_le.mpr hbl
  have hl : lv_has ls 8 [(0, .ref b), (1, .ref (ad 0)), (2, .ref (am 0)), (3, .ref oa), (4, .int (nI i))] := hl
  refine lv_aload_n hx hb dl_494 rfl (lv_at hl 1 rfl) ?_
  refine ls_rd (j := 1) hx hb hX hbl hbA hS hL (lv_at hl 0 rfl) (lv_at hl 4 rfl) (by omega) (by decide) dl_495 dl_496 dl_498 dl_499 dl_500 ?_
  refine ls_rd (j := 2) hx hb hX hbl hbA hS hL (lv_at hl 0 rfl) (lv_at hl 4 rfl) (by omega) (by decide) dl_501 dl_502 dl_504 dl_505 dl_506 ?_
  refine ls_hi hx hb dl_507 dl_508 dl_510 ?_
  refine ls_rd (j := 3) hx hb hX hbl hbA hS hL (lv_at hl 0 rfl) (lv_at hl 4 rfl) (by omega) (by decide) dl_511 dl_512 dl_514 dl_515 dl_516 ?_
  refine ls_lo hx hb hown (hts _ tCon) dl_517 dl_518 dl_521 dl_522 ?_
  refine ls_rd (j := 4) hx hb hX hbl hbA hS hL (lv_at hl 0 rfl) (lv_at hl 4 rfl) (by omega) (by decide) dl_523 dl_524 dl_526 dl_527 dl_528 ?_
  refine ls_hi hx hb dl_529 dl_530 dl_532 ?_
  refine ls_rd (j := 5) hx hb hX hbl hbA hS hL (lv_at hl 0 rfl) (lv_at hl 4 rfl) (by omega) (by decide) dl_533 dl_534 dl_536 dl_537 dl_538 ?_
  refine ls_lo hx hb hown (hts _ tCon) dl_539 dl_540 dl_543 dl_544 ?_
  refine ls_rb (j := 6) hx hb hX hbl hbA hS hL (lv_at hl 0 rfl) (lv_at hl 4 rfl) (by omega) (by decide) dl_545 dl_546 dl_548 dl_550 dl_551 ?_
  refine ls_hi hx hb dl_552 dl_553 dl_555 ?_
  refine ls_rb (j := 7) hx hb hX hbl hbA hS hL (lv_at hl 0 rfl) (lv_at hl 4 rfl) (by omega) (by decide) dl_556 dl_557 dl_559 dl_561 dl_562 ?_
  refine ls_lo hx hb hown (hts _ tCon) dl_563 dl_564 dl_567 dl_568 ?_
  have hP : va_P (dC, dI) classes (sW ad cQ cJ v w t x y z ++ ([(oa, .inl (cJ, 1, .inr (.inl o)))] ++ mW am cJ cZ c0 r w t)) H := by rw [← List.append_assoc]; exact hP
  have hD : va_D (fun q : Nat => s.heap.size ≤ q) (sW ad cQ cJ v w t x y z ++ ([(oa, .inl (cJ, 1, .inr (.inl o)))] ++ mW am cJ cZ c0 r w t)) := by rw [← List.append_assoc]; exact hD
  refine lc_S (vx_runSW (As := [.ref (ad 0), .int (xs (i + 1)), .long (lgX (xs (i + 2)) (xs (i + 3))), .long (lgX (xs (i + 4)) (xs (i + 5))), .long (lgX (xs (i + 6)) (xs (i + 7)))]) (rest := []) ⟨hx, hb, hml, hown, hts⟩ (c_L_pattern l hlt dC dI ad cQ cJ H.size v w t x y z (xs (i + 1)) (lgX (xs (i + 2)) (xs (i + 3))) (lgX (xs (i + 4)) (xs (i + 5))) (lgX (xs (i + 6)) (xs (i + 7)))) (vx_cwSW 5 hts (gLS rfl tw3_0 tw3_1 tw3_2) rfl rfl rfl (by decide +kernel) ⟨(Nat.le_of_ble_eq_true rfl), (Nat.le_of_ble_eq_true rfl)⟩) (lc_pS (va_P.left hP) (va_D.left hD) hS hA hKs hQ hNc) rfl rfl hl.1 rfl (lv_room (Nat.le_of_ble_eq_true rfl)) dl_569 ⟨(show cells + 2 ≤ 601024 by omega), (show slots + 12 ≤ 7293034 by omega)⟩) hP hD hS hA (fun H locs hP hD hS => ?_)
  rw [← List.append_assoc] at hP hD
  refine lv_istore (lv' := [(5, .int (f_S_pattern v w t x y z (xs (i + 1)) (lgX (xs (i + 2)) (xs (i + 3))) (lgX (xs (i + 4)) (xs (i + 5))) (lgX (xs (i + 6)) (xs (i + 7)))).1), (0, .ref b), (1, .ref (ad 0)), (2, .ref (am 0)), (3, .ref oa), (4, .int (nI i))]) hx hb dl_572 hl (by decide) rfl (fun ls hl => ?_)
  refine lv_aload_n hx hb dl_574 rfl (lv_at hl 3 rfl) ?_
  refine ls_rd (j := 1) hx hb hX hbl hbA hS hL (lv_at hl 1 rfl) (lv_at hl 5 rfl) (by omega) (by decide) dl_575 dl_576 dl_578 dl_579 dl_580 ?_
  refine ls_rd (j := 2) hx hb hX hbl hbA hS hL (lv_at hl 1 rfl) (lv_at hl 5 rfl) (by omega) (by decide) dl_581 dl_582 dl_584 dl_585 dl_586 ?_
  refine ls_hi hx hb dl_587 dl_588 dl_590 ?_
  refine ls_rd (j := 3) hx hb hX hbl hbA hS hL (lv_at hl 1 rfl) (lv_at hl 5 rfl) (by omega) (by decide) dl_591 dl_592 dl_594 dl_595 dl_596 ?_
  refine ls_lo hx hb hown (hts _ tCon) dl_597 dl_598 dl_601 dl_602 ?_
  refine ls_rd (j := 4) hx hb hX hbl hbA hS hL (lv_at hl 1 rfl) (lv_at hl 5 rfl) (by omega) (by decide) dl_603 dl_604 dl_606 dl_607 dl_608 ?_
  refine ls_hi hx hb dl_609 dl_610 dl_612 ?_
  refine ls_rd (j := 5) hx hb hX hbl hbA hS hL (lv_at hl 1 rfl) (lv_at hl 5 rfl) (by omega) (by decide) dl_613 dl_614 dl_616 dl_617 dl_618 ?_
  refine ls_lo hx hb hown (hts _ tCon) dl_619 dl_620 dl_623 dl_624 ?_
  refine ls_rb (j := 6) hx hb hX hbl hbA hS hL (lv_at hl 1 rfl) (lv_at hl 5 rfl) (by omega) (by decide) dl_625 dl_626 dl_628 dl_630 dl_631 ?_
  refine ls_hi hx hb dl_632 dl_633 dl_635 ?_
  refine ls_rb (j := 7) hx hb hX hbl hbA hS hL (lv_at hl 1 rfl) (lv_at hl 5 rfl) (by omega) (by decide) dl_636 dl_637 dl_639 dl_641 dl_642 ?_
  refine ls_lo hx hb hown (hts _ tCon) dl_643 dl_644 dl_647 dl_648 ?_
  refine lc_Mv (va_runV (As := [.int (xs (i + 1)), .long (lgX (xs (i + 2)) (xs (i + 3))), .long (lgX (xs (i + 4)) (xs (i + 5))), .long (lgX (xs (i + 6)) (xs (i + 7)))]) (rest := []) ⟨hx, hb, hml, hown, hts⟩ (c_M_pattern l dC dI am cJ cZ H.size c0 r w t (xs (i + 1)) (lgX (xs (i + 2)) (xs (i + 3))) (lgX (xs (i + 4)) (xs (i + 5))) (lgX (xs (i + 6)) (xs (i + 7)))) (cwV 4 hts (gLM tw3_3 gx93 gx94 gx95) rfl rfl rfl (by decide +kernel) ⟨(Nat.le_of_ble_eq_true rfl), (Nat.le_of_ble_eq_true rfl)⟩) (lc_pM (va_P.right hP) (va_D.right hD) hKm) rfl rfl hl.1 rfl (lv_room (Nat.le_of_ble_eq_true rfl)) dl_649 ⟨(show cells + 2 + 0 ≤ 601024 by omega), (show slots + 12 + 0 ≤ 7293034 by omega)⟩) hP hD hS hA (fun H locs hP hD hS => ?_)
  refine lv_aload_n hx hb dl_652 rfl (lv_at hl 3 rfl) ?_
  refine rc_i (W.runV (As := []) (rest := []) ⟨hx, hb, hml, hown, hts⟩ (c_M_thrown l dC dI am cJ cZ (f_M_pattern r w t (xs (i + 1)) (lgX (xs (i + 2)) (xs (i + 3))) (lgX (xs (i + 4)) (xs (i + 5))) (lgX (xs (i + 6)) (xs (i + 7)))).1 (f_M_pattern r w t (xs (i + 1)) (lgX (xs (i + 2)) (xs (i + 3))) (lgX (xs (i + 4)) (xs (i + 5))) (lgX (xs (i + 6)) (xs (i + 7)))).2.1 (f_M_pattern r w t (xs (i + 1)) (lgX (xs (i + 2)) (xs (i + 3))) (lgX (xs (i + 4)) (xs (i + 5))) (lgX (xs (i + 6)) (xs (i + 7)))).2.2.1 (f_M_pattern r w t (xs (i + 1)) (lgX (xs (i + 2)) (xs (i + 3))) (lgX (xs (i + 4)) (xs (i + 5))) (lgX (xs (i + 6)) (xs (i + 7)))).2.2.2) (cwV 0 hts (gLM tw3_4 gx30 gx31 gx32) rfl rfl rfl (by decide +kernel) ⟨(Nat.le_of_ble_eq_true rfl), (Nat.le_of_ble_eq_true rfl)⟩) (lc_pR (va_P.right hP) hKm) rfl rfl hl.1 rfl (lv_room (Nat.le_of_ble_eq_true rfl)) dl_653 ⟨(show cells + 2 + 0 + 0 ≤ 601024 by omega), (show slots + 12 + 0 + 0 ≤ 7293034 by omega)⟩) ?_
  obtain ⟨h1, h2, h3, h4⟩ := link_pattern hI t x y z (xs (i + 1)) (lgX (xs (i + 2)) (xs (i + 3))) (lgX (xs (i + 4)) (xs (i + 5))) (lgX (xs (i + 6)) (xs (i + 7)))
  refine lv_iload hx hb dl_656 (lv_at hl 0 rfl) ?_
  refine lv_icmp_eq (tgt := 663) hx hb dl_658 (by decide) (fun _ => ?_) (fun hz => absurd (show f_M_thrown ((f_M_pattern r w t (xs (i + 1)) (lgX (xs (i + 2)) (xs (i + 3))) (lgX (xs (i + 4)) (xs (i + 5))) (lgX (xs (i + 6)) (xs (i + 7)))).1) = (f_S_pattern v w t x y z (xs (i + 1)) (lgX (xs (i + 2)) (xs (i + 3))) (lgX (xs (i + 4)) (xs (i + 5))) (lgX (xs (i + 6)) (xs (i + 7)))).1 from h1) hz)
  refine lv_goto (tgt := 1716) hx hb dl_663 (by decide) ?_
  rw [h3, h4] at hP hD
  refine W.widen (k := cells + 4) (n := slots + 24) (by omega) (by omega) ?_
  exact kk _ _ _ _ _ _ _ _ _ _ _ ls ⟨h2, hP, hD, hS⟩ (lv_sub hl [1, 2, 3, 4, 5] rfl)
