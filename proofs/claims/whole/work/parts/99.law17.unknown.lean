/-! the law: unknown -/
theorem dl_1593 : decode code 1593 = .ok (.aload_n 1, 1) := by decide +kernel
theorem dl_1594 : decode code 1594 = .ok (.aload_n 0, 1) := by decide +kernel
theorem dl_1595 : decode code 1595 = .ok (.iload 4, 2) := by decide +kernel
theorem dl_1597 : decode code 1597 = .ok (.iconst 1, 1) := by decide +kernel
theorem dl_1598 : decode code 1598 = .ok (.iadd, 1) := by decide +kernel
theorem dl_1599 : decode code 1599 = .ok (.iaload, 1) := by decide +kernel
theorem dl_1600 : decode code 1600 = .ok (.aload_n 3, 1) := by decide +kernel
theorem dl_1601 : decode code 1601 = .ok (.invokestatic 149, 3) := by decide +kernel
theorem dl_1604 : decode code 1604 = .ok (.istore 5, 2) := by decide +kernel
theorem dl_1606 : decode code 1606 = .ok (.aload_n 2, 1) := by decide +kernel
theorem dl_1607 : decode code 1607 = .ok (.aload_n 0, 1) := by decide +kernel
theorem dl_1608 : decode code 1608 = .ok (.iload 4, 2) := by decide +kernel
theorem dl_1610 : decode code 1610 = .ok (.iconst 1, 1) := by decide +kernel
theorem dl_1611 : decode code 1611 = .ok (.iadd, 1) := by decide +kernel
theorem dl_1612 : decode code 1612 = .ok (.iaload, 1) := by decide +kernel
theorem dl_1613 : decode code 1613 = .ok (.invokevirtual 152, 3) := by decide +kernel
theorem dl_1616 : decode code 1616 = .ok (.lstore 6, 2) := by decide +kernel
theorem dl_1618 : decode code 1618 = .ok (.aload_n 2, 1) := by decide +kernel
theorem dl_1619 : decode code 1619 = .ok (.invokevirtual 91, 3) := by decide +kernel
theorem dl_1622 : decode code 1622 = .ok (.iload 5, 2) := by decide +kernel
theorem dl_1624 : decode code 1624 = .ok (.if_icmp .eq 5, 3) := by decide +kernel
theorem dl_1627 : decode code 1627 = .ok (.iconst 0, 1) := by decide +kernel
theorem dl_1628 : decode code 1628 = .ok (.ireturn, 1) := by decide +kernel
theorem dl_1629 : decode code 1629 = .ok (.iload 5, 2) := by decide +kernel
theorem dl_1631 : decode code 1631 = .ok (.ifCond .ne 14, 3) := by decide +kernel
theorem dl_1634 : decode code 1634 = .ok (.aload_n 3, 1) := by decide +kernel
theorem dl_1635 : decode code 1635 = .ok (.iconst 0, 1) := by decide +kernel
theorem dl_1636 : decode code 1636 = .ok (.laload, 1) := by decide +kernel
theorem dl_1637 : decode code 1637 = .ok (.lload 6, 2) := by decide +kernel
theorem dl_1639 : decode code 1639 = .ok (.lcmp, 1) := by decide +kernel
theorem dl_1640 : decode code 1640 = .ok (.ifCond .eq 5, 3) := by decide +kernel
theorem dl_1643 : decode code 1643 = .ok (.iconst 0, 1) := by decide +kernel
theorem dl_1644 : decode code 1644 = .ok (.ireturn, 1) := by decide +kernel
theorem dl_1645 : decode code 1645 = .ok (.goto 71, 3) := by decide +kernel
set_option maxRecDepth 100000 in
theorem tw16_0 : Cond.methodLink R_L 149 y_L_unknown ∈ lw_tbl := List.mem_of_getElem? (i := 605) rfl
set_option maxRecDepth 100000 in
theorem tw16_1 : Cond.static y_L_unknown ∈ lw_tbl := List.mem_of_getElem? (i := 606) rfl
set_option maxRecDepth 100000 in
theorem tw16_2 : Cond.codeWith y_L_unknown b_L_unknown 4 (some .int) [(0, 8, 11, 13)] ∈ lw_tbl := List.mem_of_getElem? (i := 607) rfl
set_option maxRecDepth 100000 in
theorem tw16_3 : Cond.methodLink R_L 152 y_M_unknown ∈ lw_tbl := List.mem_of_getElem? (i := 942) rfl
set_option maxRecDepth 100000 in
theorem tw16_4 : Cond.methodLink R_L 91 y_M_thrown ∈ lw_tbl := List.mem_of_getElem? (i := 657) rfl
set_option maxRecDepth 100000 in
set_option maxHeartbeats 4000000 in
theorem law_unknown {p : Program} {l : Launch} {e : Env} {s : State} {m : MethodId} {below : List Frame} {meth : Method} {c : Code} {b L : Nat} {xs : Nat → Int32} {dC : Nat → ClassId} {dI : Nat → Nat → Nat} {cQ cJ cZ : ClassId} {ad am : Nat → Nat} {oa i cells slots : Nat} {Q : State → Prop} {v : Nat → VV} {w : Nat → Int64} {t : Int32} {x y z : VV} {o : Nat → Int64} {c0 : Int32} {r : Nat → VV} {H : Heap} {locs : List Loc} {ls : Array Slot} (E : LE l p s m c b L xs dC dI cQ cJ cZ) (hi : i + 9 ≤ L) (hc1 : cells + 4 ≤ 601024) (hc2 : slots + 24 ≤ 7293034) (I : LI s dC dI cQ cJ cZ ad am oa v w t x y z o c0 r H locs) (hl : LL ls b ad am oa i) (kk : LK p l e s m below meth c b dC dI cQ cJ cZ ad am oa i cells slots Q) : W p l e room_1 s m #[Value.ref b] below meth c H locs cells slots Q (F0 m 1593 ls []) := by
  obtain ⟨hx, hb, hml, hown, hts, hX, hbl, hL, hlt, hQ, hNc, hKs, hKm⟩ := E
  obtain ⟨hI, hP, hD, hS⟩ := I
  have hA : ∀ q : Nat, s.heap.size ≤ q → (fun q : Nat => s.heap.size ≤ q) q := fun _ h => h
  have hbA : ¬ (fun q : Nat => s.heap.size ≤ q) b := Nat.not_le.mpr hbl
  have hl : lv_has ls 8 [(0, .ref b), (1, .ref (ad 0)), (2, .ref (am 0)), (3, .ref oa), (4, .int (nI i))] := hl
  refine lv_aload_n hx hb dl_1593 rfl (lv_at hl 1 rfl) ?_
  refine ls_rd (j := 1) hx hb hX hbl hbA hS hL (lv_at hl 0 rfl) (lv_at hl 4 rfl) (by omega) (by decide) dl_1594 dl_1595 dl_1597 dl_1598 dl_1599 ?_
  refine lv_aload_n hx hb dl_1600 rfl (lv_at hl 3 rfl) ?_
  have hP : va_P (dC, dI) classes ((sW ad cQ cJ v w t x y z ++ [(oa, .inl (cJ, 1, .inr (.inl o)))]) ++ mW am cJ cZ c0 r w t) H := hP
  have hD : va_D (fun q : Nat => s.heap.size ≤ q) ((sW ad cQ cJ v w t x y z ++ [(oa, .inl (cJ, 1, .inr (.inl o)))]) ++ mW am cJ cZ c0 r w t) := hD
  refine lc_S (vx_runSW (As := [.ref (ad 0), .int (xs (i + 1)), .ref oa]) (rest := []) ⟨hx, hb, hml, hown, hts⟩ (c_L_unknown l hlt dC dI ad cQ cJ H.size v w t x y z (xs (i + 1)) oa o) (vx_cwSW 3 hts (gLS rfl tw16_0 tw16_1 tw16_2) rfl rfl rfl (by decide +kernel) ⟨(Nat.le_of_ble_eq_true rfl), (Nat.le_of_ble_eq_true rfl)⟩) (lc_pS (va_P.left hP) (va_D.left hD) hS hA hKs hQ hNc) rfl rfl hl.1 rfl (lv_room (Nat.le_of_ble_eq_true rfl)) dl_1601 ⟨(show cells + 1 ≤ 601024 by omega), (show slots + 6 ≤ 7293034 by omega)⟩) hP hD hS hA (fun H locs hP hD hS => ?_)
  refine lv_istore (lv' := [(5, .int (f_S_unknown v w t x y z (xs (i + 1))).1), (0, .ref b), (1, .ref (ad 0)), (2, .ref (am 0)), (3, .ref oa), (4, .int (nI i))]) hx hb dl_1604 hl (by decide) rfl (fun ls hl => ?_)
  refine lv_aload_n hx hb dl_1606 rfl (lv_at hl 3 rfl) ?_
  refine ls_rd (j := 1) hx hb hX hbl hbA hS hL (lv_at hl 1 rfl) (lv_at hl 5 rfl) (by omega) (by decide) dl_1607 dl_1608 dl_1610 dl_1611 dl_1612 ?_
  refine lc_Ml (va_runV (As := [.int (xs (i + 1))]) (rest := []) ⟨hx, hb, hml, hown, hts⟩ (c_M_unknown l dC dI am cJ cZ H.size c0 r w t (xs (i + 1))) (cwV 1 hts (gLM tw16_3 gx258 gx259 gx260) rfl rfl rfl (by decide +kernel) ⟨(Nat.le_of_ble_eq_true rfl), (Nat.le_of_ble_eq_true rfl)⟩) (lc_pM (va_P.right hP) (va_D.right hD) hKm) rfl rfl hl.1 rfl (lv_room (Nat.le_of_ble_eq_true rfl)) dl_1613 ⟨(show cells + 1 + 0 ≤ 601024 by omega), (show slots + 6 + 0 ≤ 7293034 by omega)⟩) hP hD hS hA (fun H locs hP hD hS => ?_)
  refine lv_lstore (lv' := [(6, .long (f_M_unknown r (xs (i + 1))).1), (5, .int (f_S_unknown v w t x y z (xs (i + 1))).1), (0, .ref b), (1, .ref (ad 0)), (2, .ref (am 0)), (3, .ref oa), (4, .int (nI i))]) hx hb dl_1616 hl (by decide) rfl (fun ls hl => ?_)
  refine lv_aload_n hx hb dl_1618 rfl (lv_at hl 4 rfl) ?_
  refine rc_i (W.runV (As := []) (rest := []) ⟨hx, hb, hml, hown, hts⟩ (c_M_thrown l dC dI am cJ cZ (f_M_unknown r (xs (i + 1))).2 r w t) (cwV 0 hts (gLM tw16_4 gx30 gx31 gx32) rfl rfl rfl (by decide +kernel) ⟨(Nat.le_of_ble_eq_true rfl), (Nat.le_of_ble_eq_true rfl)⟩) (lc_pR (va_P.right hP) hKm) rfl rfl hl.1 rfl (lv_room (Nat.le_of_ble_eq_true rfl)) dl_1619 ⟨(show cells + 1 + 0 + 0 ≤ 601024 by omega), (show slots + 6 + 0 + 0 ≤ 7293034 by omega)⟩) ?_
  obtain ⟨h1, h2⟩ := link_unknown hI t x y z (xs (i + 1))
  refine lv_iload hx hb dl_1622 (lv_at hl 1 rfl) ?_
  refine lv_icmp_eq (tgt := 1629) hx hb dl_1624 (by decide) (fun _ => ?_) (fun hz => absurd (show f_M_thrown ((f_M_unknown r (xs (i + 1))).2) = (f_S_unknown v w t x y z (xs (i + 1))).1 from h1) hz)
  refine lv_iload hx hb dl_1629 (lv_at hl 1 rfl) ?_
  have hE : W p l e room_1 s m #[Value.ref b] below meth c H locs (cells + 1 + 0) (slots + 6 + 0) Q (F0 m 1645 ls []) := by
    refine lv_goto (tgt := 1716) hx hb dl_1645 (by decide) ?_
    refine W.widen (k := cells + 4) (n := slots + 24) (by omega) (by omega) ?_
    exact kk _ _ _ _ _ _ _ _ _ _ _ ls ⟨hI, hP, hD, hS⟩ (lv_sub hl [2, 3, 4, 5, 6] rfl)
  refine lv_if_ne (tgt := 1645) hx hb dl_1631 (by decide) (fun _ => hE) (fun h0 => ?_)
  refine lv_aload_n hx hb dl_1634 rfl (lv_at hl 5 rfl) ?_
  refine lv_iconst (v := 0) hx hb dl_1635 (by decide) ?_
  refine va_lald hx hb hKs hP 22 1 rfl rfl (show vp_in 0 1 by unfold vp_in; decide) dl_1636 ?_
  rw [if_pos h0, upd0]
  refine lv_lload hx hb dl_1637 (lv_at hl 0 rfl) ?_
  refine W.lcmp hx hb dl_1639 ?_
  exact lv_if_eq (tgt := 1645) hx hb dl_1640 (by decide) (fun _ => hE) (fun hz => absurd ((lg_eq0 _ _).mpr (by rw [h2 h0])) hz)
