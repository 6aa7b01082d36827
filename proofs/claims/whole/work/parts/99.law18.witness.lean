/-! the law: witness -/
theorem dl_1648 : decode code 1648 = .ok (.aload_n 1, 1) := by decide +kernel
theorem dl_1649 : decode code 1649 = .ok (.aload_n 0, 1) := by decide +kernel
theorem dl_1650 : decode code 1650 = .ok (.iload 4, 2) := by decide +kernel
theorem dl_1652 : decode code 1652 = .ok (.iconst 1, 1) := by decide +kernel
theorem dl_1653 : decode code 1653 = .ok (.iadd, 1) := by decide +kernel
theorem dl_1654 : decode code 1654 = .ok (.iaload, 1) := by decide +kernel
theorem dl_1655 : decode code 1655 = .ok (.aload_n 3, 1) := by decide +kernel
theorem dl_1656 : decode code 1656 = .ok (.invokestatic 153, 3) := by decide +kernel
theorem dl_1659 : decode code 1659 = .ok (.istore 5, 2) := by decide +kernel
theorem dl_1661 : decode code 1661 = .ok (.aload_n 2, 1) := by decide +kernel
theorem dl_1662 : decode code 1662 = .ok (.aload_n 0, 1) := by decide +kernel
theorem dl_1663 : decode code 1663 = .ok (.iload 4, 2) := by decide +kernel
theorem dl_1665 : decode code 1665 = .ok (.iconst 1, 1) := by decide +kernel
theorem dl_1666 : decode code 1666 = .ok (.iadd, 1) := by decide +kernel
theorem dl_1667 : decode code 1667 = .ok (.iaload, 1) := by decide +kernel
theorem dl_1668 : decode code 1668 = .ok (.invokevirtual 155, 3) := by decide +kernel
theorem dl_1671 : decode code 1671 = .ok (.lstore 6, 2) := by decide +kernel
theorem dl_1673 : decode code 1673 = .ok (.aload_n 2, 1) := by decide +kernel
theorem dl_1674 : decode code 1674 = .ok (.invokevirtual 91, 3) := by decide +kernel
theorem dl_1677 : decode code 1677 = .ok (.iload 5, 2) := by decide +kernel
theorem dl_1679 : decode code 1679 = .ok (.if_icmp .eq 5, 3) := by decide +kernel
theorem dl_1682 : decode code 1682 = .ok (.iconst 0, 1) := by decide +kernel
theorem dl_1683 : decode code 1683 = .ok (.ireturn, 1) := by decide +kernel
theorem dl_1684 : decode code 1684 = .ok (.iload 5, 2) := by decide +kernel
theorem dl_1686 : decode code 1686 = .ok (.ifCond .ne 14, 3) := by decide +kernel
theorem dl_1689 : decode code 1689 = .ok (.aload_n 3, 1) := by decide +kernel
theorem dl_1690 : decode code 1690 = .ok (.iconst 0, 1) := by decide +kernel
theorem dl_1691 : decode code 1691 = .ok (.laload, 1) := by decide +kernel
theorem dl_1692 : decode code 1692 = .ok (.lload 6, 2) := by decide +kernel
theorem dl_1694 : decode code 1694 = .ok (.lcmp, 1) := by decide +kernel
theorem dl_1695 : decode code 1695 = .ok (.ifCond .eq 5, 3) := by decide +kernel
theorem dl_1698 : decode code 1698 = .ok (.iconst 0, 1) := by decide +kernel
theorem dl_1699 : decode code 1699 = .ok (.ireturn, 1) := by decide +kernel
theorem dl_1700 : decode code 1700 = .ok (.goto 16, 3) := by decide +kernel
set_option maxRecDepth 100000 in
theorem tw17_0 : Cond.methodLink R_L 153 y_L_witness ∈ lw_tbl := List.mem_of_getElem? (i := 612) rfl
set_option maxRecDepth 100000 in
theorem tw17_1 : Cond.static y_L_witness ∈ lw_tbl := List.mem_of_getElem? (i := 613) rfl
set_option maxRecDepth 100000 in
theorem tw17_2 : Cond.codeWith y_L_witness b_L_witness 4 (some .int) [(0, 8, 11, 13)] ∈ lw_tbl := List.mem_of_getElem? (i := 614) rfl
set_option maxRecDepth 100000 in
theorem tw17_3 : Cond.methodLink R_L 155 y_M_witness ∈ lw_tbl := List.mem_of_getElem? (i := 946) rfl
set_option maxRecDepth 100000 in
theorem tw17_4 : Cond.methodLink R_L 91 y_M_thrown ∈ lw_tbl := List.mem_of_getElem? (i := 657) rfl
set_option maxRecDepth 100000 in
set_option maxHeartbeats 4000000 in
theorem law_witness {p : Program} {l : Launch} {e : Env} {s : State} {m : MethodId} {below : List Frame} {meth : Method} {c : Code} {b L : Nat} {xs : Nat → Int32} {dC : Nat → ClassId} {dI : Nat → Nat → Nat} {cQ cJ cZ : ClassId} {ad am : Nat → Nat} {oa i cells slots : Nat} {Q : State → Prop} {v : Nat → VV} {w : Nat → Int64} {t : Int32} {x y z : VV} {o : Nat → Int64} {c0 : Int32} {r : Nat → VV} {H : Heap} {locs : List Loc} {ls : Array Slot} (E : LE l p s m c b L xs dC dI cQ cJ cZ) (hi : i + 9 ≤ L) (hc1 : cells + 4 ≤ 601024) (hc2 : slots + 24 ≤ 7293034) (I : LI s dC dI cQ cJ cZ ad am oa v w t x y z o c0 r H locs) (hl : LL ls b ad am oa i) (kk : LK p l e s m below meth c b dC dI cQ cJ cZ ad am oa i cells slots Q) : W p l e room_1 s m #[Value.ref b] below meth c H locs cells slots Q (F0 m 1648 ls []) := by
  obtain ⟨hx, hb, hml, hown, hts, hX, hbl, hL, hlt, hQ, hNc, hKs, hKm⟩ := E
  obtain ⟨hI, hP, hD, hS⟩ := I
  have hA : ∀ q : Nat, s.heap.size ≤ q → (fun q : Nat => s.heap.size ≤ q) q := fun _ h => h
  have hbA : ¬ (fun q : Nat => s.heap.size ≤ q) b := Nat.not_le.mpr hbl
  have hl : lv_has ls 8 [(0, .ref b), (1, .ref (ad 0)), (2, .ref (am 0)), (3, .ref oa), (4, .int (nI i))] := hl
  refine lv_aload_n hx hb dl_1648 rfl (lv_at hl 1 rfl) ?_
  refine ls_rd (j := 1) hx hb hX hbl hbA hS hL (lv_at hl 0 rfl) (lv_at hl 4 rfl) (by omega) (by decide) dl_1649 dl_1650 dl_1652 dl_1653 dl_1654 ?_
  refine lv_aload_n hx hb dl_1655 rfl (lv_at hl 3 rfl) ?_
  have hP : va_P (dC, dI) classes ((sW ad cQ cJ v w t x y z ++ [(oa, .inl (cJ, 1, .inr (.inl o)))]) ++ mW am cJ cZ c0 r w t) H := hP
  have hD : va_D (fun q : Nat => s.heap.size ≤ q) ((sW ad cQ cJ v w t x y z ++ [(oa, .inl (cJ, 1, .inr (.inl o)))]) ++ mW am cJ cZ c0 r w t) := hD
  refine lc_S (vx_runSW (As := [.ref (ad 0), .int (xs (i + 1)), .ref oa]) (rest := []) ⟨hx, hb, hml, hown, hts⟩ (c_L_witness l hlt dC dI ad cQ cJ H.size v w t x y z (xs (i + 1)) oa o) (vx_cwSW 3 hts (gLS rfl tw17_0 tw17_1 tw17_2) rfl rfl rfl (by decide +kernel) ⟨(Nat.le_of_ble_eq_true rfl), (Nat.le_of_ble_eq_true rfl)⟩) (lc_pS (va_P.left hP) (va_D.left hD) hS hA hKs hQ hNc) rfl rfl hl.1 rfl (lv_room (Nat.le_of_ble_eq_true rfl)) dl_1656 ⟨(show cells + 1 ≤ 601024 by omega), (show slots + 6 ≤ 7293034 by omega)⟩) hP hD hS hA (fun H locs hP hD hS => ?_)
  refine lv_istore (lv' := [(5, .int (f_S_witness v w t x y z (xs (i + 1))).1), (0, .ref b), (1, .ref (ad 0)), (2, .ref (am 0)), (3, .ref oa), (4, .int (nI i))]) hx hb dl_1659 hl (by decide) rfl (fun ls hl => ?_)
  refine lv_aload_n hx hb dl_1661 rfl (lv_at hl 3 rfl) ?_
  refine ls_rd (j := 1) hx hb hX hbl hbA hS hL (lv_at hl 1 rfl) (lv_at hl 5 rfl) (by omega) (by decide) dl_1662 dl_1663 dl_1665 dl_1666 dl_1667 ?_
  refine lc_Ml (va_runV (As := [.int (xs (i + 1))]) (rest := []) ⟨hx, hb, hml, hown, hts⟩ (c_M_witness l dC dI am cJ cZ H.size c0 r w t (xs (i + 1))) (cwV 1 hts (gLM tw17_3 gx261 gx262 gx263) rfl rfl rfl (by decide +kernel) ⟨(Nat.le_of_ble_eq_true rfl), (Nat.le_of_ble_eq_true rfl)⟩) (lc_pM (va_P.right hP) (va_D.right hD) hKm) rfl rfl hl.1 rfl (lv_room (Nat.le_of_ble_eq_true rfl)) dl_1668 ⟨(show cells + 1 + 0 ≤ 601024 by omega), (show slots + 6 + 0 ≤ 7293034 by omega)⟩) hP hD hS hA (fun H locs hP hD hS => ?_)
  refine lv_lstore (lv' := [(6, .long (f_M_witness w (xs (i + 1))).1), (5, .int (f_S_witness v w t x y z (xs (i + 1))).1), (0, .ref b), (1, .ref (ad 0)), (2, .ref (am 0)), (3, .ref oa), (4, .int (nI i))]) hx hb dl_1671 hl (by decide) rfl (fun ls hl => ?_)
  refine lv_aload_n hx hb dl_1673 rfl (lv_at hl 4 rfl) ?_
  refine rc_i (W.runV (As := []) (rest := []) ⟨hx, hb, hml, hown, hts⟩ (c_M_thrown l dC dI am cJ cZ (f_M_witness w (xs (i + 1))).2 r w t) (cwV 0 hts (gLM tw17_4 gx30 gx31 gx32) rfl rfl rfl (by decide +kernel) ⟨(Nat.le_of_ble_eq_true rfl), (Nat.le_of_ble_eq_true rfl)⟩) (lc_pR (va_P.right hP) hKm) rfl rfl hl.1 rfl (lv_room (Nat.le_of_ble_eq_true rfl)) dl_1674 ⟨(show cells + 1 + 0 + 0 ≤ 601024 by omega), (show slots + 6 + 0 + 0 ≤ 7293034 by omega)⟩) ?_
  obtain ⟨h1, h2⟩ := link_witness v w t x y z (xs (i + 1))
  refine lv_iload hx hb dl_1677 (lv_at hl 1 rfl) ?_
  refine lv_icmp_eq (tgt := 1684) hx hb dl_1679 (by decide) (fun _ => ?_) (fun hz => absurd (show f_M_thrown ((f_M_witness w (xs (i + 1))).2) = (f_S_witness v w t x y z (xs (i + 1))).1 from h1) hz)
  refine lv_iload hx hb dl_1684 (lv_at hl 1 rfl) ?_
  have hE : W p l e room_1 s m #[Value.ref b] below meth c H locs (cells + 1 + 0) (slots + 6 + 0) Q (F0 m 1700 ls []) := by
    refine lv_goto (tgt := 1716) hx hb dl_1700 (by decide) ?_
    refine W.widen (k := cells + 4) (n := slots + 24) (by omega) (by omega) ?_
    exact kk _ _ _ _ _ _ _ _ _ _ _ ls ⟨hI, hP, hD, hS⟩ (lv_sub hl [2, 3, 4, 5, 6] rfl)
  refine lv_if_ne (tgt := 1700) hx hb dl_1686 (by decide) (fun _ => hE) (fun h0 => ?_)
  refine lv_aload_n hx hb dl_1689 rfl (lv_at hl 5 rfl) ?_
  refine lv_iconst (v := 0) hx hb dl_1690 (by decide) ?_
  refine va_lald hx hb hKs hP 22 1 rfl rfl (show vp_in 0 1 by unfold vp_in; decide) dl_1691 ?_
  rw [if_pos h0, upd0]
  refine lv_lload hx hb dl_1692 (lv_at hl 0 rfl) ?_
  refine W.lcmp hx hb dl_1694 ?_
  exact lv_if_eq (tgt := 1700) hx hb dl_1695 (by decide) (fun _ => hE) (fun hz => absurd ((lg_eq0 _ _).mpr (by rw [h2 h0])) hz)
