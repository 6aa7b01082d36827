/-! the law: its loop -/
theorem dl_0 : decode code 0 = .ok (.new 8, 3) := by decide +kernel
theorem dl_3 : decode code 3 = .ok (.dup, 1) := by decide +kernel
theorem dl_4 : decode code 4 = .ok (.invokespecial 79, 3) := by decide +kernel
theorem dl_7 : decode code 7 = .ok (.astore_n 1, 1) := by decide +kernel
theorem dl_8 : decode code 8 = .ok (.new 80, 3) := by decide +kernel
theorem dl_11 : decode code 11 = .ok (.dup, 1) := by decide +kernel
theorem dl_12 : decode code 12 = .ok (.invokespecial 82, 3) := by decide +kernel
theorem dl_15 : decode code 15 = .ok (.astore_n 2, 1) := by decide +kernel
theorem dl_16 : decode code 16 = .ok (.iconst 1, 1) := by decide +kernel
theorem dl_17 : decode code 17 = .ok (.newarray .long, 2) := by decide +kernel
theorem dl_19 : decode code 19 = .ok (.astore_n 3, 1) := by decide +kernel
theorem dl_20 : decode code 20 = .ok (.iconst 0, 1) := by decide +kernel
theorem dl_21 : decode code 21 = .ok (.istore 4, 2) := by decide +kernel
theorem dl_23 : decode code 23 = .ok (.iload 4, 2) := by decide +kernel
theorem dl_25 : decode code 25 = .ok (.aload_n 0, 1) := by decide +kernel
theorem dl_26 : decode code 26 = .ok (.arraylength, 1) := by decide +kernel
theorem dl_27 : decode code 27 = .ok (.bipush 9, 2) := by decide +kernel
theorem dl_29 : decode code 29 = .ok (.isub, 1) := by decide +kernel
theorem dl_30 : decode code 30 = .ok (.if_icmp .gt 1692, 3) := by decide +kernel
theorem dl_33 : decode code 33 = .ok (.aload_n 0, 1) := by decide +kernel
theorem dl_34 : decode code 34 = .ok (.iload 4, 2) := by decide +kernel
theorem dl_36 : decode code 36 = .ok (.iaload, 1) := by decide +kernel
theorem dl_37 : decode code 37 = .ok (.bipush 31, 2) := by decide +kernel
theorem dl_39 : decode code 39 = .ok (.iand, 1) := by decide +kernel
theorem dl_40 : decode code 40 = .ok (.tableswitch 1676 0 18 #[92, 172, 252, 454, 626, 710, 770, 830, 890, 978, 1038, 1125, 1205, 1280, 1387, 1470, 1553, 1608, 1663], 92) := by decide +kernel
theorem dl_1716 : decode code 1716 = .ok (.iinc 4 9, 3) := by decide +kernel
theorem dl_1719 : decode code 1719 = .ok (.goto (-1696), 3) := by decide +kernel
theorem dl_1722 : decode code 1722 = .ok (.iconst 1, 1) := by decide +kernel
theorem dl_1723 : decode code 1723 = .ok (.ireturn, 1) := by decide +kernel
theorem lw_cmp {i L : Nat} (hL : L ≤ 4608) (hi : i ≤ L) : (Int32.ofNat L - 9 < nI i) ↔ L < i + 9 := by
  rcases Nat.lt_or_ge L 9 with h | h
  · have h1 : Int32.ofNat L - 9 < 0 := by
      have : L = 0 ∨ L = 1 ∨ L = 2 ∨ L = 3 ∨ L = 4 ∨ L = 5 ∨ L = 6 ∨ L = 7 ∨ L = 8 := by omega
      rcases this with rfl | rfl | rfl | rfl | rfl | rfl | rfl | rfl | rfl <;> decide
    have h2 : 0 ≤ nI i := nI_pos' (by omega)
    have h3 : Int32.ofNat L - 9 < nI i := by
      rw [Int32.lt_iff_toInt_lt] at h1 ⊢
      rw [Int32.le_iff_toInt_le] at h2
      omega
    exact ⟨fun _ => by omega, fun _ => h3⟩
  · have e : Int32.ofNat L - 9 = nI (L - 9) := by
      have h1 : Int32.ofNat L = nI (L - 9) + 9 := by
        have h2 : nI (L - 9) + nI 9 = nI (L - 9 + 9) := nI_add _ _
        rw [Nat.sub_add_cancel h] at h2
        exact h2.symm
      rw [h1, Int32.add_sub_cancel]
    rw [e, nI_ltI (by omega) (by omega)]
    exact ⟨fun q => by omega, fun q => by omega⟩
theorem sw_out {y : Int32} (h0 : ¬ y = 0) (h1 : ¬ y = 1) (h2 : ¬ y = 2) (h3 : ¬ y = 3) (h4 : ¬ y = 4) (h5 : ¬ y = 5) (h6 : ¬ y = 6) (h7 : ¬ y = 7) (h8 : ¬ y = 8) (h9 : ¬ y = 9) (h10 : ¬ y = 10) (h11 : ¬ y = 11) (h12 : ¬ y = 12) (h13 : ¬ y = 13) (h14 : ¬ y = 14) (h15 : ¬ y = 15) (h16 : ¬ y = 16) (h17 : ¬ y = 17) (h18 : ¬ y = 18) : y.toInt < 0 ∨ 18 < y.toInt := by
  rcases Classical.em (y.toInt < 0 ∨ 18 < y.toInt) with h | h
  · exact h
  · have q : y.toInt = 0 ∨ y.toInt = 1 ∨ y.toInt = 2 ∨ y.toInt = 3 ∨ y.toInt = 4 ∨ y.toInt = 5 ∨ y.toInt = 6 ∨ y.toInt = 7 ∨ y.toInt = 8 ∨ y.toInt = 9 ∨ y.toInt = 10 ∨ y.toInt = 11 ∨ y.toInt = 12 ∨ y.toInt = 13 ∨ y.toInt = 14 ∨ y.toInt = 15 ∨ y.toInt = 16 ∨ y.toInt = 17 ∨ y.toInt = 18 := by omega
    rcases q with q | q | q | q | q | q | q | q | q | q | q | q | q | q | q | q | q | q | q
    · exact absurd (Int32.toInt_inj.mp (q.trans (by decide))) h0
    · exact absurd (Int32.toInt_inj.mp (q.trans (by decide))) h1
    · exact absurd (Int32.toInt_inj.mp (q.trans (by decide))) h2
    · exact absurd (Int32.toInt_inj.mp (q.trans (by decide))) h3
    · exact absurd (Int32.toInt_inj.mp (q.trans (by decide))) h4
    · exact absurd (Int32.toInt_inj.mp (q.trans (by decide))) h5
    · exact absurd (Int32.toInt_inj.mp (q.trans (by decide))) h6
    · exact absurd (Int32.toInt_inj.mp (q.trans (by decide))) h7
    · exact absurd (Int32.toInt_inj.mp (q.trans (by decide))) h8
    · exact absurd (Int32.toInt_inj.mp (q.trans (by decide))) h9
    · exact absurd (Int32.toInt_inj.mp (q.trans (by decide))) h10
    · exact absurd (Int32.toInt_inj.mp (q.trans (by decide))) h11
    · exact absurd (Int32.toInt_inj.mp (q.trans (by decide))) h12
    · exact absurd (Int32.toInt_inj.mp (q.trans (by decide))) h13
    · exact absurd (Int32.toInt_inj.mp (q.trans (by decide))) h14
    · exact absurd (Int32.toInt_inj.mp (q.trans (by decide))) h15
    · exact absurd (Int32.toInt_inj.mp (q.trans (by decide))) h16
    · exact absurd (Int32.toInt_inj.mp (q.trans (by decide))) h17
    · exact absurd (Int32.toInt_inj.mp (q.trans (by decide))) h18
theorem inc9 (k : Nat) : nI (9 * k) + Int32.ofInt 9 = nI (9 * (k + 1)) := by
  have h : Int32.ofInt 9 = nI 9 := by decide
  rw [h, nI_add]
  rfl
set_option maxRecDepth 100000 in
set_option maxHeartbeats 4000000 in
theorem law_loop {p : Program} {l : Launch} {e : Env} {s : State} {m : MethodId} {below : List Frame} {meth : Method} {c : Code} {b L : Nat} {xs : Nat → Int32} {dC : Nat → ClassId} {dI : Nat → Nat → Nat} {cQ cJ cZ : ClassId} {ad am : Nat → Nat} {oa : Nat} (E : LE l p s m c b L xs dC dI cQ cJ cZ) (hr : meth.sig.returnType = ret) (hlocks : meth.locks = false) : ∀ (n k : Nat), 9 * k ≤ L → L + 1 ≤ 9 * (k + n) → ∀ (v : Nat → VV) (w : Nat → Int64) (t : Int32) (x y z : VV) (o : Nat → Int64) (c0 : Int32) (r : Nat → VV) (H : Heap) (locs : List Loc) (ls : Array Slot), LI s dC dI cQ cJ cZ ad am oa v w t x y z o c0 r H locs → LL ls b ad am oa (9 * k) → W p l e room_1 s m #[Value.ref b] below meth c H locs (40 + 4 * k) (500 + 24 * k) (lw_Z below #[Value.ref b] s) (F0 m 23 ls []) := by
  have E0 := E
  obtain ⟨hx, hb, hml, hown, hts, hX, hbl, hL, hlt, hQ, hNc, hKs, hKm⟩ := E
  have hA : ∀ q : Nat, s.heap.size ≤ q → (fun q : Nat => s.heap.size ≤ q) q := fun _ h => h
  have hbA : ¬ (fun q : Nat => s.heap.size ≤ q) b := Nat.not_le.mpr hbl
  intro n
  induction n with
  | zero =>
    intro k h1 h2
    exact absurd h2 (by omega)
  | succ n ih =>
    intro k hk hn v w t x y z o c0 r H locs ls I hl
    have I0 := I
    obtain ⟨hI, hP, hD, hS⟩ := I
    have hl0 := hl
    have hl : lv_has ls 8 [(0, .ref b), (1, .ref (ad 0)), (2, .ref (am 0)), (3, .ref oa), (4, .int (nI (9 * k)))] := hl
    refine lv_iload hx hb dl_23 (lv_at hl 4 rfl) ?_
    refine lv_aload_n hx hb dl_25 rfl (lv_at hl 0 rfl) ?_
    refine va_slen hx hb hX hbl hbA hS dl_26 ?_
    refine lv_bipush (v := 9) hx hb dl_27 (by decide) ?_
    refine lv_isub hx hb dl_29 ?_
    refine lv_icmp_gt (tgt := 1722) hx hb dl_30 (by decide) (fun _ => ?_) (fun hg => ?_)
    · refine lv_iconst (v := 1) hx hb dl_1722 (by decide) ?_
      refine va_forget (fun q hq => hS.2.2 q hq) ?_
      refine W.widen (k := 601024) (n := 7293034) (by omega) (by omega) ?_
      exact lw_ret hx hb hr hlocks dl_1723
    · have hi : 9 * k + 9 ≤ L := by
        rcases Nat.lt_or_ge L (9 * k + 9) with q | q
        · exact absurd ((lw_cmp hL hk).mpr q) hg
        · exact q
      have KK : LK p l e s m below meth c b dC dI cQ cJ cZ ad am oa (9 * k) (40 + 4 * k) (500 + 24 * k) (lw_Z below #[Value.ref b] s) := by
        intro v w t x y z o c0 r H locs ls I hl
        have hl : lv_has ls 8 [(0, .ref b), (1, .ref (ad 0)), (2, .ref (am 0)), (3, .ref oa), (4, .int (nI (9 * k)))] := hl
        refine lv_iinc (v := nI (9 * (k + 1))) (lv' := [(4, .int (nI (9 * (k + 1)))), (0, .ref b), (1, .ref (ad 0)), (2, .ref (am 0)), (3, .ref oa)]) hx hb dl_1716 hl (k := 4) rfl (inc9 k) (by decide) rfl (fun ls hl => ?_)
        refine lv_goto (tgt := 23) hx hb dl_1719 (by decide) ?_
        refine W.widen (k := 40 + 4 * (k + 1)) (n := 500 + 24 * (k + 1)) (by omega) (by omega) ?_
        exact ih (k + 1) (by omega) (by omega) v w t x y z o c0 r H locs ls I (lv_sub hl [1, 2, 3, 4, 0] rfl)
      refine lv_aload_n hx hb dl_33 rfl (lv_at hl 0 rfl) ?_
      refine lv_iload hx hb dl_34 (lv_at hl 4 rfl) ?_
      refine va_sld hx hb hX hbl hbA hS (vp_in_nI (by omega) (by omega)) dl_36 ?_
      refine lv_bipush (v := 31) hx hb dl_37 (by decide) ?_
      refine lv_iand hx hb dl_39 ?_
      refine lv_topi (fun g _ => ?_)
      by_cases h0 : g = 0
      · subst h0
        refine lv_tableIn (off := 92) (tgt := 132) hx hb dl_40 (by decide) (by decide) rfl (by decide) ?_
        exact law_any E0 hi (by omega) (by omega) I0 hl0 KK
      by_cases h1 : g = 1
      · subst h1
        refine lv_tableIn (off := 172) (tgt := 212) hx hb dl_40 (by decide) (by decide) rfl (by decide) ?_
        exact law_constant E0 hi (by omega) (by omega) I0 hl0 KK
      by_cases h2 : g = 2
      · subst h2
        refine lv_tableIn (off := 252) (tgt := 292) hx hb dl_40 (by decide) (by decide) rfl (by decide) ?_
        exact law_between E0 hi (by omega) (by omega) I0 hl0 KK
      by_cases h3 : g = 3
      · subst h3
        refine lv_tableIn (off := 454) (tgt := 494) hx hb dl_40 (by decide) (by decide) rfl (by decide) ?_
        exact law_pattern E0 hi (by omega) (by omega) I0 hl0 KK
      by_cases h4 : g = 4
      · subst h4
        refine lv_tableIn (off := 626) (tgt := 666) hx hb dl_40 (by decide) (by decide) rfl (by decide) ?_
        exact law_operate E0 hi (by omega) (by omega) I0 hl0 KK
      by_cases h5 : g = 5
      · subst h5
        refine lv_tableIn (off := 710) (tgt := 750) hx hb dl_40 (by decide) (by decide) rfl (by decide) ?_
        exact law_cut E0 hi (by omega) (by omega) I0 hl0 KK
      by_cases h6 : g = 6
      · subst h6
        refine lv_tableIn (off := 770) (tgt := 810) hx hb dl_40 (by decide) (by decide) rfl (by decide) ?_
        exact law_extend E0 hi (by omega) (by omega) I0 hl0 KK
      by_cases h7 : g = 7
      · subst h7
        refine lv_tableIn (off := 830) (tgt := 870) hx hb dl_40 (by decide) (by decide) rfl (by decide) ?_
        exact law_swap E0 hi (by omega) (by omega) I0 hl0 KK
      by_cases h8 : g = 8
      · subst h8
        refine lv_tableIn (off := 890) (tgt := 930) hx hb dl_40 (by decide) (by decide) rfl (by decide) ?_
        exact law_join E0 hi (by omega) (by omega) I0 hl0 KK
      by_cases h9 : g = 9
      · subst h9
        refine lv_tableIn (off := 978) (tgt := 1018) hx hb dl_40 (by decide) (by decide) rfl (by decide) ?_
        exact law_widen E0 hi (by omega) (by omega) I0 hl0 KK
      by_cases h10 : g = 10
      · subst h10
        refine lv_tableIn (off := 1038) (tgt := 1078) hx hb dl_40 (by decide) (by decide) rfl (by decide) ?_
        exact law_branch E0 hi (by omega) (by omega) I0 hl0 KK
      by_cases h11 : g = 11
      · subst h11
        refine lv_tableIn (off := 1125) (tgt := 1165) hx hb dl_40 (by decide) (by decide) rfl (by decide) ?_
        exact law_decided E0 hi (by omega) (by omega) I0 hl0 KK
      by_cases h12 : g = 12
      · subst h12
        refine lv_tableIn (off := 1205) (tgt := 1245) hx hb dl_40 (by decide) (by decide) rfl (by decide) ?_
        exact law_within E0 hi (by omega) (by omega) I0 hl0 KK
      by_cases h13 : g = 13
      · subst h13
        refine lv_tableIn (off := 1280) (tgt := 1320) hx hb dl_40 (by decide) (by decide) rfl (by decide) ?_
        exact law_has E0 hi (by omega) (by omega) I0 hl0 KK
      by_cases h14 : g = 14
      · subst h14
        refine lv_tableIn (off := 1387) (tgt := 1427) hx hb dl_40 (by decide) (by decide) rfl (by decide) ?_
        exact law_least E0 hi (by omega) (by omega) I0 hl0 KK
      by_cases h15 : g = 15
      · subst h15
        refine lv_tableIn (off := 1470) (tgt := 1510) hx hb dl_40 (by decide) (by decide) rfl (by decide) ?_
        exact law_greatest E0 hi (by omega) (by omega) I0 hl0 KK
      by_cases h16 : g = 16
      · subst h16
        refine lv_tableIn (off := 1553) (tgt := 1593) hx hb dl_40 (by decide) (by decide) rfl (by decide) ?_
        exact law_unknown E0 hi (by omega) (by omega) I0 hl0 KK
      by_cases h17 : g = 17
      · subst h17
        refine lv_tableIn (off := 1608) (tgt := 1648) hx hb dl_40 (by decide) (by decide) rfl (by decide) ?_
        exact law_witness E0 hi (by omega) (by omega) I0 hl0 KK
      by_cases h18 : g = 18
      · subst h18
        refine lv_tableIn (off := 1663) (tgt := 1703) hx hb dl_40 (by decide) (by decide) rfl (by decide) ?_
        exact law_strays E0 hi (by omega) (by omega) I0 hl0 KK
      refine lv_tableOut (tgt := 1716) hx hb dl_40 (sw_out h0 h1 h2 h3 h4 h5 h6 h7 h8 h9 h10 h11 h12 h13 h14 h15 h16 h17 h18) (by decide) ?_
      refine W.widen (k := 40 + 4 * k + 4) (n := 500 + 24 * k + 24) (by omega) (by omega) ?_
      exact KK v w t x y z o c0 r H locs ls I0 hl0
