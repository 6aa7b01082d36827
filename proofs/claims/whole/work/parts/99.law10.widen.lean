/-! the law: widen -/
theorem dl_1018 : decode code 1018 = .ok (.aload_n 1, 1) := by decide +kernel
theorem dl_1019 : decode code 1019 = .ok (.aload_n 0, 1) := by decide +kernel
theorem dl_1020 : decode code 1020 = .ok (.iload 4, 2) := by decide +kernel
theorem dl_1022 : decode code 1022 = .ok (.iconst 1, 1) := by decide +kernel
theorem dl_1023 : decode code 1023 = .ok (.iadd, 1) := by decide +kernel
theorem dl_1024 : decode code 1024 = .ok (.iaload, 1) := by decide +kernel
theorem dl_1025 : decode code 1025 = .ok (.aload_n 0, 1) := by decide +kernel
theorem dl_1026 : decode code 1026 = .ok (.iload 4, 2) := by decide +kernel
theorem dl_1028 : decode code 1028 = .ok (.iconst 2, 1) := by decide +kernel
theorem dl_1029 : decode code 1029 = .ok (.iadd, 1) := by decide +kernel
theorem dl_1030 : decode code 1030 = .ok (.iaload, 1) := by decide +kernel
theorem dl_1031 : decode code 1031 = .ok (.aload_n 0, 1) := by decide +kernel
theorem dl_1032 : decode code 1032 = .ok (.iload 4, 2) := by decide +kernel
theorem dl_1034 : decode code 1034 = .ok (.iconst 3, 1) := by decide +kernel
theorem dl_1035 : decode code 1035 = .ok (.iadd, 1) := by decide +kernel
theorem dl_1036 : decode code 1036 = .ok (.iaload, 1) := by decide +kernel
theorem dl_1037 : decode code 1037 = .ok (.invokestatic 124, 3) := by decide +kernel
theorem dl_1040 : decode code 1040 = .ok (.istore 5, 2) := by decide +kernel
theorem dl_1042 : decode code 1042 = .ok (.aload_n 2, 1) := by decide +kernel
theorem dl_1043 : decode code 1043 = .ok (.aload_n 0, 1) := by decide +kernel
theorem dl_1044 : decode code 1044 = .ok (.iload 4, 2) := by decide +kernel
theorem dl_1046 : decode code 1046 = .ok (.iconst 1, 1) := by decide +kernel
theorem dl_1047 : decode code 1047 = .ok (.iadd, 1) := by decide +kernel
theorem dl_1048 : decode code 1048 = .ok (.iaload, 1) := by decide +kernel
theorem dl_1049 : decode code 1049 = .ok (.aload_n 0, 1) := by decide +kernel
theorem dl_1050 : decode code 1050 = .ok (.iload 4, 2) := by decide +kernel
theorem dl_1052 : decode code 1052 = .ok (.iconst 2, 1) := by decide +kernel
theorem dl_1053 : decode code 1053 = .ok (.iadd, 1) := by decide +kernel
theorem dl_1054 : decode code 1054 = .ok (.iaload, 1) := by decide +kernel
theorem dl_1055 : decode code 1055 = .ok (.aload_n 0, 1) := by decide +kernel
theorem dl_1056 : decode code 1056 = .ok (.iload 4, 2) := by decide +kernel
theorem dl_1058 : decode code 1058 = .ok (.iconst 3, 1) := by decide +kernel
theorem dl_1059 : decode code 1059 = .ok (.iadd, 1) := by decide +kernel
theorem dl_1060 : decode code 1060 = .ok (.iaload, 1) := by decide +kernel
theorem dl_1061 : decode code 1061 = .ok (.invokevirtual 126, 3) := by decide +kernel
theorem dl_1064 : decode code 1064 = .ok (.aload_n 2, 1) := by decide +kernel
theorem dl_1065 : decode code 1065 = .ok (.invokevirtual 91, 3) := by decide +kernel
theorem dl_1068 : decode code 1068 = .ok (.iload 5, 2) := by decide +kernel
theorem dl_1070 : decode code 1070 = .ok (.if_icmp .eq 5, 3) := by decide +kernel
theorem dl_1073 : decode code 1073 = .ok (.iconst 0, 1) := by decide +kernel
theorem dl_1074 : decode code 1074 = .ok (.ireturn, 1) := by decide +kernel
theorem dl_1075 : decode code 1075 = .ok (.goto 641, 3) := by decide +kernel
set_option maxRecDepth 100000 in
theorem tw9_0 : Cond.methodLink R_L 124 y_L_widen ∈ lw_tbl := List.mem_of_getElem? (i := 492) rfl
set_option maxRecDepth 100000 in
theorem tw9_1 : Cond.static y_L_widen ∈ lw_tbl := List.mem_of_getElem? (i := 493) rfl
set_option maxRecDepth 100000 in
theorem tw9_2 : Cond.codeWith y_L_widen b_L_widen 5 (some .int) [(0, 7, 10, 13)] ∈ lw_tbl := List.mem_of_getElem? (i := 494) rfl
set_option maxRecDepth 100000 in
theorem tw9_3 : Cond.methodLink R_L 126 y_M_widen ∈ lw_tbl := List.mem_of_getElem? (i := 873) rfl
set_option maxRecDepth 100000 in
theorem tw9_4 : Cond.methodLink R_L 91 y_M_thrown ∈ lw_tbl := List.mem_of_getElem? (i := 657) rfl
set_option maxRecDepth 100000 in
set_option maxHeartbeats 4000000 in
theorem law_widen {p : Program} {l : Launch} {e : Env} {s : State} {m : MethodId} {below : List Frame} {meth : Method} {c : Code} {b L : Nat} {xs : Nat → Int32} {dC : Nat → ClassId} {dI : Nat → Nat → Nat} {cQ cJ cZ : ClassId} {ad am : Nat → Nat} {oa i cells slots : Nat} {Q : State → Prop} {v : Nat → VV} {w : Nat → Int64} {t : Int32} {x y z : VV} {o : Nat → Int64} {c0 : Int32} {r : Nat → VV} {H : Heap} {locs : List Loc} {ls : Array Slot} (E : LE l p s m c b L xs dC dI cQ cJ cZ) (hi : i + 9 ≤ L) (hc1 : cells + 4 ≤ 601024) (hc2 : slots + 24 ≤ 7293034) (I : LI s dC dI cQ cJ cZ ad am oa v w t x y z o c0 r H locs) (hl : LL ls b ad am oa i) (kk : LK p l e s m below meth c b dC dI cQ cJ cZ ad am oa i cells slots Q) : W p l e room_1 s m #[Value.ref b] below meth c H locs cells slots Q (F0 m 1018 ls []) := by
  obtain ⟨hx, hb, hml, hown, hts, hX, hbl, hL, hlt, hQ, hNc, hKs, hKm⟩ := E
  obtain ⟨hI, hP, hD, hS⟩ := I
  have hA : ∀ q : Nat, s.heap.size ≤ q → (fun q : Nat => s.heap.size ≤ q) q := fun _ h => h
  have hbA : ¬ (fun q : Nat => s.heap.size ≤ q) b := Nat.not_le.mpr hbl
  have hl : lv_has ls 8 [(0, .ref b), (1, .ref (ad 0)), (2, .ref (am 0)), (3, .ref oa), (4, .int (nI i))] := hl
  refine lv_aload_n hx hb dl_1018 rfl (lv_at hl 1 rfl) ?_
  refine ls_rd (j := 1) hx hb hX hbl hbA hS hL (lv_at hl 0 rfl) (lv_at hl 4 rfl) (by omega) (by decide) dl_1019 dl_1020 dl_1022 dl_1023 dl_1024 ?_
  refine ls_rd (j := 2) hx hb hX hbl hbA hS hL (lv_at hl 0 rfl) (lv_at hl 4 rfl) (by omega) (by decide) dl_1025 dl_1026 dl_1028 dl_1029 dl_1030 ?_
  refine ls_rd (j := 3) hx hb hX hbl hbA hS hL (lv_at hl 0 rfl) (lv_at hl 4 rfl) (by omega) (by decide) dl_1031 dl_1032 dl_1034 dl_1035 dl_1036 ?_
  have hP : va_P (dC, dI) classes (sW ad cQ cJ v w t x y z ++ ([(oa, .inl (cJ, 1, .inr (.inl o)))] ++ mW am cJ cZ c0 r w t)) H := by rw [← List.append_assoc]; exact hP
  have hD : va_D (fun q : Nat => s.heap.size ≤ q) (sW ad cQ cJ v w t x y z ++ ([(oa, .inl (cJ, 1, .inr (.inl o)))] ++ mW am cJ cZ c0 r w t)) := by rw [← List.append_assoc]; exact hD
  refine lc_S (vx_runSW (As := [.ref (ad 0), .int (xs (i + 1)), .int (xs (i + 2)), .int (xs (i + 3))]) (rest := []) ⟨hx, hb, hml, hown, hts⟩ (c_L_widen l hlt dC dI ad cQ cJ H.size v w t x y z (xs (i + 1)) (xs (i + 2)) (xs (i + 3))) (vx_cwSW 4 hts (gLS rfl tw9_0 tw9_1 tw9_2) rfl rfl rfl (by decide +kernel) ⟨(Nat.le_of_ble_eq_true rfl), (Nat.le_of_ble_eq_true rfl)⟩) (lc_pS (va_P.left hP) (va_D.left hD) hS hA hKs hQ hNc) rfl rfl hl.1 rfl (lv_room (Nat.le_of_ble_eq_true rfl)) dl_1037 ⟨(show cells + 3 ≤ 601024 by omega), (show slots + 18 ≤ 7293034 by omega)⟩) hP hD hS hA (fun H locs hP hD hS => ?_)
  rw [← List.append_assoc] at hP hD
  refine lv_istore (lv' := [(5, .int (f_S_widen v w t x y z (xs (i + 1)) (xs (i + 2)) (xs (i + 3))).1), (0, .ref b), (1, .ref (ad 0)), (2, .ref (am 0)), (3, .ref oa), (4, .int (nI i))]) hx hb dl_1040 hl (by decide) rfl (fun ls hl => ?_)
  refine lv_aload_n hx hb dl_1042 rfl (lv_at hl 3 rfl) ?_
  refine ls_rd (j := 1) hx hb hX hbl hbA hS hL (lv_at hl 1 rfl) (lv_at hl 5 rfl) (by omega) (by decide) dl_1043 dl_1044 dl_1046 dl_1047 dl_1048 ?_
  refine ls_rd (j := 2) hx hb hX hbl hbA hS hL (lv_at hl 1 rfl) (lv_at hl 5 rfl) (by omega) (by decide) dl_1049 dl_1050 dl_1052 dl_1053 dl_1054 ?_
  refine ls_rd (j := 3) hx hb hX hbl hbA hS hL (lv_at hl 1 rfl) (lv_at hl 5 rfl) (by omega) (by decide) dl_1055 dl_1056 dl_1058 dl_1059 dl_1060 ?_
  refine lc_Mv (va_runV (As := [.int (xs (i + 1)), .int (xs (i + 2)), .int (xs (i + 3))]) (rest := []) ⟨hx, hb, hml, hown, hts⟩ (c_M_widen l dC dI am cJ cZ H.size c0 r w t (xs (i + 1)) (xs (i + 2)) (xs (i + 3))) (cwV 3 hts (gLM tw9_3 gx204 gx205 gx206) rfl rfl rfl (by decide +kernel) ⟨(Nat.le_of_ble_eq_true rfl), (Nat.le_of_ble_eq_true rfl)⟩) (lc_pM (va_P.right hP) (va_D.right hD) hKm) rfl rfl hl.1 rfl (lv_room (Nat.le_of_ble_eq_true rfl)) dl_1061 ⟨(show cells + 3 + 0 ≤ 601024 by omega), (show slots + 18 + 0 ≤ 7293034 by omega)⟩) hP hD hS hA (fun H locs hP hD hS => ?_)
  refine lv_aload_n hx hb dl_1064 rfl (lv_at hl 3 rfl) ?_
  refine rc_i (W.runV (As := []) (rest := []) ⟨hx, hb, hml, hown, hts⟩ (c_M_thrown l dC dI am cJ cZ (f_M_widen r w t (xs (i + 1)) (xs (i + 2)) (xs (i + 3))).1 (f_M_widen r w t (xs (i + 1)) (xs (i + 2)) (xs (i + 3))).2.1 (f_M_widen r w t (xs (i + 1)) (xs (i + 2)) (xs (i + 3))).2.2.1 (f_M_widen r w t (xs (i + 1)) (xs (i + 2)) (xs (i + 3))).2.2.2) (cwV 0 hts (gLM tw9_4 gx30 gx31 gx32) rfl rfl rfl (by decide +kernel) ⟨(Nat.le_of_ble_eq_true rfl), (Nat.le_of_ble_eq_true rfl)⟩) (lc_pR (va_P.right hP) hKm) rfl rfl hl.1 rfl (lv_room (Nat.le_of_ble_eq_true rfl)) dl_1065 ⟨(show cells + 3 + 0 + 0 ≤ 601024 by omega), (show slots + 18 + 0 + 0 ≤ 7293034 by omega)⟩) ?_
  obtain ⟨h1, h2, h3, h4⟩ := link_widen hI t x y z (xs (i + 1)) (xs (i + 2)) (xs (i + 3))
  refine lv_iload hx hb dl_1068 (lv_at hl 0 rfl) ?_
  refine lv_icmp_eq (tgt := 1075) hx hb dl_1070 (by decide) (fun _ => ?_) (fun hz => absurd (show f_M_thrown ((f_M_widen r w t (xs (i + 1)) (xs (i + 2)) (xs (i + 3))).1) = (f_S_widen v w t x y z (xs (i + 1)) (xs (i + 2)) (xs (i + 3))).1 from h1) hz)
  refine lv_goto (tgt := 1716) hx hb dl_1075 (by decide) ?_
  rw [h3, h4] at hP hD
  refine W.widen (k := cells + 4) (n := slots + 24) (by omega) (by omega) ?_
  exact kk _ _ _ _ _ _ _ _ _ _ _ ls ⟨h2, hP, hD, hS⟩ (lv_sub hl [1, 2, 3, 4, 5] rfl)
