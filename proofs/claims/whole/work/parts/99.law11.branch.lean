/-! the law: branch -/
theorem dl_1078 : decode code 1078 = .ok (.aload_n 1, 1) := by decide +kernel
theorem dl_1079 : decode code 1079 = .ok (.aload_n 0, 1) := by decide +kernel
theorem dl_1080 : decode code 1080 = .ok (.iload 4, 2) := by decide +kernel
theorem dl_1082 : decode code 1082 = .ok (.iconst 1, 1) := by decide +kernel
theorem dl_1083 : decode code 1083 = .ok (.iadd, 1) := by decide +kernel
theorem dl_1084 : decode code 1084 = .ok (.iaload, 1) := by decide +kernel
theorem dl_1085 : decode code 1085 = .ok (.aload_n 0, 1) := by decide +kernel
theorem dl_1086 : decode code 1086 = .ok (.iload 4, 2) := by decide +kernel
theorem dl_1088 : decode code 1088 = .ok (.iconst 2, 1) := by decide +kernel
theorem dl_1089 : decode code 1089 = .ok (.iadd, 1) := by decide +kernel
theorem dl_1090 : decode code 1090 = .ok (.iaload, 1) := by decide +kernel
theorem dl_1091 : decode code 1091 = .ok (.aload_n 0, 1) := by decide +kernel
theorem dl_1092 : decode code 1092 = .ok (.iload 4, 2) := by decide +kernel
theorem dl_1094 : decode code 1094 = .ok (.iconst 3, 1) := by decide +kernel
theorem dl_1095 : decode code 1095 = .ok (.iadd, 1) := by decide +kernel
theorem dl_1096 : decode code 1096 = .ok (.iaload, 1) := by decide +kernel
theorem dl_1097 : decode code 1097 = .ok (.aload_n 3, 1) := by decide +kernel
theorem dl_1098 : decode code 1098 = .ok (.invokestatic 127, 3) := by decide +kernel
theorem dl_1101 : decode code 1101 = .ok (.istore 5, 2) := by decide +kernel
theorem dl_1103 : decode code 1103 = .ok (.aload_n 2, 1) := by decide +kernel
theorem dl_1104 : decode code 1104 = .ok (.aload_n 0, 1) := by decide +kernel
theorem dl_1105 : decode code 1105 = .ok (.iload 4, 2) := by decide +kernel
theorem dl_1107 : decode code 1107 = .ok (.iconst 1, 1) := by decide +kernel
theorem dl_1108 : decode code 1108 = .ok (.iadd, 1) := by decide +kernel
theorem dl_1109 : decode code 1109 = .ok (.iaload, 1) := by decide +kernel
theorem dl_1110 : decode code 1110 = .ok (.aload_n 0, 1) := by decide +kernel
theorem dl_1111 : decode code 1111 = .ok (.iload 4, 2) := by decide +kernel
theorem dl_1113 : decode code 1113 = .ok (.iconst 2, 1) := by decide +kernel
theorem dl_1114 : decode code 1114 = .ok (.iadd, 1) := by decide +kernel
theorem dl_1115 : decode code 1115 = .ok (.iaload, 1) := by decide +kernel
theorem dl_1116 : decode code 1116 = .ok (.aload_n 0, 1) := by decide +kernel
theorem dl_1117 : decode code 1117 = .ok (.iload 4, 2) := by decide +kernel
theorem dl_1119 : decode code 1119 = .ok (.iconst 3, 1) := by decide +kernel
theorem dl_1120 : decode code 1120 = .ok (.iadd, 1) := by decide +kernel
theorem dl_1121 : decode code 1121 = .ok (.iaload, 1) := by decide +kernel
theorem dl_1122 : decode code 1122 = .ok (.invokevirtual 130, 3) := by decide +kernel
theorem dl_1125 : decode code 1125 = .ok (.istore 6, 2) := by decide +kernel
theorem dl_1127 : decode code 1127 = .ok (.aload_n 2, 1) := by decide +kernel
theorem dl_1128 : decode code 1128 = .ok (.invokevirtual 91, 3) := by decide +kernel
theorem dl_1131 : decode code 1131 = .ok (.iload 5, 2) := by decide +kernel
theorem dl_1133 : decode code 1133 = .ok (.if_icmp .eq 5, 3) := by decide +kernel
theorem dl_1136 : decode code 1136 = .ok (.iconst 0, 1) := by decide +kernel
theorem dl_1137 : decode code 1137 = .ok (.ireturn, 1) := by decide +kernel
theorem dl_1138 : decode code 1138 = .ok (.iload 5, 2) := by decide +kernel
theorem dl_1140 : decode code 1140 = .ok (.ifCond .ne 22, 3) := by decide +kernel
theorem dl_1143 : decode code 1143 = .ok (.aload_n 3, 1) := by decide +kernel
theorem dl_1144 : decode code 1144 = .ok (.iconst 0, 1) := by decide +kernel
theorem dl_1145 : decode code 1145 = .ok (.laload, 1) := by decide +kernel
theorem dl_1146 : decode code 1146 = .ok (.iload 6, 2) := by decide +kernel
theorem dl_1148 : decode code 1148 = .ok (.ifCond .eq 7, 3) := by decide +kernel
theorem dl_1151 : decode code 1151 = .ok (.lconst 1, 1) := by decide +kernel
theorem dl_1152 : decode code 1152 = .ok (.goto 4, 3) := by decide +kernel
theorem dl_1155 : decode code 1155 = .ok (.lconst 0, 1) := by decide +kernel
theorem dl_1156 : decode code 1156 = .ok (.lcmp, 1) := by decide +kernel
theorem dl_1157 : decode code 1157 = .ok (.ifCond .eq 5, 3) := by decide +kernel
theorem dl_1160 : decode code 1160 = .ok (.iconst 0, 1) := by decide +kernel
theorem dl_1161 : decode code 1161 = .ok (.ireturn, 1) := by decide +kernel
theorem dl_1162 : decode code 1162 = .ok (.goto 554, 3) := by decide +kernel
set_option maxRecDepth 100000 in
theorem tw10_0 : Cond.methodLink R_L 127 y_L_branch ∈ lw_tbl := List.mem_of_getElem? (i := 499) rfl
set_option maxRecDepth 100000 in
theorem tw10_1 : Cond.static y_L_branch ∈ lw_tbl := List.mem_of_getElem? (i := 500) rfl
set_option maxRecDepth 100000 in
theorem tw10_2 : Cond.codeWith y_L_branch b_L_branch 6 (some .int) [(0, 19, 22, 13), (0, 19, 26, 22)] ∈ lw_tbl := List.mem_of_getElem? (i := 501) rfl
set_option maxRecDepth 100000 in
theorem tw10_3 : Cond.methodLink R_L 130 y_M_branch ∈ lw_tbl := List.mem_of_getElem? (i := 877) rfl
set_option maxRecDepth 100000 in
theorem tw10_4 : Cond.methodLink R_L 91 y_M_thrown ∈ lw_tbl := List.mem_of_getElem? (i := 657) rfl
set_option maxRecDepth 100000 in
set_option maxHeartbeats 4000000 in
theorem law_branch {p : Program} {l : Launch} {e : Env} {s : State} {m : MethodId} {below : List Frame} {meth : Method} {c : Code} {b L : Nat} {xs : Nat → Int32} {dC : Nat → ClassId} {dI : Nat → Nat → Nat} {cQ cJ cZ : ClassId} {ad am : Nat → Nat} {oa i cells slots : Nat} {Q : State → Prop} {v : Nat → VV} {w : Nat → Int64} {t : Int32} {x y z : VV} {o : Nat → Int64} {c0 : Int32} {r : Nat → VV} {H : Heap} {locs : List Loc} {ls : Array Slot} (E : LE l p s m c b L xs dC dI cQ cJ cZ) (hi : i + 9 ≤ L) (hc1 : cells + 4 ≤ 601024) (hc2 : slots + 24 ≤ 7293034) (I : LI s dC dI cQ cJ cZ ad am oa v w t x y z o c0 r H locs) (hl : LL ls b ad am oa i) (kk : LK p l e s m below meth c b dC dI cQ cJ cZ ad am oa i cells slots Q) : W p l e room_1 s m #[Value.ref b] below meth c H locs cells slots Q (F0 m 1078 ls []) := by
  obtain ⟨hx, hb, hml, hown, hts, hX, hbl, hL, hlt, hQ, hNc, hKs, hKm⟩ := E
  obtain ⟨hI, hP, hD, hS⟩ := I
  have hA : ∀ q : Nat, s.heap.size ≤ q → (fun q : Nat => s.heap.size ≤ q) q := fun _ h => h
  have hbA : ¬ (fun q : Nat => s.heap.size ≤ q) b := Nat.not_le.mpr hbl
  have hl : lv_has ls 8 [(0, .ref b), (1, .ref (ad 0)), (2, .ref (am 0)), (3, .ref oa), (4, .int (nI i))] := hl
  refine lv_aload_n hx hb dl_1078 rfl (lv_at hl 1 rfl) ?_
  refine ls_rd (j := 1) hx hb hX hbl hbA hS hL (lv_at hl 0 rfl) (lv_at hl 4 rfl) (by omega) (by decide) dl_1079 dl_1080 dl_1082 dl_1083 dl_1084 ?_
  refine ls_rd (j := 2) hx hb hX hbl hbA hS hL (lv_at hl 0 rfl) (lv_at hl 4 rfl) (by omega) (by decide) dl_1085 dl_1086 dl_1088 dl_1089 dl_1090 ?_
  refine ls_rd (j := 3) hx hb hX hbl hbA hS hL (lv_at hl 0 rfl) (lv_at hl 4 rfl) (by omega) (by decide) dl_1091 dl_1092 dl_1094 dl_1095 dl_1096 ?_
  refine lv_aload_n hx hb dl_1097 rfl (lv_at hl 3 rfl) ?_
  have hP : va_P (dC, dI) classes ((sW ad cQ cJ v w t x y z ++ [(oa, .inl (cJ, 1, .inr (.inl o)))]) ++ mW am cJ cZ c0 r w t) H := hP
  have hD : va_D (fun q : Nat => s.heap.size ≤ q) ((sW ad cQ cJ v w t x y z ++ [(oa, .inl (cJ, 1, .inr (.inl o)))]) ++ mW am cJ cZ c0 r w t) := hD
  refine lc_S (vx_runSW (As := [.ref (ad 0), .int (xs (i + 1)), .int (xs (i + 2)), .int (xs (i + 3)), .ref oa]) (rest := []) ⟨hx, hb, hml, hown, hts⟩ (c_L_branch l hlt dC dI ad cQ cJ H.size v w t x y z (xs (i + 1)) (xs (i + 2)) (xs (i + 3)) oa o) (vx_cwSW 5 hts (gLS rfl tw10_0 tw10_1 tw10_2) rfl rfl rfl (by decide +kernel) ⟨(Nat.le_of_ble_eq_true rfl), (Nat.le_of_ble_eq_true rfl)⟩) (lc_pS (va_P.left hP) (va_D.left hD) hS hA hKs hQ hNc) rfl rfl hl.1 rfl (lv_room (Nat.le_of_ble_eq_true rfl)) dl_1098 ⟨(show cells + 3 ≤ 601024 by omega), (show slots + 18 ≤ 7293034 by omega)⟩) hP hD hS hA (fun H locs hP hD hS => ?_)
  refine lv_istore (lv' := [(5, .int (f_S_branch v w t x y z (xs (i + 1)) (xs (i + 2)) (xs (i + 3))).1), (0, .ref b), (1, .ref (ad 0)), (2, .ref (am 0)), (3, .ref oa), (4, .int (nI i))]) hx hb dl_1101 hl (by decide) rfl (fun ls hl => ?_)
  refine lv_aload_n hx hb dl_1103 rfl (lv_at hl 3 rfl) ?_
  refine ls_rd (j := 1) hx hb hX hbl hbA hS hL (lv_at hl 1 rfl) (lv_at hl 5 rfl) (by omega) (by decide) dl_1104 dl_1105 dl_1107 dl_1108 dl_1109 ?_
  refine ls_rd (j := 2) hx hb hX hbl hbA hS hL (lv_at hl 1 rfl) (lv_at hl 5 rfl) (by omega) (by decide) dl_1110 dl_1111 dl_1113 dl_1114 dl_1115 ?_
  refine ls_rd (j := 3) hx hb hX hbl hbA hS hL (lv_at hl 1 rfl) (lv_at hl 5 rfl) (by omega) (by decide) dl_1116 dl_1117 dl_1119 dl_1120 dl_1121 ?_
  refine lc_Mi (va_runV (As := [.int (xs (i + 1)), .int (xs (i + 2)), .int (xs (i + 3))]) (rest := []) ⟨hx, hb, hml, hown, hts⟩ (c_M_branch l dC dI am cJ cZ H.size c0 r w t (xs (i + 1)) (xs (i + 2)) (xs (i + 3))) (cwV 3 hts (gLM tw10_3 gx207 gx208 gx209) rfl rfl rfl (by decide +kernel) ⟨(Nat.le_of_ble_eq_true rfl), (Nat.le_of_ble_eq_true rfl)⟩) (lc_pM (va_P.right hP) (va_D.right hD) hKm) rfl rfl hl.1 rfl (lv_room (Nat.le_of_ble_eq_true rfl)) dl_1122 ⟨(show cells + 3 + 0 ≤ 601024 by omega), (show slots + 18 + 0 ≤ 7293034 by omega)⟩) hP hD hS hA (fun H locs hP hD hS => ?_)
  refine lv_istore (lv' := [(6, .int (bI (f_M_branch r w t (xs (i + 1)) (xs (i + 2)) (xs (i + 3))).1)), (5, .int (f_S_branch v w t x y z (xs (i + 1)) (xs (i + 2)) (xs (i + 3))).1), (0, .ref b), (1, .ref (ad 0)), (2, .ref (am 0)), (3, .ref oa), (4, .int (nI i))]) hx hb dl_1125 hl (by decide) rfl (fun ls hl => ?_)
  refine lv_aload_n hx hb dl_1127 rfl (lv_at hl 4 rfl) ?_
  refine rc_i (W.runV (As := []) (rest := []) ⟨hx, hb, hml, hown, hts⟩ (c_M_thrown l dC dI am cJ cZ (f_M_branch r w t (xs (i + 1)) (xs (i + 2)) (xs (i + 3))).2.1 (f_M_branch r w t (xs (i + 1)) (xs (i + 2)) (xs (i + 3))).2.2.1 (f_M_branch r w t (xs (i + 1)) (xs (i + 2)) (xs (i + 3))).2.2.2.1 (f_M_branch r w t (xs (i + 1)) (xs (i + 2)) (xs (i + 3))).2.2.2.2) (cwV 0 hts (gLM tw10_4 gx30 gx31 gx32) rfl rfl rfl (by decide +kernel) ⟨(Nat.le_of_ble_eq_true rfl), (Nat.le_of_ble_eq_true rfl)⟩) (lc_pR (va_P.right hP) hKm) rfl rfl hl.1 rfl (lv_room (Nat.le_of_ble_eq_true rfl)) dl_1128 ⟨(show cells + 3 + 0 + 0 ≤ 601024 by omega), (show slots + 18 + 0 + 0 ≤ 7293034 by omega)⟩) ?_
  obtain ⟨h1, h2, h3, h4, h5⟩ := link_branch hI t x y z (xs (i + 1)) (xs (i + 2)) (xs (i + 3))
  refine lv_iload hx hb dl_1131 (lv_at hl 1 rfl) ?_
  refine lv_icmp_eq (tgt := 1138) hx hb dl_1133 (by decide) (fun _ => ?_) (fun hz => absurd (show f_M_thrown ((f_M_branch r w t (xs (i + 1)) (xs (i + 2)) (xs (i + 3))).2.1) = (f_S_branch v w t x y z (xs (i + 1)) (xs (i + 2)) (xs (i + 3))).1 from h1) hz)
  refine lv_iload hx hb dl_1138 (lv_at hl 1 rfl) ?_
  have hE : W p l e room_1 s m #[Value.ref b] below meth c H locs (cells + 3 + 0) (slots + 18 + 0) Q (F0 m 1162 ls []) := by
    refine lv_goto (tgt := 1716) hx hb dl_1162 (by decide) ?_
    rw [h4, h5] at hP hD
    refine W.widen (k := cells + 4) (n := slots + 24) (by omega) (by omega) ?_
    exact kk _ _ _ _ _ _ _ _ _ _ _ ls ⟨h3, hP, hD, hS⟩ (lv_sub hl [2, 3, 4, 5, 6] rfl)
  refine lv_if_ne (tgt := 1162) hx hb dl_1140 (by decide) (fun _ => hE) (fun h0 => ?_)
  refine lv_aload_n hx hb dl_1143 rfl (lv_at hl 5 rfl) ?_
  refine lv_iconst (v := 0) hx hb dl_1144 (by decide) ?_
  refine va_lald hx hb hKs hP 22 1 rfl rfl (show vp_in 0 1 by unfold vp_in; decide) dl_1145 ?_
  rw [if_pos h0, upd0]
  refine lv_iload hx hb dl_1146 (lv_at hl 0 rfl) ?_
  refine ls_bit hx hb dl_1148 dl_1151 dl_1152 dl_1155 ?_
  refine W.lcmp hx hb dl_1156 ?_
  exact lv_if_eq (tgt := 1162) hx hb dl_1157 (by decide) (fun _ => hE) (fun hz => absurd ((lg_eq0 _ _).mpr (by rw [h2 h0])) hz)
