/-! the law: decided -/
theorem dl_1165 : decode code 1165 = .ok (.aload_n 1, 1) := by decide +kernel
theorem dl_1166 : decode code 1166 = .ok (.aload_n 0, 1) := by decide +kernel
theorem dl_1167 : decode code 1167 = .ok (.iload 4, 2) := by decide +kernel
theorem dl_1169 : decode code 1169 = .ok (.iconst 1, 1) := by decide +kernel
theorem dl_1170 : decode code 1170 = .ok (.iadd, 1) := by decide +kernel
theorem dl_1171 : decode code 1171 = .ok (.iaload, 1) := by decide +kernel
theorem dl_1172 : decode code 1172 = .ok (.aload_n 0, 1) := by decide +kernel
theorem dl_1173 : decode code 1173 = .ok (.iload 4, 2) := by decide +kernel
theorem dl_1175 : decode code 1175 = .ok (.iconst 2, 1) := by decide +kernel
theorem dl_1176 : decode code 1176 = .ok (.iadd, 1) := by decide +kernel
theorem dl_1177 : decode code 1177 = .ok (.iaload, 1) := by decide +kernel
theorem dl_1178 : decode code 1178 = .ok (.aload_n 0, 1) := by decide +kernel
theorem dl_1179 : decode code 1179 = .ok (.iload 4, 2) := by decide +kernel
theorem dl_1181 : decode code 1181 = .ok (.iconst 3, 1) := by decide +kernel
theorem dl_1182 : decode code 1182 = .ok (.iadd, 1) := by decide +kernel
theorem dl_1183 : decode code 1183 = .ok (.iaload, 1) := by decide +kernel
theorem dl_1184 : decode code 1184 = .ok (.aload_n 3, 1) := by decide +kernel
theorem dl_1185 : decode code 1185 = .ok (.invokestatic 131, 3) := by decide +kernel
theorem dl_1188 : decode code 1188 = .ok (.istore 5, 2) := by decide +kernel
theorem dl_1190 : decode code 1190 = .ok (.aload_n 2, 1) := by decide +kernel
theorem dl_1191 : decode code 1191 = .ok (.aload_n 0, 1) := by decide +kernel
theorem dl_1192 : decode code 1192 = .ok (.iload 4, 2) := by decide +kernel
theorem dl_1194 : decode code 1194 = .ok (.iconst 1, 1) := by decide +kernel
theorem dl_1195 : decode code 1195 = .ok (.iadd, 1) := by decide +kernel
theorem dl_1196 : decode code 1196 = .ok (.iaload, 1) := by decide +kernel
theorem dl_1197 : decode code 1197 = .ok (.aload_n 0, 1) := by decide +kernel
theorem dl_1198 : decode code 1198 = .ok (.iload 4, 2) := by decide +kernel
theorem dl_1200 : decode code 1200 = .ok (.iconst 2, 1) := by decide +kernel
theorem dl_1201 : decode code 1201 = .ok (.iadd, 1) := by decide +kernel
theorem dl_1202 : decode code 1202 = .ok (.iaload, 1) := by decide +kernel
theorem dl_1203 : decode code 1203 = .ok (.aload_n 0, 1) := by decide +kernel
theorem dl_1204 : decode code 1204 = .ok (.iload 4, 2) := by decide +kernel
theorem dl_1206 : decode code 1206 = .ok (.iconst 3, 1) := by decide +kernel
theorem dl_1207 : decode code 1207 = .ok (.iadd, 1) := by decide +kernel
theorem dl_1208 : decode code 1208 = .ok (.iaload, 1) := by decide +kernel
theorem dl_1209 : decode code 1209 = .ok (.invokevirtual 133, 3) := by decide +kernel
theorem dl_1212 : decode code 1212 = .ok (.istore 6, 2) := by decide +kernel
theorem dl_1214 : decode code 1214 = .ok (.aload_n 2, 1) := by decide +kernel
theorem dl_1215 : decode code 1215 = .ok (.invokevirtual 91, 3) := by decide +kernel
theorem dl_1218 : decode code 1218 = .ok (.iload 5, 2) := by decide +kernel
theorem dl_1220 : decode code 1220 = .ok (.if_icmp .eq 5, 3) := by decide +kernel
theorem dl_1223 : decode code 1223 = .ok (.iconst 0, 1) := by decide +kernel
theorem dl_1224 : decode code 1224 = .ok (.ireturn, 1) := by decide +kernel
theorem dl_1225 : decode code 1225 = .ok (.iload 5, 2) := by decide +kernel
theorem dl_1227 : decode code 1227 = .ok (.ifCond .ne 15, 3) := by decide +kernel
theorem dl_1230 : decode code 1230 = .ok (.aload_n 3, 1) := by decide +kernel
theorem dl_1231 : decode code 1231 = .ok (.iconst 0, 1) := by decide +kernel
theorem dl_1232 : decode code 1232 = .ok (.laload, 1) := by decide +kernel
theorem dl_1233 : decode code 1233 = .ok (.iload 6, 2) := by decide +kernel
theorem dl_1235 : decode code 1235 = .ok (.i2l, 1) := by decide +kernel
theorem dl_1236 : decode code 1236 = .ok (.lcmp, 1) := by decide +kernel
theorem dl_1237 : decode code 1237 = .ok (.ifCond .eq 5, 3) := by decide +kernel
theorem dl_1240 : decode code 1240 = .ok (.iconst 0, 1) := by decide +kernel
theorem dl_1241 : decode code 1241 = .ok (.ireturn, 1) := by decide +kernel
theorem dl_1242 : decode code 1242 = .ok (.goto 474, 3) := by decide +kernel
set_option maxRecDepth 100000 in
theorem tw11_0 : Cond.methodLink R_L 131 y_L_decided ∈ lw_tbl := List.mem_of_getElem? (i := 562) rfl
set_option maxRecDepth 100000 in
theorem tw11_1 : Cond.static y_L_decided ∈ lw_tbl := List.mem_of_getElem? (i := 563) rfl
set_option maxRecDepth 100000 in
theorem tw11_2 : Cond.codeWith y_L_decided b_L_decided 6 (some .int) [(0, 12, 15, 13), (0, 12, 19, 22)] ∈ lw_tbl := List.mem_of_getElem? (i := 564) rfl
set_option maxRecDepth 100000 in
theorem tw11_3 : Cond.methodLink R_L 133 y_M_decided ∈ lw_tbl := List.mem_of_getElem? (i := 922) rfl
set_option maxRecDepth 100000 in
theorem tw11_4 : Cond.methodLink R_L 91 y_M_thrown ∈ lw_tbl := List.mem_of_getElem? (i := 657) rfl
set_option maxRecDepth 100000 in
set_option maxHeartbeats 4000000 in
theorem law_decided {p : Program} {l : Launch} {e : Env} {s : State} {m : MethodId} {below : List Frame} {meth : Method} {c : Code} {b L : Nat} {xs : Nat → Int32} {dC : Nat → ClassId} {dI : Nat → Nat → Nat} {cQ cJ cZ : ClassId} {ad am : Nat → Nat} {oa i cells slots : Nat} {Q : State → Prop} {v : Nat → VV} {w : Nat → Int64} {t : Int32} {x y z : VV} {o : Nat → Int64} {c0 : Int32} {r : Nat → VV} {H : Heap} {locs : List Loc} {ls : Array Slot} (E : LE l p s m c b L xs dC dI cQ cJ cZ) (hi : i + 9 ≤ L) (hc1 : cells + 4 ≤ 601024) (hc2 : slots + 24 ≤ 7293034) (I : LI s dC dI cQ cJ cZ ad am oa v w t x y z o c0 r H locs) (hl : LL ls b ad am oa i) (kk : LK p l e s m below meth c b dC dI cQ cJ cZ ad am oa i cells slots Q) : W p l e room_1 s m #[Value.ref b] below meth c H locs cells slots Q (F0 m 1165 ls []) := by
  obtain ⟨hx, hb, hml, hown, hts, hX, hbl, hL, hlt, hQ, hNc, hKs, hKm⟩ := E
  obtain ⟨hI, hP, hD, hS⟩ := I
  have hA : ∀ q : Nat, s.heap.size ≤ q → (fun q : Nat => s.heap.size ≤ q) q := fun _ h => h
  have hbA : ¬ (fun q : Nat => s.heap.size ≤ q) b := Nat.not_le.mpr hbl
  have hl : lv_has ls 8 [(0, .ref b), (1, .ref (ad 0)), (2, .ref (am 0)), (3, .ref oa), (4, .int (nI i))] := hl
  refine lv_aload_n hx hb dl_1165 rfl (lv_at hl 1 rfl) ?_
  refine ls_rd (j := 1) hx hb hX hbl hbA hS hL (lv_at hl 0 rfl) (lv_at hl 4 rfl) (by omega) (by decide) dl_1166 dl_1167 dl_1169 dl_1170 dl_1171 ?_
  refine ls_rd (j := 2) hx hb hX hbl hbA hS hL (lv_at hl 0 rfl) (lv_at hl 4 rfl) (by omega) (by decide) dl_1172 dl_1173 dl_1175 dl_1176 dl_1177 ?_
  refine ls_rd (j := 3) hx hb hX hbl hbA hS hL (lv_at hl 0 rfl) (lv_at hl 4 rfl) (by omega) (by decide) dl_1178 dl_1179 dl_1181 dl_1182 dl_1183 ?_
  refine lv_aload_n hx hb dl_1184 rfl (lv_at hl 3 rfl) ?_
  have hP : va_P (dC, dI) classes ((sW ad cQ cJ v w t x y z ++ [(oa, .inl (cJ, 1, .inr (.inl o)))]) ++ mW am cJ cZ c0 r w t) H := hP
  have hD : va_D (fun q : Nat => s.heap.size ≤ q) ((sW ad cQ cJ v w t x y z ++ [(oa, .inl (cJ, 1, .inr (.inl o)))]) ++ mW am cJ cZ c0 r w t) := hD
  refine lc_S (vx_runSW (As := [.ref (ad 0), .int (xs (i + 1)), .int (xs (i + 2)), .int (xs (i + 3)), .ref oa]) (rest := []) ⟨hx, hb, hml, hown, hts⟩ (c_L_decided l hlt dC dI ad cQ cJ H.size v w t x y z (xs (i + 1)) (xs (i + 2)) (xs (i + 3)) oa o) (vx_cwSW 5 hts (gLS rfl tw11_0 tw11_1 tw11_2) rfl rfl rfl (by decide +kernel) ⟨(Nat.le_of_ble_eq_true rfl), (Nat.le_of_ble_eq_true rfl)⟩) (lc_pS (va_P.left hP) (va_D.left hD) hS hA hKs hQ hNc) rfl rfl hl.1 rfl (lv_room (Nat.le_of_ble_eq_true rfl)) dl_1185 ⟨(show cells + 3 ≤ 601024 by omega), (show slots + 18 ≤ 7293034 by omega)⟩) hP hD hS hA (fun H locs hP hD hS => ?_)
  refine lv_istore (lv' := [(5, .int (f_S_decided v w t x y z (xs (i + 1)) (xs (i + 2)) (xs (i + 3))).1), (0, .ref b), (1, .ref (ad 0)), (2, .ref (am 0)), (3, .ref oa), (4, .int (nI i))]) hx hb dl_1188 hl (by decide) rfl (fun ls hl => ?_)
  refine lv_aload_n hx hb dl_1190 rfl (lv_at hl 3 rfl) ?_
  refine ls_rd (j := 1) hx hb hX hbl hbA hS hL (lv_at hl 1 rfl) (lv_at hl 5 rfl) (by omega) (by decide) dl_1191 dl_1192 dl_1194 dl_1195 dl_1196 ?_
  refine ls_rd (j := 2) hx hb hX hbl hbA hS hL (lv_at hl 1 rfl) (lv_at hl 5 rfl) (by omega) (by decide) dl_1197 dl_1198 dl_1200 dl_1201 dl_1202 ?_
  refine ls_rd (j := 3) hx hb hX hbl hbA hS hL (lv_at hl 1 rfl) (lv_at hl 5 rfl) (by omega) (by decide) dl_1203 dl_1204 dl_1206 dl_1207 dl_1208 ?_
  refine lc_Mi (va_runV (As := [.int (xs (i + 1)), .int (xs (i + 2)), .int (xs (i + 3))]) (rest := []) ⟨hx, hb, hml, hown, hts⟩ (c_M_decided l dC dI am cJ cZ H.size c0 r w t (xs (i + 1)) (xs (i + 2)) (xs (i + 3))) (cwV 3 hts (gLM tw11_3 gx243 gx244 gx245) rfl rfl rfl (by decide +kernel) ⟨(Nat.le_of_ble_eq_true rfl), (Nat.le_of_ble_eq_true rfl)⟩) (lc_pM (va_P.right hP) (va_D.right hD) hKm) rfl rfl hl.1 rfl (lv_room (Nat.le_of_ble_eq_true rfl)) dl_1209 ⟨(show cells + 3 + 0 ≤ 601024 by omega), (show slots + 18 + 0 ≤ 7293034 by omega)⟩) hP hD hS hA (fun H locs hP hD hS => ?_)
  refine lv_istore (lv' := [(6, .int (f_M_decided r (xs (i + 1)) (xs (i + 2)) (xs (i + 3))).1), (5, .int (f_S_decided v w t x y z (xs (i + 1)) (xs (i + 2)) (xs (i + 3))).1), (0, .ref b), (1, .ref (ad 0)), (2, .ref (am 0)), (3, .ref oa), (4, .int (nI i))]) hx hb dl_1212 hl (by decide) rfl (fun ls hl => ?_)
  refine lv_aload_n hx hb dl_1214 rfl (lv_at hl 4 rfl) ?_
  refine rc_i (W.runV (As := []) (rest := []) ⟨hx, hb, hml, hown, hts⟩ (c_M_thrown l dC dI am cJ cZ (f_M_decided r (xs (i + 1)) (xs (i + 2)) (xs (i + 3))).2.1 (f_M_decided r (xs (i + 1)) (xs (i + 2)) (xs (i + 3))).2.2 w t) (cwV 0 hts (gLM tw11_4 gx30 gx31 gx32) rfl rfl rfl (by decide +kernel) ⟨(Nat.le_of_ble_eq_true rfl), (Nat.le_of_ble_eq_true rfl)⟩) (lc_pR (va_P.right hP) hKm) rfl rfl hl.1 rfl (lv_room (Nat.le_of_ble_eq_true rfl)) dl_1215 ⟨(show cells + 3 + 0 + 0 ≤ 601024 by omega), (show slots + 18 + 0 + 0 ≤ 7293034 by omega)⟩) ?_
  obtain ⟨h1, h2, h3, h4, h5, h6⟩ := link_decided hI t x y z (xs (i + 1)) (xs (i + 2)) (xs (i + 3))
  refine lv_iload hx hb dl_1218 (lv_at hl 1 rfl) ?_
  refine lv_icmp_eq (tgt := 1225) hx hb dl_1220 (by decide) (fun _ => ?_) (fun hz => absurd (show f_M_thrown ((f_M_decided r (xs (i + 1)) (xs (i + 2)) (xs (i + 3))).2.1) = (f_S_decided v w t x y z (xs (i + 1)) (xs (i + 2)) (xs (i + 3))).1 from h1) hz)
  refine lv_iload hx hb dl_1225 (lv_at hl 1 rfl) ?_
  have hE : W p l e room_1 s m #[Value.ref b] below meth c H locs (cells + 3 + 0) (slots + 18 + 0) Q (F0 m 1242 ls []) := by
    refine lv_goto (tgt := 1716) hx hb dl_1242 (by decide) ?_
    rw [h4, h5, h6] at hP hD
    refine W.widen (k := cells + 4) (n := slots + 24) (by omega) (by omega) ?_
    exact kk _ _ _ _ _ _ _ _ _ _ _ ls ⟨h3, hP, hD, hS⟩ (lv_sub hl [2, 3, 4, 5, 6] rfl)
  refine lv_if_ne (tgt := 1242) hx hb dl_1227 (by decide) (fun _ => hE) (fun h0 => ?_)
  refine lv_aload_n hx hb dl_1230 rfl (lv_at hl 5 rfl) ?_
  refine lv_iconst (v := 0) hx hb dl_1231 (by decide) ?_
  refine va_lald hx hb hKs hP 22 1 rfl rfl (show vp_in 0 1 by unfold vp_in; decide) dl_1232 ?_
  rw [if_pos h0, upd0]
  refine lv_iload hx hb dl_1233 (lv_at hl 0 rfl) ?_
  refine lv_i2l hx hb dl_1235 rfl ?_
  refine W.lcmp hx hb dl_1236 ?_
  exact lv_if_eq (tgt := 1242) hx hb dl_1237 (by decide) (fun _ => hE) (fun hz => absurd ((lg_eq0 _ _).mpr (by rw [h2 h0])) hz)
