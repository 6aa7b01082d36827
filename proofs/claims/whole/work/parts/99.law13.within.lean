/-! the law: within -/
theorem dl_1245 : decode code 1245 = .ok (.aload_n 1, 1) := by decide +kernel
theorem dl_1246 : decode code 1246 = .ok (.aload_n 0, 1) := by decide +kernel
theorem dl_1247 : decode code 1247 = .ok (.iload 4, 2) := by decide +kernel
theorem dl_1249 : decode code 1249 = .ok (.iconst 1, 1) := by decide +kernel
theorem dl_1250 : decode code 1250 = .ok (.iadd, 1) := by decide +kernel
theorem dl_1251 : decode code 1251 = .ok (.iaload, 1) := by decide +kernel
theorem dl_1252 : decode code 1252 = .ok (.aload_n 0, 1) := by decide +kernel
theorem dl_1253 : decode code 1253 = .ok (.iload 4, 2) := by decide +kernel
theorem dl_1255 : decode code 1255 = .ok (.iconst 2, 1) := by decide +kernel
theorem dl_1256 : decode code 1256 = .ok (.iadd, 1) := by decide +kernel
theorem dl_1257 : decode code 1257 = .ok (.iaload, 1) := by decide +kernel
theorem dl_1258 : decode code 1258 = .ok (.aload_n 3, 1) := by decide +kernel
theorem dl_1259 : decode code 1259 = .ok (.invokestatic 134, 3) := by decide +kernel
theorem dl_1262 : decode code 1262 = .ok (.istore 5, 2) := by decide +kernel
theorem dl_1264 : decode code 1264 = .ok (.aload_n 2, 1) := by decide +kernel
theorem dl_1265 : decode code 1265 = .ok (.aload_n 0, 1) := by decide +kernel
theorem dl_1266 : decode code 1266 = .ok (.iload 4, 2) := by decide +kernel
theorem dl_1268 : decode code 1268 = .ok (.iconst 1, 1) := by decide +kernel
theorem dl_1269 : decode code 1269 = .ok (.iadd, 1) := by decide +kernel
theorem dl_1270 : decode code 1270 = .ok (.iaload, 1) := by decide +kernel
theorem dl_1271 : decode code 1271 = .ok (.aload_n 0, 1) := by decide +kernel
theorem dl_1272 : decode code 1272 = .ok (.iload 4, 2) := by decide +kernel
theorem dl_1274 : decode code 1274 = .ok (.iconst 2, 1) := by decide +kernel
theorem dl_1275 : decode code 1275 = .ok (.iadd, 1) := by decide +kernel
theorem dl_1276 : decode code 1276 = .ok (.iaload, 1) := by decide +kernel
theorem dl_1277 : decode code 1277 = .ok (.invokevirtual 137, 3) := by decide +kernel
theorem dl_1280 : decode code 1280 = .ok (.istore 6, 2) := by decide +kernel
theorem dl_1282 : decode code 1282 = .ok (.aload_n 2, 1) := by decide +kernel
theorem dl_1283 : decode code 1283 = .ok (.invokevirtual 91, 3) := by decide +kernel
theorem dl_1286 : decode code 1286 = .ok (.iload 5, 2) := by decide +kernel
theorem dl_1288 : decode code 1288 = .ok (.if_icmp .eq 5, 3) := by decide +kernel
theorem dl_1291 : decode code 1291 = .ok (.iconst 0, 1) := by decide +kernel
theorem dl_1292 : decode code 1292 = .ok (.ireturn, 1) := by decide +kernel
theorem dl_1293 : decode code 1293 = .ok (.iload 5, 2) := by decide +kernel
theorem dl_1295 : decode code 1295 = .ok (.ifCond .ne 22, 3) := by decide +kernel
theorem dl_1298 : decode code 1298 = .ok (.aload_n 3, 1) := by decide +kernel
theorem dl_1299 : decode code 1299 = .ok (.iconst 0, 1) := by decide +kernel
theorem dl_1300 : decode code 1300 = .ok (.laload, 1) := by decide +kernel
theorem dl_1301 : decode code 1301 = .ok (.iload 6, 2) := by decide +kernel
theorem dl_1303 : decode code 1303 = .ok (.ifCond .eq 7, 3) := by decide +kernel
theorem dl_1306 : decode code 1306 = .ok (.lconst 1, 1) := by decide +kernel
theorem dl_1307 : decode code 1307 = .ok (.goto 4, 3) := by decide +kernel
theorem dl_1310 : decode code 1310 = .ok (.lconst 0, 1) := by decide +kernel
theorem dl_1311 : decode code 1311 = .ok (.lcmp, 1) := by decide +kernel
theorem dl_1312 : decode code 1312 = .ok (.ifCond .eq 5, 3) := by decide +kernel
theorem dl_1315 : decode code 1315 = .ok (.iconst 0, 1) := by decide +kernel
theorem dl_1316 : decode code 1316 = .ok (.ireturn, 1) := by decide +kernel
theorem dl_1317 : decode code 1317 = .ok (.goto 399, 3) := by decide +kernel
set_option maxRecDepth 100000 in
theorem tw12_0 : Cond.methodLink R_L 134 y_L_within ∈ lw_tbl := List.mem_of_getElem? (i := 573) rfl
set_option maxRecDepth 100000 in
theorem tw12_1 : Cond.static y_L_within ∈ lw_tbl := List.mem_of_getElem? (i := 574) rfl
set_option maxRecDepth 100000 in
theorem tw12_2 : Cond.codeWith y_L_within b_L_within 5 (some .int) [(0, 17, 20, 13)] ∈ lw_tbl := List.mem_of_getElem? (i := 575) rfl
set_option maxRecDepth 100000 in
theorem tw12_3 : Cond.methodLink R_L 137 y_M_within ∈ lw_tbl := List.mem_of_getElem? (i := 926) rfl
set_option maxRecDepth 100000 in
theorem tw12_4 : Cond.methodLink R_L 91 y_M_thrown ∈ lw_tbl := List.mem_of_getElem? (i := 657) rfl
set_option maxRecDepth 100000 in
set_option maxHeartbeats 4000000 in
theorem law_within {p : Program} {l : Launch} {e : Env} {s : State} {m : MethodId} {below : List Frame} {meth : Method} {c : Code} {b L : Nat} {xs : Nat → Int32} {dC : Nat → ClassId} {dI : Nat → Nat → Nat} {cQ cJ cZ : ClassId} {ad am : Nat → Nat} {oa i cells slots : Nat} {Q : State → Prop} {v : Nat → VV} {w : Nat → Int64} {t : Int32} {x y z : VV} {o : Nat → Int64} {c0 : Int32} {r : Nat → VV} {H : Heap} {locs : List Loc} {ls : Array Slot} (E : LE l p s m c b L xs dC dI cQ cJ cZ) (hi : i + 9 ≤ L) (hc1 : cells + 4 ≤ 601024) (hc2 : slots + 24 ≤ 7293034) (I : LI s dC dI cQ cJ cZ ad am oa v w t x y z o c0 r H locs) (hl : LL ls b ad am oa i) (kk : LK p l e s m below meth c b dC dI cQ cJ cZ ad am oa i cells slots Q) : W p l e room_1 s m #[Value.ref b] below meth c H locs cells slots Q (F0 m 1245 ls []) := by
  obtain ⟨hx, hb, hml, hown, hts, hX, hbl, hL, hlt, hQ, hNc, hKs, hKm⟩ := E
  obtain ⟨hI, hP, hD, hS⟩ := I
  have hA : ∀ q : Nat, s.heap.size ≤ q → (fun q : Nat => s.heap.size ≤ q) q := fun _ h => h
  have hbA : ¬ (fun q : Nat => s.heap.size ≤ q) b := Nat.not_le.mpr hbl
  have hl : lv_has ls 8 [(0, .ref b), (1, .ref (ad 0)), (2, .ref (am 0)), (3, .ref oa), (4, .int (nI i))] := hl
  refine lv_aload_n hx hb dl_1245 rfl (lv_at hl 1 rfl) ?_
  refine ls_rd (j := 1) hx hb hX hbl hbA hS hL (lv_at hl 0 rfl) (lv_at hl 4 rfl) (by omega) (by decide) dl_1246 dl_1247 dl_1249 dl_1250 dl_1251 ?_
  refine ls_rd (j := 2) hx hb hX hbl hbA hS hL (lv_at hl 0 rfl) (lv_at hl 4 rfl) (by omega) (by decide) dl_1252 dl_1253 dl_1255 dl_1256 dl_1257 ?_
  refine lv_aload_n hx hb dl_1258 rfl (lv_at hl 3 rfl) ?_
  have hP : va_P (dC, dI) classes ((sW ad cQ cJ v w t x y z ++ [(oa, .inl (cJ, 1, .inr (.inl o)))]) ++ mW am cJ cZ c0 r w t) H := hP
  have hD : va_D (fun q : Nat => s.heap.size ≤ q) ((sW ad cQ cJ v w t x y z ++ [(oa, .inl (cJ, 1, .inr (.inl o)))]) ++ mW am cJ cZ c0 r w t) := hD
  refine lc_S (vx_runSW (As := [.ref (ad 0), .int (xs (i + 1)), .int (xs (i + 2)), .ref oa]) (rest := []) ⟨hx, hb, hml, hown, hts⟩ (c_L_within l hlt dC dI ad cQ cJ H.size v w t x y z (xs (i + 1)) (xs (i + 2)) oa o) (vx_cwSW 4 hts (gLS rfl tw12_0 tw12_1 tw12_2) rfl rfl rfl (by decide +kernel) ⟨(Nat.le_of_ble_eq_true rfl), (Nat.le_of_ble_eq_true rfl)⟩) (lc_pS (va_P.left hP) (va_D.left hD) hS hA hKs hQ hNc) rfl rfl hl.1 rfl (lv_room (Nat.le_of_ble_eq_true rfl)) dl_1259 ⟨(show cells + 2 ≤ 601024 by omega), (show slots + 12 ≤ 7293034 by omega)⟩) hP hD hS hA (fun H locs hP hD hS => ?_)
  refine lv_istore (lv' := [(5, .int (f_S_within v w t x y z (xs (i + 1)) (xs (i + 2))).1), (0, .ref b), (1, .ref (ad 0)), (2, .ref (am 0)), (3, .ref oa), (4, .int (nI i))]) hx hb dl_1262 hl (by decide) rfl (fun ls hl => ?_)
  refine lv_aload_n hx hb dl_1264 rfl (lv_at hl 3 rfl) ?_
  refine ls_rd (j := 1) hx hb hX hbl hbA hS hL (lv_at hl 1 rfl) (lv_at hl 5 rfl) (by omega) (by decide) dl_1265 dl_1266 dl_1268 dl_1269 dl_1270 ?_
  refine ls_rd (j := 2) hx hb hX hbl hbA hS hL (lv_at hl 1 rfl) (lv_at hl 5 rfl) (by omega) (by decide) dl_1271 dl_1272 dl_1274 dl_1275 dl_1276 ?_
  refine lc_Mi (va_runV (As := [.int (xs (i + 1)), .int (xs (i + 2))]) (rest := []) ⟨hx, hb, hml, hown, hts⟩ (c_M_within l dC dI am cJ cZ H.size c0 r w t (xs (i + 1)) (xs (i + 2))) (cwV 2 hts (gLM tw12_3 gx246 gx247 gx248) rfl rfl rfl (by decide +kernel) ⟨(Nat.le_of_ble_eq_true rfl), (Nat.le_of_ble_eq_true rfl)⟩) (lc_pM (va_P.right hP) (va_D.right hD) hKm) rfl rfl hl.1 rfl (lv_room (Nat.le_of_ble_eq_true rfl)) dl_1277 ⟨(show cells + 2 + 0 ≤ 601024 by omega), (show slots + 12 + 0 ≤ 7293034 by omega)⟩) hP hD hS hA (fun H locs hP hD hS => ?_)
  refine lv_istore (lv' := [(6, .int (bI (f_M_within r (xs (i + 1)) (xs (i + 2))).1)), (5, .int (f_S_within v w t x y z (xs (i + 1)) (xs (i + 2))).1), (0, .ref b), (1, .ref (ad 0)), (2, .ref (am 0)), (3, .ref oa), (4, .int (nI i))]) hx hb dl_1280 hl (by decide) rfl (fun ls hl => ?_)
  refine lv_aload_n hx hb dl_1282 rfl (lv_at hl 4 rfl) ?_
  refine rc_i (W.runV (As := []) (rest := []) ⟨hx, hb, hml, hown, hts⟩ (c_M_thrown l dC dI am cJ cZ (f_M_within r (xs (i + 1)) (xs (i + 2))).2 r w t) (cwV 0 hts (gLM tw12_4 gx30 gx31 gx32) rfl rfl rfl (by decide +kernel) ⟨(Nat.le_of_ble_eq_true rfl), (Nat.le_of_ble_eq_true rfl)⟩) (lc_pR (va_P.right hP) hKm) rfl rfl hl.1 rfl (lv_room (Nat.le_of_ble_eq_true rfl)) dl_1283 ⟨(show cells + 2 + 0 + 0 ≤ 601024 by omega), (show slots + 12 + 0 + 0 ≤ 7293034 by omega)⟩) ?_
  obtain ⟨h1, h2⟩ := link_within hI t x y z (xs (i + 1)) (xs (i + 2))
  refine lv_iload hx hb dl_1286 (lv_at hl 1 rfl) ?_
  refine lv_icmp_eq (tgt := 1293) hx hb dl_1288 (by decide) (fun _ => ?_) (fun hz => absurd (show f_M_thrown ((f_M_within r (xs (i + 1)) (xs (i + 2))).2) = (f_S_within v w t x y z (xs (i + 1)) (xs (i + 2))).1 from h1) hz)
  refine lv_iload hx hb dl_1293 (lv_at hl 1 rfl) ?_
  have hE : W p l e room_1 s m #[Value.ref b] below meth c H locs (cells + 2 + 0) (slots + 12 + 0) Q (F0 m 1317 ls []) := by
    refine lv_goto (tgt := 1716) hx hb dl_1317 (by decide) ?_
    refine W.widen (k := cells + 4) (n := slots + 24) (by omega) (by omega) ?_
    exact kk _ _ _ _ _ _ _ _ _ _ _ ls ⟨hI, hP, hD, hS⟩ (lv_sub hl [2, 3, 4, 5, 6] rfl)
  refine lv_if_ne (tgt := 1317) hx hb dl_1295 (by decide) (fun _ => hE) (fun h0 => ?_)
  refine lv_aload_n hx hb dl_1298 rfl (lv_at hl 5 rfl) ?_
  refine lv_iconst (v := 0) hx hb dl_1299 (by decide) ?_
  refine va_lald hx hb hKs hP 22 1 rfl rfl (show vp_in 0 1 by unfold vp_in; decide) dl_1300 ?_
  rw [if_pos h0, upd0]
  refine lv_iload hx hb dl_1301 (lv_at hl 0 rfl) ?_
  refine ls_bit hx hb dl_1303 dl_1306 dl_1307 dl_1310 ?_
  refine W.lcmp hx hb dl_1311 ?_
  exact lv_if_eq (tgt := 1317) hx hb dl_1312 (by decide) (fun _ => hE) (fun hz => absurd ((lg_eq0 _ _).mpr (by rw [h2 h0])) hz)
