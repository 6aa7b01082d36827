/-! the law: constant -/
theorem dl_212 : decode code 212 = .ok (.aload_n 1, 1) := by decide +kernel
theorem dl_213 : decode code 213 = .ok (.aload_n 0, 1) := by decide +kernel
theorem dl_214 : decode code 214 = .ok (.iload 4, 2) := by decide +kernel
theorem dl_216 : decode code 216 = .ok (.iconst 1, 1) := by decide +kernel
theorem dl_217 : decode code 217 = .ok (.iadd, 1) := by decide +kernel
theorem dl_218 : decode code 218 = .ok (.iaload, 1) := by decide +kernel
theorem dl_219 : decode code 219 = .ok (.aload_n 0, 1) := by decide +kernel
theorem dl_220 : decode code 220 = .ok (.iload 4, 2) := by decide +kernel
theorem dl_222 : decode code 222 = .ok (.iconst 2, 1) := by decide +kernel
theorem dl_223 : decode code 223 = .ok (.iadd, 1) := by decide +kernel
theorem dl_224 : decode code 224 = .ok (.iaload, 1) := by decide +kernel
theorem dl_225 : decode code 225 = .ok (.i2l, 1) := by decide +kernel
theorem dl_226 : decode code 226 = .ok (.bipush 32, 2) := by decide +kernel
theorem dl_228 : decode code 228 = .ok (.lshl, 1) := by decide +kernel
theorem dl_229 : decode code 229 = .ok (.aload_n 0, 1) := by decide +kernel
theorem dl_230 : decode code 230 = .ok (.iload 4, 2) := by decide +kernel
theorem dl_232 : decode code 232 = .ok (.iconst 3, 1) := by decide +kernel
theorem dl_233 : decode code 233 = .ok (.iadd, 1) := by decide +kernel
theorem dl_234 : decode code 234 = .ok (.iaload, 1) := by decide +kernel
theorem dl_235 : decode code 235 = .ok (.i2l, 1) := by decide +kernel
theorem dl_236 : decode code 236 = .ok (.ldc2_w 83, 3) := by decide +kernel
theorem dl_239 : decode code 239 = .ok (.land, 1) := by decide +kernel
theorem dl_240 : decode code 240 = .ok (.lor, 1) := by decide +kernel
theorem dl_241 : decode code 241 = .ok (.invokestatic 95, 3) := by decide +kernel
theorem dl_244 : decode code 244 = .ok (.istore 5, 2) := by decide +kernel
theorem dl_246 : decode code 246 = .ok (.aload_n 2, 1) := by decide +kernel
theorem dl_247 : decode code 247 = .ok (.aload_n 0, 1) := by decide +kernel
theorem dl_248 : decode code 248 = .ok (.iload 4, 2) := by decide +kernel
theorem dl_250 : decode code 250 = .ok (.iconst 1, 1) := by decide +kernel
theorem dl_251 : decode code 251 = .ok (.iadd, 1) := by decide +kernel
theorem dl_252 : decode code 252 = .ok (.iaload, 1) := by decide +kernel
theorem dl_253 : decode code 253 = .ok (.aload_n 0, 1) := by decide +kernel
theorem dl_254 : decode code 254 = .ok (.iload 4, 2) := by decide +kernel
theorem dl_256 : decode code 256 = .ok (.iconst 2, 1) := by decide +kernel
theorem dl_257 : decode code 257 = .ok (.iadd, 1) := by decide +kernel
theorem dl_258 : decode code 258 = .ok (.iaload, 1) := by decide +kernel
theorem dl_259 : decode code 259 = .ok (.i2l, 1) := by decide +kernel
theorem dl_260 : decode code 260 = .ok (.bipush 32, 2) := by decide +kernel
theorem dl_262 : decode code 262 = .ok (.lshl, 1) := by decide +kernel
theorem dl_263 : decode code 263 = .ok (.aload_n 0, 1) := by decide +kernel
theorem dl_264 : decode code 264 = .ok (.iload 4, 2) := by decide +kernel
theorem dl_266 : decode code 266 = .ok (.iconst 3, 1) := by decide +kernel
theorem dl_267 : decode code 267 = .ok (.iadd, 1) := by decide +kernel
theorem dl_268 : decode code 268 = .ok (.iaload, 1) := by decide +kernel
theorem dl_269 : decode code 269 = .ok (.i2l, 1) := by decide +kernel
theorem dl_270 : decode code 270 = .ok (.ldc2_w 83, 3) := by decide +kernel
theorem dl_273 : decode code 273 = .ok (.land, 1) := by decide +kernel
theorem dl_274 : decode code 274 = .ok (.lor, 1) := by decide +kernel
theorem dl_275 : decode code 275 = .ok (.invokevirtual 97, 3) := by decide +kernel
theorem dl_278 : decode code 278 = .ok (.aload_n 2, 1) := by decide +kernel
theorem dl_279 : decode code 279 = .ok (.invokevirtual 91, 3) := by decide +kernel
theorem dl_282 : decode code 282 = .ok (.iload 5, 2) := by decide +kernel
theorem dl_284 : decode code 284 = .ok (.if_icmp .eq 5, 3) := by decide +kernel
theorem dl_287 : decode code 287 = .ok (.iconst 0, 1) := by decide +kernel
theorem dl_288 : decode code 288 = .ok (.ireturn, 1) := by decide +kernel
theorem dl_289 : decode code 289 = .ok (.goto 1427, 3) := by decide +kernel
set_option maxRecDepth 100000 in
theorem tw1_0 : Cond.methodLink R_L 95 y_L_constant ∈ lw_tbl := List.mem_of_getElem? (i := 254) rfl
set_option maxRecDepth 100000 in
theorem tw1_1 : Cond.static y_L_constant ∈ lw_tbl := List.mem_of_getElem? (i := 255) rfl
set_option maxRecDepth 100000 in
theorem tw1_2 : Cond.codeWith y_L_constant b_L_constant 5 (some .int) [(0, 6, 9, 13)] ∈ lw_tbl := List.mem_of_getElem? (i := 256) rfl
set_option maxRecDepth 100000 in
theorem tw1_3 : Cond.methodLink R_L 97 y_M_constant ∈ lw_tbl := List.mem_of_getElem? (i := 695) rfl
set_option maxRecDepth 100000 in
theorem tw1_4 : Cond.methodLink R_L 91 y_M_thrown ∈ lw_tbl := List.mem_of_getElem? (i := 657) rfl
set_option maxRecDepth 100000 in
set_option maxHeartbeats 4000000 in
theorem law_constant {p : Program} {l : Launch} {e : Env} {s : State} {m : MethodId} {below : List Frame} {meth : Method} {c : Code} {b L : Nat} {xs : Nat → Int32} {dC : Nat → ClassId} {dI : Nat → Nat → Nat} {cQ cJ cZ : ClassId} {ad am : Nat → Nat} {oa i cells slots : Nat} {Q : State → Prop} {v : Nat → VV} {w : Nat → Int64} {t : Int32} {x y z : VV} {o : Nat → Int64} {c0 : Int32} {r : Nat → VV} {H : Heap} {locs : List Loc} {ls : Array Slot} (E : LE l p s m c b L xs dC dI cQ cJ cZ) (hi : i + 9 ≤ L) (hc1 : cells + 4 ≤ 601024) (hc2 : slots + 24 ≤ 7293034) (I : LI s dC dI cQ cJ cZ ad am oa v w t x y z o c0 r H locs) (hl : LL ls b ad am oa i) (kk : LK p l e s m below meth c b dC dI cQ cJ cZ ad am oa i cells slots Q) : W p l e room_1 s m #[Value.ref b] below meth c H locs cells slots Q (F0 m 212 ls []) := by
  obtain ⟨hx, hb, hml, hown, hts, hX, hbl, hL, hlt, hQ, hNc, hKs, hKm⟩ := E
  obtain ⟨hI, hP, hD, hS⟩ := I
  have hA : ∀ q : Nat, s.heap.size ≤ q → (fun q : Nat => s.heap.size ≤ q) q := fun _ h => h
  have hbA : ¬ (fun q : Nat => s.heap.size ≤ q) b := Nat.not_le.mpr hbl
  have hl : lv_has ls 8 [(0, .ref b), (1, .ref (ad 0)), (2, .ref (am 0)), (3, .ref oa), (4, .int (nI i))] := hl
  refine lv_aload_n hx hb dl_212 rfl (lv_at hl 1 rfl) ?_
  refine ls_rd (j := 1) hx hb hX hbl hbA hS hL (lv_at hl 0 rfl) (lv_at hl 4 rfl) (by omega) (by decide) dl_213 dl_214 dl_216 dl_217 dl_218 ?_
  refine ls_rd (j := 2) hx hb hX hbl hbA hS hL (lv_at hl 0 rfl) (lv_at hl 4 rfl) (by omega) (by decide) dl_219 dl_220 dl_222 dl_223 dl_224 ?_
  refine ls_hi hx hb dl_225 dl_226 dl_228 ?_
  refine ls_rd (j := 3) hx hb hX hbl hbA hS hL (lv_at hl 0 rfl) (lv_at hl 4 rfl) (by omega) (by decide) dl_229 dl_230 dl_232 dl_233 dl_234 ?_
  refine ls_lo hx hb hown (hts _ tCon) dl_235 dl_236 dl_239 dl_240 ?_
  have hP : va_P (dC, dI) classes (sW ad cQ cJ v w t x y z ++ ([(oa, .inl (cJ, 1, .inr (.inl o)))] ++ mW am cJ cZ c0 r w t)) H := by rw [← List.append_assoc]; exact hP
  have hD : va_D (fun q : Nat => s.heap.size ≤ q) (sW ad cQ cJ v w t x y z ++ ([(oa, .inl (cJ, 1, .inr (.inl o)))] ++ mW am cJ cZ c0 r w t)) := by rw [← List.append_assoc]; exact hD
  refine lc_S (vx_runSW (As := [.ref (ad 0), .int (xs (i + 1)), .long (lgX (xs (i + 2)) (xs (i + 3)))]) (rest := []) ⟨hx, hb, hml, hown, hts⟩ (c_L_constant l hlt dC dI ad cQ cJ H.size v w t x y z (xs (i + 1)) (lgX (xs (i + 2)) (xs (i + 3)))) (vx_cwSW 3 hts (gLS rfl tw1_0 tw1_1 tw1_2) rfl rfl rfl (by decide +kernel) ⟨(Nat.le_of_ble_eq_true rfl), (Nat.le_of_ble_eq_true rfl)⟩) (lc_pS (va_P.left hP) (va_D.left hD) hS hA hKs hQ hNc) rfl rfl hl.1 rfl (lv_room (Nat.le_of_ble_eq_true rfl)) dl_241 ⟨(show cells + 1 ≤ 601024 by omega), (show slots + 6 ≤ 7293034 by omega)⟩) hP hD hS hA (fun H locs hP hD hS => ?_)
  rw [← List.append_assoc] at hP hD
  refine lv_istore (lv' := [(5, .int (f_S_constant v w t x y z (xs (i + 1)) (lgX (xs (i + 2)) (xs (i + 3)))).1), (0, .ref b), (1, .ref (ad 0)), (2, .ref (am 0)), (3, .ref oa), (4, .int (nI i))]) hx hb dl_244 hl (by decide) rfl (fun ls hl => ?_)
  refine lv_aload_n hx hb dl_246 rfl (lv_at hl 3 rfl) ?_
  refine ls_rd (j := 1) hx hb hX hbl hbA hS hL (lv_at hl 1 rfl) (lv_at hl 5 rfl) (by omega) (by decide) dl_247 dl_248 dl_250 dl_251 dl_252 ?_
  refine ls_rd (j := 2) hx hb hX hbl hbA hS hL (lv_at hl 1 rfl) (lv_at hl 5 rfl) (by omega) (by decide) dl_253 dl_254 dl_256 dl_257 dl_258 ?_
  refine ls_hi hx hb dl_259 dl_260 dl_262 ?_
  refine ls_rd (j := 3) hx hb hX hbl hbA hS hL (lv_at hl 1 rfl) (lv_at hl 5 rfl) (by omega) (by decide) dl_263 dl_264 dl_266 dl_267 dl_268 ?_
  refine ls_lo hx hb hown (hts _ tCon) dl_269 dl_270 dl_273 dl_274 ?_
  refine lc_Mv (va_runV (As := [.int (xs (i + 1)), .long (lgX (xs (i + 2)) (xs (i + 3)))]) (rest := []) ⟨hx, hb, hml, hown, hts⟩ (c_M_constant l dC dI am cJ cZ H.size c0 r w t (xs (i + 1)) (lgX (xs (i + 2)) (xs (i + 3)))) (cwV 2 hts (gLM tw1_3 gx60 gx61 gx62) rfl rfl rfl (by decide +kernel) ⟨(Nat.le_of_ble_eq_true rfl), (Nat.le_of_ble_eq_true rfl)⟩) (lc_pM (va_P.right hP) (va_D.right hD) hKm) rfl rfl hl.1 rfl (lv_room (Nat.le_of_ble_eq_true rfl)) dl_275 ⟨(show cells + 1 + 0 ≤ 601024 by omega), (show slots + 6 + 0 ≤ 7293034 by omega)⟩) hP hD hS hA (fun H locs hP hD hS => ?_)
  refine lv_aload_n hx hb dl_278 rfl (lv_at hl 3 rfl) ?_
  refine rc_i (W.runV (As := []) (rest := []) ⟨hx, hb, hml, hown, hts⟩ (c_M_thrown l dC dI am cJ cZ (f_M_constant r w t (xs (i + 1)) (lgX (xs (i + 2)) (xs (i + 3)))).1 (f_M_constant r w t (xs (i + 1)) (lgX (xs (i + 2)) (xs (i + 3)))).2.1 (f_M_constant r w t (xs (i + 1)) (lgX (xs (i + 2)) (xs (i + 3)))).2.2.1 (f_M_constant r w t (xs (i + 1)) (lgX (xs (i + 2)) (xs (i + 3)))).2.2.2) (cwV 0 hts (gLM tw1_4 gx30 gx31 gx32) rfl rfl rfl (by decide +kernel) ⟨(Nat.le_of_ble_eq_true rfl), (Nat.le_of_ble_eq_true rfl)⟩) (lc_pR (va_P.right hP) hKm) rfl rfl hl.1 rfl (lv_room (Nat.le_of_ble_eq_true rfl)) dl_279 ⟨(show cells + 1 + 0 + 0 ≤ 601024 by omega), (show slots + 6 + 0 + 0 ≤ 7293034 by omega)⟩) ?_
  obtain ⟨h1, h2, h3, h4⟩ := link_constant hI t x y z (xs (i + 1)) (lgX (xs (i + 2)) (xs (i + 3)))
  refine lv_iload hx hb dl_282 (lv_at hl 0 rfl) ?_
  refine lv_icmp_eq (tgt := 289) hx hb dl_284 (by decide) (fun _ => ?_) (fun hz => absurd (show f_M_thrown ((f_M_constant r w t (xs (i + 1)) (lgX (xs (i + 2)) (xs (i + 3)))).1) = (f_S_constant v w t x y z (xs (i + 1)) (lgX (xs (i + 2)) (xs (i + 3)))).1 from h1) hz)
  refine lv_goto (tgt := 1716) hx hb dl_289 (by decide) ?_
  rw [h3, h4] at hP hD
  refine W.widen (k := cells + 4) (n := slots + 24) (by omega) (by omega) ?_
  exact kk _ _ _ _ _ _ _ _ _ _ _ ls ⟨h2, hP, hD, hS⟩ (lv_sub hl [1, 2, 3, 4, 5] rfl)
