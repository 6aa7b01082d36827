/-! the law: any -/
theorem dl_132 : decode code 132 = .ok (.aload_n 1, 1) := by decide +kernel
theorem dl_133 : decode code 133 = .ok (.aload_n 0, 1) := by decide +kernel
theorem dl_134 : decode code 134 = .ok (.iload 4, 2) := by decide +kernel
theorem dl_136 : decode code 136 = .ok (.iconst 1, 1) := by decide +kernel
theorem dl_137 : decode code 137 = .ok (.iadd, 1) := by decide +kernel
theorem dl_138 : decode code 138 = .ok (.iaload, 1) := by decide +kernel
theorem dl_139 : decode code 139 = .ok (.aload_n 0, 1) := by decide +kernel
theorem dl_140 : decode code 140 = .ok (.iload 4, 2) := by decide +kernel
theorem dl_142 : decode code 142 = .ok (.iconst 2, 1) := by decide +kernel
theorem dl_143 : decode code 143 = .ok (.iadd, 1) := by decide +kernel
theorem dl_144 : decode code 144 = .ok (.iaload, 1) := by decide +kernel
theorem dl_145 : decode code 145 = .ok (.i2l, 1) := by decide +kernel
theorem dl_146 : decode code 146 = .ok (.bipush 32, 2) := by decide +kernel
theorem dl_148 : decode code 148 = .ok (.lshl, 1) := by decide +kernel
theorem dl_149 : decode code 149 = .ok (.aload_n 0, 1) := by decide +kernel
theorem dl_150 : decode code 150 = .ok (.iload 4, 2) := by decide +kernel
theorem dl_152 : decode code 152 = .ok (.iconst 3, 1) := by decide +kernel
theorem dl_153 : decode code 153 = .ok (.iadd, 1) := by decide +kernel
theorem dl_154 : decode code 154 = .ok (.iaload, 1) := by decide +kernel
theorem dl_155 : decode code 155 = .ok (.i2l, 1) := by decide +kernel
theorem dl_156 : decode code 156 = .ok (.ldc2_w 83, 3) := by decide +kernel
theorem dl_159 : decode code 159 = .ok (.land, 1) := by decide +kernel
theorem dl_160 : decode code 160 = .ok (.lor, 1) := by decide +kernel
theorem dl_161 : decode code 161 = .ok (.invokestatic 85, 3) := by decide +kernel
theorem dl_164 : decode code 164 = .ok (.istore 5, 2) := by decide +kernel
theorem dl_166 : decode code 166 = .ok (.aload_n 2, 1) := by decide +kernel
theorem dl_167 : decode code 167 = .ok (.aload_n 0, 1) := by decide +kernel
theorem dl_168 : decode code 168 = .ok (.iload 4, 2) := by decide +kernel
theorem dl_170 : decode code 170 = .ok (.iconst 1, 1) := by decide +kernel
theorem dl_171 : decode code 171 = .ok (.iadd, 1) := by decide +kernel
theorem dl_172 : decode code 172 = .ok (.iaload, 1) := by decide +kernel
theorem dl_173 : decode code 173 = .ok (.aload_n 0, 1) := by decide +kernel
theorem dl_174 : decode code 174 = .ok (.iload 4, 2) := by decide +kernel
theorem dl_176 : decode code 176 = .ok (.iconst 2, 1) := by decide +kernel
theorem dl_177 : decode code 177 = .ok (.iadd, 1) := by decide +kernel
theorem dl_178 : decode code 178 = .ok (.iaload, 1) := by decide +kernel
theorem dl_179 : decode code 179 = .ok (.i2l, 1) := by decide +kernel
theorem dl_180 : decode code 180 = .ok (.bipush 32, 2) := by decide +kernel
theorem dl_182 : decode code 182 = .ok (.lshl, 1) := by decide +kernel
theorem dl_183 : decode code 183 = .ok (.aload_n 0, 1) := by decide +kernel
theorem dl_184 : decode code 184 = .ok (.iload 4, 2) := by decide +kernel
theorem dl_186 : decode code 186 = .ok (.iconst 3, 1) := by decide +kernel
theorem dl_187 : decode code 187 = .ok (.iadd, 1) := by decide +kernel
theorem dl_188 : decode code 188 = .ok (.iaload, 1) := by decide +kernel
theorem dl_189 : decode code 189 = .ok (.i2l, 1) := by decide +kernel
theorem dl_190 : decode code 190 = .ok (.ldc2_w 83, 3) := by decide +kernel
theorem dl_193 : decode code 193 = .ok (.land, 1) := by decide +kernel
theorem dl_194 : decode code 194 = .ok (.lor, 1) := by decide +kernel
theorem dl_195 : decode code 195 = .ok (.invokevirtual 90, 3) := by decide +kernel
theorem dl_198 : decode code 198 = .ok (.aload_n 2, 1) := by decide +kernel
theorem dl_199 : decode code 199 = .ok (.invokevirtual 91, 3) := by decide +kernel
theorem dl_202 : decode code 202 = .ok (.iload 5, 2) := by decide +kernel
theorem dl_204 : decode code 204 = .ok (.if_icmp .eq 5, 3) := by decide +kernel
theorem dl_207 : decode code 207 = .ok (.iconst 0, 1) := by decide +kernel
theorem dl_208 : decode code 208 = .ok (.ireturn, 1) := by decide +kernel
theorem dl_209 : decode code 209 = .ok (.goto 1507, 3) := by decide +kernel
set_option maxRecDepth 100000 in
theorem tw0_0 : Cond.methodLink R_L 85 y_L_any ∈ lw_tbl := List.mem_of_getElem? (i := 141) rfl
set_option maxRecDepth 100000 in
theorem tw0_1 : Cond.static y_L_any ∈ lw_tbl := List.mem_of_getElem? (i := 142) rfl
set_option maxRecDepth 100000 in
theorem tw0_2 : Cond.codeWith y_L_any b_L_any 5 (some .int) [(0, 6, 9, 13)] ∈ lw_tbl := List.mem_of_getElem? (i := 143) rfl
set_option maxRecDepth 100000 in
theorem tw0_3 : Cond.methodLink R_L 90 y_M_any ∈ lw_tbl := List.mem_of_getElem? (i := 661) rfl
set_option maxRecDepth 100000 in
theorem tw0_4 : Cond.methodLink R_L 91 y_M_thrown ∈ lw_tbl := List.mem_of_getElem? (i := 657) rfl
set_option maxRecDepth 100000 in
set_option maxHeartbeats 4000000 in
theorem law_any {p : Program} {l : Launch} {e : Env} {s : State} {m : MethodId} {below : List Frame} {meth : Method} {c : Code} {b L : Nat} {xs : Nat → Int32} {dC : Nat → ClassId} {dI : Nat → Nat → Nat} {cQ cJ cZ : ClassId} {ad am : Nat → Nat} {oa i cells slots : Nat} {Q : State → Prop} {v : Nat → VV} {w : Nat → Int64} {t : Int32} {x y z : VV} {o : Nat → Int64} {c0 : Int32} {r : Nat → VV} {H : Heap} {locs : List Loc} {ls : Array Slot} (E : LE l p s m c b L xs dC dI cQ cJ cZ) (hi : i + 9 ≤ L) (hc1 : cells + 4 ≤ 601024) (hc2 : slots + 24 ≤ 7293034) (I : LI s dC dI cQ cJ cZ ad am oa v w t x y z o c0 r H locs) (hl : LL ls b ad am oa i) (kk : LK p l e s m below meth c b dC dI cQ cJ cZ ad am oa i cells slots Q) : W p l e room_1 s m #[Value.ref b] below meth c H locs cells slots Q (F0 m 132 ls []) := by
  obtain ⟨hx, hb, hml, hown, hts, hX, hbl, hL, hlt, hQ, hNc, hKs, hKm⟩ := E
  obtain ⟨hI, hP, hD, hS⟩ := I
  have hA : ∀ q : Nat, s.heap.size ≤ q → (fun q : Nat => s.heap.size ≤ q) q := fun _ h => h
  have hbA : ¬ (fun q : Nat => s.heap.size ≤ q) b := Nat.not_le.mpr hbl
  have hl : lv_has ls 8 [(0, .ref b), (1, .ref (ad 0)), (2, .ref (am 0)), (3, .ref oa), (4, .int (nI i))] := hl
  refine lv_aload_n hx hb dl_132 rfl (lv_at hl 1 rfl) ?_
  refine ls_rd (j := 1) hx hb hX hbl hbA hS hL (lv_at hl 0 rfl) (lv_at hl 4 rfl) (by omega) (by decide) dl_133 dl_134 dl_136 dl_137 dl_138 ?_
  refine ls_rd (j := 2) hx hb hX hbl hbA hS hL (lv_at hl 0 rfl) (lv_at hl 4 rfl) (by omega) (by decide) dl_139 dl_140 dl_142 dl_143 dl_144 ?_
  refine ls_hi hx hb dl_145 dl_146 dl_148 ?_
  refine ls_rd (j := 3) hx hb hX hbl hbA hS hL (lv_at hl 0 rfl) (lv_at hl 4 rfl) (by omega) (by decide) dl_149 dl_150 dl_152 dl_153 dl_154 ?_
  refine ls_lo hx hb hown (hts _ tCon) dl_155 dl_156 dl_159 dl_160 ?_
  have hP : va_P (dC, dI) classes (sW ad cQ cJ v w t x y z ++ ([(oa, .inl (cJ, 1, .inr (.inl o)))] ++ mW am cJ cZ c0 r w t)) H := by rw [← List.append_assoc]; exact hP
  have hD : va_D (fun q : Nat => s.heap.size ≤ q) (sW ad cQ cJ v w t x y z ++ ([(oa, .inl (cJ, 1, .inr (.inl o)))] ++ mW am cJ cZ c0 r w t)) := by rw [← List.append_assoc]; exact hD
  refine lc_S (vx_runSW (As := [.ref (ad 0), .int (xs (i + 1)), .long (lgX (xs (i + 2)) (xs (i + 3)))]) (rest := []) ⟨hx, hb, hml, hown, hts⟩ (c_L_any l hlt dC dI ad cQ cJ H.size v w t x y z (xs (i + 1)) (lgX (xs (i + 2)) (xs (i + 3)))) (vx_cwSW 3 hts (gLS rfl tw0_0 tw0_1 tw0_2) rfl rfl rfl (by decide +kernel) ⟨(Nat.le_of_ble_eq_true rfl), (Nat.le_of_ble_eq_true rfl)⟩) (lc_pS (va_P.left hP) (va_D.left hD) hS hA hKs hQ hNc) rfl rfl hl.1 rfl (lv_room (Nat.le_of_ble_eq_true rfl)) dl_161 ⟨(show cells + 1 ≤ 601024 by omega), (show slots + 6 ≤ 7293034 by omega)⟩) hP hD hS hA (fun H locs hP hD hS => ?_)
  rw [← List.append_assoc] at hP hD
  refine lv_istore (lv' := [(5, .int (f_S_any v w t x y z (xs (i + 1)) (lgX (xs (i + 2)) (xs (i + 3)))).1), (0, .ref b), (1, .ref (ad 0)), (2, .ref (am 0)), (3, .ref oa), (4, .int (nI i))]) hx hb dl_164 hl (by decide) rfl (fun ls hl => ?_)
  refine lv_aload_n hx hb dl_166 rfl (lv_at hl 3 rfl) ?_
  refine ls_rd (j := 1) hx hb hX hbl hbA hS hL (lv_at hl 1 rfl) (lv_at hl 5 rfl) (by omega) (by decide) dl_167 dl_168 dl_170 dl_171 dl_172 ?_
  refine ls_rd (j := 2) hx hb hX hbl hbA hS hL (lv_at hl 1 rfl) (lv_at hl 5 rfl) (by omega) (by decide) dl_173 dl_174 dl_176 dl_177 dl_178 ?_
  refine ls_hi hx hb dl_179 dl_180 dl_182 ?_
  refine ls_rd (j := 3) hx hb hX hbl hbA hS hL (lv_at hl 1 rfl) (lv_at hl 5 rfl) (by omega) (by decide) dl_183 dl_184 dl_186 dl_187 dl_188 ?_
  refine ls_lo hx hb hown (hts _ tCon) dl_189 dl_190 dl_193 dl_194 ?_
  refine lc_Mv (va_runV (As := [.int (xs (i + 1)), .long (lgX (xs (i + 2)) (xs (i + 3)))]) (rest := []) ⟨hx, hb, hml, hown, hts⟩ (c_M_any l dC dI am cJ cZ H.size c0 r w t (xs (i + 1)) (lgX (xs (i + 2)) (xs (i + 3)))) (cwV 2 hts (gLM tw0_3 gx33 gx34 gx35) rfl rfl rfl (by decide +kernel) ⟨(Nat.le_of_ble_eq_true rfl), (Nat.le_of_ble_eq_true rfl)⟩) (lc_pM (va_P.right hP) (va_D.right hD) hKm) rfl rfl hl.1 rfl (lv_room (Nat.le_of_ble_eq_true rfl)) dl_195 ⟨(show cells + 1 + 0 ≤ 601024 by omega), (show slots + 6 + 0 ≤ 7293034 by omega)⟩) hP hD hS hA (fun H locs hP hD hS => ?_)
  refine lv_aload_n hx hb dl_198 rfl (lv_at hl 3 rfl) ?_
  refine rc_i (W.runV (As := []) (rest := []) ⟨hx, hb, hml, hown, hts⟩ (c_M_thrown l dC dI am cJ cZ (f_M_any r w t (xs (i + 1)) (lgX (xs (i + 2)) (xs (i + 3)))).1 (f_M_any r w t (xs (i + 1)) (lgX (xs (i + 2)) (xs (i + 3)))).2.1 (f_M_any r w t (xs (i + 1)) (lgX (xs (i + 2)) (xs (i + 3)))).2.2.1 (f_M_any r w t (xs (i + 1)) (lgX (xs (i + 2)) (xs (i + 3)))).2.2.2) (cwV 0 hts (gLM tw0_4 gx30 gx31 gx32) rfl rfl rfl (by decide +kernel) ⟨(Nat.le_of_ble_eq_true rfl), (Nat.le_of_ble_eq_true rfl)⟩) (lc_pR (va_P.right hP) hKm) rfl rfl hl.1 rfl (lv_room (Nat.le_of_ble_eq_true rfl)) dl_199 ⟨(show cells + 1 + 0 + 0 ≤ 601024 by omega), (show slots + 6 + 0 + 0 ≤ 7293034 by omega)⟩) ?_
  obtain ⟨h1, h2, h3, h4⟩ := link_any hI t x y z (xs (i + 1)) (lgX (xs (i + 2)) (xs (i + 3)))
  refine lv_iload hx hb dl_202 (lv_at hl 0 rfl) ?_
  refine lv_icmp_eq (tgt := 209) hx hb dl_204 (by decide) (fun _ => ?_) (fun hz => absurd (show f_M_thrown ((f_M_any r w t (xs (i + 1)) (lgX (xs (i + 2)) (xs (i + 3)))).1) = (f_S_any v w t x y z (xs (i + 1)) (lgX (xs (i + 2)) (xs (i + 3)))).1 from h1) hz)
  refine lv_goto (tgt := 1716) hx hb dl_209 (by decide) ?_
  rw [h3, h4] at hP hD
  refine W.widen (k := cells + 4) (n := slots + 24) (by omega) (by omega) ?_
  exact kk _ _ _ _ _ _ _ _ _ _ _ ls ⟨h2, hP, hD, hS⟩ (lv_sub hl [1, 2, 3, 4, 5] rfl)
