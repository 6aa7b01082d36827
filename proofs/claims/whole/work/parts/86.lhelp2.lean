theorem ne2_constant (v : Nat → VV) (w : Nat → Int64) (t : Int32) (x : VV) (y : VV) (z : VV) (p1 : Int32) (p2 : Int64) : ¬ (f_S_constant v w t x y z p1 p2).1 = 2 := by
  unfold f_S_constant
  repeat' split
  all_goals first | exact (by decide : ¬ (0 : Int32) = 2) | exact rp_ne2 _
-- ValueSieveLaw.constant
theorem d_L_constant_0 : decode b_L_constant 0 = .ok (.aload_n 0, 1) := by decide +kernel
theorem d_L_constant_1 : decode b_L_constant 1 = .ok (.iload_n 1, 1) := by decide +kernel
theorem d_L_constant_2 : decode b_L_constant 2 = .ok (.lload_n 2, 1) := by decide +kernel
theorem d_L_constant_3 : decode b_L_constant 3 = .ok (.invokevirtual 15, 3) := by decide +kernel
theorem d_L_constant_6 : decode b_L_constant 6 = .ok (.goto 7, 3) := by decide +kernel
theorem d_L_constant_9 : decode b_L_constant 9 = .ok (.astore 4, 2) := by decide +kernel
theorem d_L_constant_11 : decode b_L_constant 11 = .ok (.iconst 1, 1) := by decide +kernel
theorem d_L_constant_12 : decode b_L_constant 12 = .ok (.ireturn, 1) := by decide +kernel
theorem d_L_constant_13 : decode b_L_constant 13 = .ok (.iconst 0, 1) := by decide +kernel
theorem d_L_constant_14 : decode b_L_constant 14 = .ok (.ireturn, 1) := by decide +kernel
def k_L_constant : List Cond := Cond.codeWith y_L_constant b_L_constant 5 (some .int) [(0, 6, 9, 13)] :: gL
set_option maxRecDepth 100000 in
set_option maxHeartbeats 4000000 in
theorem c_L_constant (l : Launch) (hlt : l.stackTraces = false) (dC : Nat → ClassId) (dI : Nat → Nat → Nat) (ad : Nat → Nat) (cQ cJ : ClassId) (sz : Nat) (v : Nat → VV) (w : Nat → Int64) (t : Int32) (x : VV) (y : VV) (z : VV) (p1 : Int32) (p2 : Int64) : Met l y_L_constant k_L_constant ({ frames := 8, cells := 1, slots := 6, locals := 143 } : Room) (va_Pc [.ref (ad 0), .int (p1), .long (p2)] (hP9 (dC, dI) (sT cQ cJ) (sW ad cQ cJ v w t x y z) sz)) (va_Qi (fun r (_ : Unit) => r = (f_S_constant v w t x y z p1 p2).1) (mB (dC, dI) (va_A (sW ad cQ cJ v w t x y z) sz) (sW ad cQ cJ (f_S_constant v w t x y z p1 p2).2.1 (f_S_constant v w t x y z p1 p2).2.2.1 (f_S_constant v w t x y z p1 p2).2.2.2.1 (f_S_constant v w t x y z p1 p2).2.2.2.2.1 (f_S_constant v w t x y z p1 p2).2.2.2.2.2.1 (f_S_constant v w t x y z p1 p2).2.2.2.2.2.2)) (va_A (sW ad cQ cJ v w t x y z) sz)) 1 6 (va_A (sW ad cQ cJ v w t x y z) sz) := by
  refine met_WH (cc := b_L_constant) (maxL := 5) (ret := (some .int)) (hh := [(0, 6, 9, 13)]) (by decide) rfl ?_
  intro p e s m args below meth c s₁ B hml hv
  obtain ⟨rfl, hsz, hP, hK, hD0, hX, hNc⟩ := hv
  have hx := B.exec
  have hb := B.bytes
  have hr := B.returns
  have hts := atoms_spec (ws := k_L_constant) B.pre
  have hG : ∀ w ∈ gL, w.before _ s = true := fun w h => hts w (List.mem_cons_of_mem _ h)
  have htab := vx_table (x := objectInit) B (hts _ List.mem_cons_self)
  have hown : s.vm.findClass R_L = some m.cls := findClass_of_methodNamed B.named
  have hlocks := B.notSynchronized
  subst hsz
  have hD := hD0.self (sz := s.heap.size)
  generalize hAe : va_A (sW ad cQ cJ v w t x y z) s.heap.size = A at hD hX ⊢
  have hA : ∀ q : Nat, s.heap.size ≤ q → A q := fun q h => by rw [← hAe]; exact Or.inr h
  have hS : va_S A s.heap s.heap [] := va_S.rf
  have hl := lv_entry ([.ref (ad 0), .int (p1), .long (p2)]) (n := 5) (Nat.le_of_ble_eq_true rfl)
  rw [lg_entry_eq]
  generalize (lg_sl ([.ref (ad 0), .int (p1), .long (p2)]) ++ List.replicate (5 - (lg_sl ([.ref (ad 0), .int (p1), .long (p2)])).length) Slot.unset).toArray = ls at hl ⊢
  have hl : lv_has ls 5 [(0, .ref (ad 0)), (1, .int (p1)), (2, .long (p2))] := hl
  have hPs := hP
  have hDs := hD
  refine lv_aload_n hx hb d_L_constant_0 rfl (lv_at hl 0 rfl) ?_
  refine lv_iload_n hx hb d_L_constant_1 rfl (lv_at hl 1 rfl) ?_
  refine lv_lload_n hx hb d_L_constant_2 rfl (lv_at hl 2 rfl) ?_
  have hAA : ∀ q : Nat, va_A (sW ad cQ cJ v w t x y z) s.heap.size q → A q := fun q h => by rw [← hAe]; exact h
  refine vx_callv (vx_runV (As := [.int (p1), .long (p2)]) (rest := []) ⟨hx, hb, hml, hown, hts⟩ (c_S_constant l hlt dC dI ad cQ cJ s.heap.size v w t x y z p1 p2) (cwV 2 hts (gVL (by decide +kernel) gw108 gw109 gw0 gw110) rfl rfl rfl (by decide +kernel) ⟨(Nat.le_of_ble_eq_true rfl), (Nat.le_of_ble_eq_true rfl)⟩) ⟨bls, va_recv hK hPs (ci := 1) (q0 := 0) rfl (sW_get (by decide)), fun U hU hW => ⟨rfl, by rw [hU], by rw [hU]; exact hPs, va_K.moved hW.alike hK, hDs.weaken (fun _ _ _ _ => trivial), (by rw [hU]; exact (hX.narrow hAA).moved hW)⟩⟩ rfl rfl hl.1 rfl (lv_room (Nat.le_of_ble_eq_true rfl)) d_L_constant_3 ⟨(Nat.le_of_ble_eq_true rfl), (Nat.le_of_ble_eq_true rfl)⟩) hS (fun q _ h => hAA q h) hAA (fun q _ h => hAA q h) (fun E ce q9 u t9 H1 locs1 ht hal hpx hBX hz hk hS1 hce hcv hcl => ?_) (fun u t9 H1 locs1 ht hal hpo hBB hz hk hS1 => ?_)
  · obtain ⟨hE, hP1, hD1⟩ := hBX
    rw [ht] at hP1
    rw [hAe] at hD1
    rcases hE with ⟨hc, rfl⟩ | ⟨hc, rfl⟩
    · have hPw := hP1
      have hDw := hD1
      refine vx_catch (name := eI) hown [] ⟨0, 6, 9, 13⟩ [] (by rw [htab]; rfl) (fun z hz => by cases hz) (by decide) (by decide) (hG _ (by decide +kernel)) (va_Nw.use rfl hX.2.2.2.2.1) hce hcv hcl ?_
      refine lv_astore (lv' := [(4, .ref q9), (0, .ref (ad 0)), (1, .int (p1)), (2, .long (p2))]) hx hb d_L_constant_9 hl (by decide) rfl (fun ls hl => ?_)
      refine lv_iconst (v := 1) hx hb d_L_constant_11 (by decide) ?_
      exact W.iret (v := 1) hx hb hr (fun t9 ht hW => ⟨⟨_, (), rfl, hc.symm, by rw [ht]; exact hPw, hDw⟩, hS1.F ht⟩) hS1.2.2 d_L_constant_12
    · exact absurd hc (ne2_constant v w t x y z p1 p2)
  · obtain ⟨hP1, hD1⟩ := hBB
    rw [ht] at hP1
    rw [hAe] at hD1
    have hc := hpo
    have hPw := hP1
    have hDw := hD1
    refine lv_goto (tgt := 13) hx hb d_L_constant_6 (by decide) ?_
    refine lv_iconst (v := 0) hx hb d_L_constant_13 (by decide) ?_
    exact W.iret (v := 0) hx hb hr (fun t9 ht hW => ⟨⟨_, (), rfl, hc.symm, by rw [ht]; exact hPw, hDw⟩, hS1.F ht⟩) hS1.2.2 d_L_constant_14
-- ValueSieveLaw.between
theorem d_L_between_0 : decode b_L_between 0 = .ok (.aload_n 0, 1) := by decide +kernel
theorem d_L_between_1 : decode b_L_between 1 = .ok (.iload_n 1, 1) := by decide +kernel
theorem d_L_between_2 : decode b_L_between 2 = .ok (.iload_n 2, 1) := by decide +kernel
theorem d_L_between_3 : decode b_L_between 3 = .ok (.lload_n 3, 1) := by decide +kernel
theorem d_L_between_4 : decode b_L_between 4 = .ok (.lload 5, 2) := by decide +kernel
theorem d_L_between_6 : decode b_L_between 6 = .ok (.lload 7, 2) := by decide +kernel
theorem d_L_between_8 : decode b_L_between 8 = .ok (.invokevirtual 18, 3) := by decide +kernel
theorem d_L_between_11 : decode b_L_between 11 = .ok (.goto 11, 3) := by decide +kernel
theorem d_L_between_14 : decode b_L_between 14 = .ok (.astore 9, 2) := by decide +kernel
theorem d_L_between_16 : decode b_L_between 16 = .ok (.iconst 1, 1) := by decide +kernel
theorem d_L_between_17 : decode b_L_between 17 = .ok (.ireturn, 1) := by decide +kernel
theorem d_L_between_18 : decode b_L_between 18 = .ok (.astore 9, 2) := by decide +kernel
theorem d_L_between_20 : decode b_L_between 20 = .ok (.iconst 2, 1) := by decide +kernel
theorem d_L_between_21 : decode b_L_between 21 = .ok (.ireturn, 1) := by decide +kernel
theorem d_L_between_22 : decode b_L_between 22 = .ok (.iconst 0, 1) := by decide +kernel
theorem d_L_between_23 : decode b_L_between 23 = .ok (.ireturn, 1) := by decide +kernel
def k_L_between : List Cond := Cond.codeWith y_L_between b_L_between 10 (some .int) [(0, 11, 14, 13), (0, 11, 18, 22)] :: gL
set_option maxRecDepth 100000 in
set_option maxHeartbeats 4000000 in
theorem c_L_between (l : Launch) (hlt : l.stackTraces = false) (dC : Nat → ClassId) (dI : Nat → Nat → Nat) (ad : Nat → Nat) (cQ cJ : ClassId) (sz : Nat) (v : Nat → VV) (w : Nat → Int64) (t : Int32) (x : VV) (y : VV) (z : VV) (p1 : Int32) (p2 : Int32) (p3 : Int64) (p4 : Int64) (p5 : Int64) : Met l y_L_between k_L_between ({ frames := 8, cells := 2, slots := 12, locals := 148 } : Room) (va_Pc [.ref (ad 0), .int (p1), .int (p2), .long (p3), .long (p4), .long (p5)] (hP9 (dC, dI) (sT cQ cJ) (sW ad cQ cJ v w t x y z) sz)) (va_Qi (fun r (_ : Unit) => r = (f_S_between v w t x y z p1 p2 p3 p4 p5).1) (mB (dC, dI) (va_A (sW ad cQ cJ v w t x y z) sz) (sW ad cQ cJ (f_S_between v w t x y z p1 p2 p3 p4 p5).2.1 (f_S_between v w t x y z p1 p2 p3 p4 p5).2.2.1 (f_S_between v w t x y z p1 p2 p3 p4 p5).2.2.2.1 (f_S_between v w t x y z p1 p2 p3 p4 p5).2.2.2.2.1 (f_S_between v w t x y z p1 p2 p3 p4 p5).2.2.2.2.2.1 (f_S_between v w t x y z p1 p2 p3 p4 p5).2.2.2.2.2.2)) (va_A (sW ad cQ cJ v w t x y z) sz)) 2 12 (va_A (sW ad cQ cJ v w t x y z) sz) := by
  refine met_WH (cc := b_L_between) (maxL := 10) (ret := (some .int)) (hh := [(0, 11, 14, 13), (0, 11, 18, 22)]) (by decide) rfl ?_
  intro p e s m args below meth c s₁ B hml hv
  obtain ⟨rfl, hsz, hP, hK, hD0, hX, hNc⟩ := hv
  have hx := B.exec
  have hb := B.bytes
  have hr := B.returns
  have hts := atoms_spec (ws := k_L_between) B.pre
  have hG : ∀ w ∈ gL, w.before _ s = true := fun w h => hts w (List.mem_cons_of_mem _ h)
  have htab := vx_table (x := objectInit) B (hts _ List.mem_cons_self)
  have hown : s.vm.findClass R_L = some m.cls := findClass_of_methodNamed B.named
  have hlocks := B.notSynchronized
  subst hsz
  have hD := hD0.self (sz := s.heap.size)
  generalize hAe : va_A (sW ad cQ cJ v w t x y z) s.heap.size = A at hD hX ⊢
  have hA : ∀ q : Nat, s.heap.size ≤ q → A q := fun q h => by rw [← hAe]; exact Or.inr h
  have hS : va_S A s.heap s.heap [] := va_S.rf
  have hl := lv_entry ([.ref (ad 0), .int (p1), .int (p2), .long (p3), .long (p4), .long (p5)]) (n := 10) (Nat.le_of_ble_eq_true rfl)
  rw [lg_entry_eq]
  generalize (lg_sl ([.ref (ad 0), .int (p1), .int (p2), .long (p3), .long (p4), .long (p5)]) ++ List.replicate (10 - (lg_sl ([.ref (ad 0), .int (p1), .int (p2), .long (p3), .long (p4), .long (p5)])).length) Slot.unset).toArray = ls at hl ⊢
  have hl : lv_has ls 10 [(0, .ref (ad 0)), (1, .int (p1)), (2, .int (p2)), (3, .long (p3)), (5, .long (p4)), (7, .long (p5))] := hl
  have hPs := hP
  have hDs := hD
  refine lv_aload_n hx hb d_L_between_0 rfl (lv_at hl 0 rfl) ?_
  refine lv_iload_n hx hb d_L_between_1 rfl (lv_at hl 1 rfl) ?_
  refine lv_iload_n hx hb d_L_between_2 rfl (lv_at hl 2 rfl) ?_
  refine lv_lload_n hx hb d_L_between_3 rfl (lv_at hl 3 rfl) ?_
  refine lv_lload hx hb d_L_between_4 (lv_at hl 4 rfl) ?_
  refine lv_lload hx hb d_L_between_6 (lv_at hl 5 rfl) ?_
  have hAA : ∀ q : Nat, va_A (sW ad cQ cJ v w t x y z) s.heap.size q → A q := fun q h => by rw [← hAe]; exact h
  refine vx_callv (vx_runV (As := [.int (p1), .int (p2), .long (p3), .long (p4), .long (p5)]) (rest := []) ⟨hx, hb, hml, hown, hts⟩ (c_S_between l hlt dC dI ad cQ cJ s.heap.size v w t x y z p1 p2 p3 p4 p5) (cwV 5 hts (gVL (by decide +kernel) gw150 gw151 gw0 gw152) rfl rfl rfl (by decide +kernel) ⟨(Nat.le_of_ble_eq_true rfl), (Nat.le_of_ble_eq_true rfl)⟩) ⟨bls, va_recv hK hPs (ci := 1) (q0 := 0) rfl (sW_get (by decide)), fun U hU hW => ⟨rfl, by rw [hU], by rw [hU]; exact hPs, va_K.moved hW.alike hK, hDs.weaken (fun _ _ _ _ => trivial), (by rw [hU]; exact (hX.narrow hAA).moved hW)⟩⟩ rfl rfl hl.1 rfl (lv_room (Nat.le_of_ble_eq_true rfl)) d_L_between_8 ⟨(Nat.le_of_ble_eq_true rfl), (Nat.le_of_ble_eq_true rfl)⟩) hS (fun q _ h => hAA q h) hAA (fun q _ h => hAA q h) (fun E ce q9 u t9 H1 locs1 ht hal hpx hBX hz hk hS1 hce hcv hcl => ?_) (fun u t9 H1 locs1 ht hal hpo hBB hz hk hS1 => ?_)
  · obtain ⟨hE, hP1, hD1⟩ := hBX
    rw [ht] at hP1
    rw [hAe] at hD1
    rcases hE with ⟨hc, rfl⟩ | ⟨hc, rfl⟩
    · have hPw := hP1
      have hDw := hD1
      refine vx_catch (name := eI) hown [] ⟨0, 11, 14, 13⟩ [⟨0, 11, 18, 22⟩] (by rw [htab]; rfl) (fun z hz => by cases hz) (by decide) (by decide) (hG _ (by decide +kernel)) (va_Nw.use rfl hX.2.2.2.2.1) hce hcv hcl ?_
      refine lv_astore (lv' := [(9, .ref q9), (0, .ref (ad 0)), (1, .int (p1)), (2, .int (p2)), (3, .long (p3)), (5, .long (p4)), (7, .long (p5))]) hx hb d_L_between_14 hl (by decide) rfl (fun ls hl => ?_)
      refine lv_iconst (v := 1) hx hb d_L_between_16 (by decide) ?_
      exact W.iret (v := 1) hx hb hr (fun t9 ht hW => ⟨⟨_, (), rfl, hc.symm, by rw [ht]; exact hPw, hDw⟩, hS1.F ht⟩) hS1.2.2 d_L_between_17
    · have hPw := hP1
      have hDw := hD1
      refine vx_catch (name := eA) hown [⟨0, 11, 14, 13⟩] ⟨0, 11, 18, 22⟩ [] (by rw [htab]; rfl) (fun z hz => by rcases List.mem_cons.mp hz with rfl | hz; exact Or.inr ⟨by decide, eI, hG _ (by decide +kernel), hNc⟩; cases hz) (by decide) (by decide) (hG _ (by decide +kernel)) (va_Nw.use rfl hX.2.2.2.2.2) hce hcv hcl ?_
      refine lv_astore (lv' := [(9, .ref q9), (0, .ref (ad 0)), (1, .int (p1)), (2, .int (p2)), (3, .long (p3)), (5, .long (p4)), (7, .long (p5))]) hx hb d_L_between_18 hl (by decide) rfl (fun ls hl => ?_)
      refine lv_iconst (v := 2) hx hb d_L_between_20 (by decide) ?_
      exact W.iret (v := 2) hx hb hr (fun t9 ht hW => ⟨⟨_, (), rfl, hc.symm, by rw [ht]; exact hPw, hDw⟩, hS1.F ht⟩) hS1.2.2 d_L_between_21
  · obtain ⟨hP1, hD1⟩ := hBB
    rw [ht] at hP1
    rw [hAe] at hD1
    have hc := hpo
    have hPw := hP1
    have hDw := hD1
    refine lv_goto (tgt := 22) hx hb d_L_between_11 (by decide) ?_
    refine lv_iconst (v := 0) hx hb d_L_between_22 (by decide) ?_
    exact W.iret (v := 0) hx hb hr (fun t9 ht hW => ⟨⟨_, (), rfl, hc.symm, by rw [ht]; exact hPw, hDw⟩, hS1.F ht⟩) hS1.2.2 d_L_between_23
-- ValueSieveLaw.pattern
theorem d_L_pattern_0 : decode b_L_pattern 0 = .ok (.aload_n 0, 1) := by decide +kernel
theorem d_L_pattern_1 : decode b_L_pattern 1 = .ok (.iload_n 1, 1) := by decide +kernel
theorem d_L_pattern_2 : decode b_L_pattern 2 = .ok (.lload_n 2, 1) := by decide +kernel
theorem d_L_pattern_3 : decode b_L_pattern 3 = .ok (.lload 4, 2) := by decide +kernel
theorem d_L_pattern_5 : decode b_L_pattern 5 = .ok (.lload 6, 2) := by decide +kernel
theorem d_L_pattern_7 : decode b_L_pattern 7 = .ok (.invokevirtual 24, 3) := by decide +kernel
theorem d_L_pattern_10 : decode b_L_pattern 10 = .ok (.goto 11, 3) := by decide +kernel
theorem d_L_pattern_13 : decode b_L_pattern 13 = .ok (.astore 8, 2) := by decide +kernel
theorem d_L_pattern_15 : decode b_L_pattern 15 = .ok (.iconst 1, 1) := by decide +kernel
theorem d_L_pattern_16 : decode b_L_pattern 16 = .ok (.ireturn, 1) := by decide +kernel
theorem d_L_pattern_17 : decode b_L_pattern 17 = .ok (.astore 8, 2) := by decide +kernel
theorem d_L_pattern_19 : decode b_L_pattern 19 = .ok (.iconst 2, 1) := by decide +kernel
theorem d_L_pattern_20 : decode b_L_pattern 20 = .ok (.ireturn, 1) := by decide +kernel
theorem d_L_pattern_21 : decode b_L_pattern 21 = .ok (.iconst 0, 1) := by decide +kernel
theorem d_L_pattern_22 : decode b_L_pattern 22 = .ok (.ireturn, 1) := by decide +kernel
def k_L_pattern : List Cond := Cond.codeWith y_L_pattern b_L_pattern 9 (some .int) [(0, 10, 13, 13), (0, 10, 17, 22)] :: gL
set_option maxRecDepth 100000 in
set_option maxHeartbeats 4000000 in
theorem c_L_pattern (l : Launch) (hlt : l.stackTraces = false) (dC : Nat → ClassId) (dI : Nat → Nat → Nat) (ad : Nat → Nat) (cQ cJ : ClassId) (sz : Nat) (v : Nat → VV) (w : Nat → Int64) (t : Int32) (x : VV) (y : VV) (z : VV) (p1 : Int32) (p2 : Int64) (p3 : Int64) (p4 : Int64) : Met l y_L_pattern k_L_pattern ({ frames := 8, cells := 2, slots := 12, locals := 147 } : Room) (va_Pc [.ref (ad 0), .int (p1), .long (p2), .long (p3), .long (p4)] (hP9 (dC, dI) (sT cQ cJ) (sW ad cQ cJ v w t x y z) sz)) (va_Qi (fun r (_ : Unit) => r = (f_S_pattern v w t x y z p1 p2 p3 p4).1) (mB (dC, dI) (va_A (sW ad cQ cJ v w t x y z) sz) (sW ad cQ cJ (f_S_pattern v w t x y z p1 p2 p3 p4).2.1 (f_S_pattern v w t x y z p1 p2 p3 p4).2.2.1 (f_S_pattern v w t x y z p1 p2 p3 p4).2.2.2.1 (f_S_pattern v w t x y z p1 p2 p3 p4).2.2.2.2.1 (f_S_pattern v w t x y z p1 p2 p3 p4).2.2.2.2.2.1 (f_S_pattern v w t x y z p1 p2 p3 p4).2.2.2.2.2.2)) (va_A (sW ad cQ cJ v w t x y z) sz)) 2 12 (va_A (sW ad cQ cJ v w t x y z) sz) := by
  refine met_WH (cc := b_L_pattern) (maxL := 9) (ret := (some .int)) (hh := [(0, 10, 13, 13), (0, 10, 17, 22)]) (by decide) rfl ?_
  intro p e s m args below meth c s₁ B hml hv
  obtain ⟨rfl, hsz, hP, hK, hD0, hX, hNc⟩ := hv
  have hx := B.exec
  have hb := B.bytes
  have hr := B.returns
  have hts := atoms_spec (ws := k_L_pattern) B.pre
  have hG : ∀ w ∈ gL, w.before _ s = true := fun w h => hts w (List.mem_cons_of_mem _ h)
  have htab := vx_table (x := objectInit) B (hts _ List.mem_cons_self)
  have hown : s.vm.findClass R_L = some m.cls := findClass_of_methodNamed B.named
  have hlocks := B.notSynchronized
  subst hsz
  have hD := hD0.self (sz := s.heap.size)
  generalize hAe : va_A (sW ad cQ cJ v w t x y z) s.heap.size = A at hD hX ⊢
  have hA : ∀ q : Nat, s.heap.size ≤ q → A q := fun q h => by rw [← hAe]; exact Or.inr h
  have hS : va_S A s.heap s.heap [] := va_S.rf
  have hl := lv_entry ([.ref (ad 0), .int (p1), .long (p2), .long (p3), .long (p4)]) (n := 9) (Nat.le_of_ble_eq_true rfl)
  rw [lg_entry_eq]
  generalize (lg_sl ([.ref (ad 0), .int (p1), .long (p2), .long (p3), .long (p4)]) ++ List.replicate (9 - (lg_sl ([.ref (ad 0), .int (p1), .long (p2), .long (p3), .long (p4)])).length) Slot.unset).toArray = ls at hl ⊢
  have hl : lv_has ls 9 [(0, .ref (ad 0)), (1, .int (p1)), (2, .long (p2)), (4, .long (p3)), (6, .long (p4))] := hl
  have hPs := hP
  have hDs := hD
  refine lv_aload_n hx hb d_L_pattern_0 rfl (lv_at hl 0 rfl) ?_
  refine lv_iload_n hx hb d_L_pattern_1 rfl (lv_at hl 1 rfl) ?_
  refine lv_lload_n hx hb d_L_pattern_2 rfl (lv_at hl 2 rfl) ?_
  refine lv_lload hx hb d_L_pattern_3 (lv_at hl 3 rfl) ?_
  refine lv_lload hx hb d_L_pattern_5 (lv_at hl 4 rfl) ?_
  have hAA : ∀ q : Nat, va_A (sW ad cQ cJ v w t x y z) s.heap.size q → A q := fun q h => by rw [← hAe]; exact h
  refine vx_callv (vx_runV (As := [.int (p1), .long (p2), .long (p3), .long (p4)]) (rest := []) ⟨hx, hb, hml, hown, hts⟩ (c_S_pattern l hlt dC dI ad cQ cJ s.heap.size v w t x y z p1 p2 p3 p4) (cwV 4 hts (gVL (by decide +kernel) gw155 gw156 gw0 gw157) rfl rfl rfl (by decide +kernel) ⟨(Nat.le_of_ble_eq_true rfl), (Nat.le_of_ble_eq_true rfl)⟩) ⟨bls, va_recv hK hPs (ci := 1) (q0 := 0) rfl (sW_get (by decide)), fun U hU hW => ⟨rfl, by rw [hU], by rw [hU]; exact hPs, va_K.moved hW.alike hK, hDs.weaken (fun _ _ _ _ => trivial), (by rw [hU]; exact (hX.narrow hAA).moved hW)⟩⟩ rfl rfl hl.1 rfl (lv_room (Nat.le_of_ble_eq_true rfl)) d_L_pattern_7 ⟨(Nat.le_of_ble_eq_true rfl), (Nat.le_of_ble_eq_true rfl)⟩) hS (fun q _ h => hAA q h) hAA (fun q _ h => hAA q h) (fun E ce q9 u t9 H1 locs1 ht hal hpx hBX hz hk hS1 hce hcv hcl => ?_) (fun u t9 H1 locs1 ht hal hpo hBB hz hk hS1 => ?_)
  · obtain ⟨hE, hP1, hD1⟩ := hBX
    rw [ht] at hP1
    rw [hAe] at hD1
    rcases hE with ⟨hc, rfl⟩ | ⟨hc, rfl⟩
    · have hPw := hP1
      have hDw := hD1
      refine vx_catch (name := eI) hown [] ⟨0, 10, 13, 13⟩ [⟨0, 10, 17, 22⟩] (by rw [htab]; rfl) (fun z hz => by cases hz) (by decide) (by decide) (hG _ (by decide +kernel)) (va_Nw.use rfl hX.2.2.2.2.1) hce hcv hcl ?_
      refine lv_astore (lv' := [(8, .ref q9), (0, .ref (ad 0)), (1, .int (p1)), (2, .long (p2)), (4, .long (p3)), (6, .long (p4))]) hx hb d_L_pattern_13 hl (by decide) rfl (fun ls hl => ?_)
      refine lv_iconst (v := 1) hx hb d_L_pattern_15 (by decide) ?_
      exact W.iret (v := 1) hx hb hr (fun t9 ht hW => ⟨⟨_, (), rfl, hc.symm, by rw [ht]; exact hPw, hDw⟩, hS1.F ht⟩) hS1.2.2 d_L_pattern_16
    · have hPw := hP1
      have hDw := hD1
      refine vx_catch (name := eA) hown [⟨0, 10, 13, 13⟩] ⟨0, 10, 17, 22⟩ [] (by rw [htab]; rfl) (fun z hz => by rcases List.mem_cons.mp hz with rfl | hz; exact Or.inr ⟨by decide, eI, hG _ (by decide +kernel), hNc⟩; cases hz) (by decide) (by decide) (hG _ (by decide +kernel)) (va_Nw.use rfl hX.2.2.2.2.2) hce hcv hcl ?_
      refine lv_astore (lv' := [(8, .ref q9), (0, .ref (ad 0)), (1, .int (p1)), (2, .long (p2)), (4, .long (p3)), (6, .long (p4))]) hx hb d_L_pattern_17 hl (by decide) rfl (fun ls hl => ?_)
      refine lv_iconst (v := 2) hx hb d_L_pattern_19 (by decide) ?_
      exact W.iret (v := 2) hx hb hr (fun t9 ht hW => ⟨⟨_, (), rfl, hc.symm, by rw [ht]; exact hPw, hDw⟩, hS1.F ht⟩) hS1.2.2 d_L_pattern_20
  · obtain ⟨hP1, hD1⟩ := hBB
    rw [ht] at hP1
    rw [hAe] at hD1
    have hc := hpo
    have hPw := hP1
    have hDw := hD1
    refine lv_goto (tgt := 21) hx hb d_L_pattern_10 (by decide) ?_
    refine lv_iconst (v := 0) hx hb d_L_pattern_21 (by decide) ?_
    exact W.iret (v := 0) hx hb hr (fun t9 ht hW => ⟨⟨_, (), rfl, hc.symm, by rw [ht]; exact hPw, hDw⟩, hS1.F ht⟩) hS1.2.2 d_L_pattern_22
-- ValueSieveLaw.operate
theorem d_L_operate_0 : decode b_L_operate 0 = .ok (.aload_n 0, 1) := by decide +kernel
theorem d_L_operate_1 : decode b_L_operate 1 = .ok (.iload_n 1, 1) := by decide +kernel
theorem d_L_operate_2 : decode b_L_operate 2 = .ok (.iload_n 2, 1) := by decide +kernel
theorem d_L_operate_3 : decode b_L_operate 3 = .ok (.iload_n 3, 1) := by decide +kernel
theorem d_L_operate_4 : decode b_L_operate 4 = .ok (.iload 4, 2) := by decide +kernel
theorem d_L_operate_6 : decode b_L_operate 6 = .ok (.iload 5, 2) := by decide +kernel
theorem d_L_operate_8 : decode b_L_operate 8 = .ok (.invokevirtual 28, 3) := by decide +kernel
theorem d_L_operate_11 : decode b_L_operate 11 = .ok (.goto 11, 3) := by decide +kernel
theorem d_L_operate_14 : decode b_L_operate 14 = .ok (.astore 6, 2) := by decide +kernel
theorem d_L_operate_16 : decode b_L_operate 16 = .ok (.iconst 1, 1) := by decide +kernel
theorem d_L_operate_17 : decode b_L_operate 17 = .ok (.ireturn, 1) := by decide +kernel
theorem d_L_operate_18 : decode b_L_operate 18 = .ok (.astore 6, 2) := by decide +kernel
theorem d_L_operate_20 : decode b_L_operate 20 = .ok (.iconst 2, 1) := by decide +kernel
theorem d_L_operate_21 : decode b_L_operate 21 = .ok (.ireturn, 1) := by decide +kernel
theorem d_L_operate_22 : decode b_L_operate 22 = .ok (.iconst 0, 1) := by decide +kernel
theorem d_L_operate_23 : decode b_L_operate 23 = .ok (.ireturn, 1) := by decide +kernel
def k_L_operate : List Cond := Cond.codeWith y_L_operate b_L_operate 7 (some .int) [(0, 11, 14, 13), (0, 11, 18, 22)] :: gL
set_option maxRecDepth 100000 in
set_option maxHeartbeats 4000000 in
theorem c_L_operate (l : Launch) (hlt : l.stackTraces = false) (dC : Nat → ClassId) (dI : Nat → Nat → Nat) (ad : Nat → Nat) (cQ cJ : ClassId) (sz : Nat) (v : Nat → VV) (w : Nat → Int64) (t : Int32) (x : VV) (y : VV) (z : VV) (p1 : Int32) (p2 : Int32) (p3 : Int32) (p4 : Int32) (p5 : Int32) : Met l y_L_operate k_L_operate ({ frames := 8, cells := 4, slots := 24, locals := 211 } : Room) (va_Pc [.ref (ad 0), .int (p1), .int (p2), .int (p3), .int (p4), .int (p5)] (hP9 (dC, dI) (sT cQ cJ) (sW ad cQ cJ v w t x y z) sz)) (va_Qi (fun r (_ : Unit) => r = (f_S_operate v w t x y z p1 p2 p3 p4 p5).1) (mB (dC, dI) (va_A (sW ad cQ cJ v w t x y z) sz) (sW ad cQ cJ (f_S_operate v w t x y z p1 p2 p3 p4 p5).2.1 (f_S_operate v w t x y z p1 p2 p3 p4 p5).2.2.1 (f_S_operate v w t x y z p1 p2 p3 p4 p5).2.2.2.1 (f_S_operate v w t x y z p1 p2 p3 p4 p5).2.2.2.2.1 (f_S_operate v w t x y z p1 p2 p3 p4 p5).2.2.2.2.2.1 (f_S_operate v w t x y z p1 p2 p3 p4 p5).2.2.2.2.2.2)) (va_A (sW ad cQ cJ v w t x y z) sz)) 4 24 (va_A (sW ad cQ cJ v w t x y z) sz) := by
  refine met_WH (cc := b_L_operate) (maxL := 7) (ret := (some .int)) (hh := [(0, 11, 14, 13), (0, 11, 18, 22)]) (by decide) rfl ?_
  intro p e s m args below meth c s₁ B hml hv
  obtain ⟨rfl, hsz, hP, hK, hD0, hX, hNc⟩ := hv
  have hx := B.exec
  have hb := B.bytes
  have hr := B.returns
  have hts := atoms_spec (ws := k_L_operate) B.pre
  have hG : ∀ w ∈ gL, w.before _ s = true := fun w h => hts w (List.mem_cons_of_mem _ h)
  have htab := vx_table (x := objectInit) B (hts _ List.mem_cons_self)
  have hown : s.vm.findClass R_L = some m.cls := findClass_of_methodNamed B.named
  have hlocks := B.notSynchronized
  subst hsz
  have hD := hD0.self (sz := s.heap.size)
  generalize hAe : va_A (sW ad cQ cJ v w t x y z) s.heap.size = A at hD hX ⊢
  have hA : ∀ q : Nat, s.heap.size ≤ q → A q := fun q h => by rw [← hAe]; exact Or.inr h
  have hS : va_S A s.heap s.heap [] := va_S.rf
  have hl := lv_entry ([.ref (ad 0), .int (p1), .int (p2), .int (p3), .int (p4), .int (p5)]) (n := 7) (Nat.le_of_ble_eq_true rfl)
  rw [lg_entry_eq]
  generalize (lg_sl ([.ref (ad 0), .int (p1), .int (p2), .int (p3), .int (p4), .int (p5)]) ++ List.replicate (7 - (lg_sl ([.ref (ad 0), .int (p1), .int (p2), .int (p3), .int (p4), .int (p5)])).length) Slot.unset).toArray = ls at hl ⊢
  have hl : lv_has ls 7 [(0, .ref (ad 0)), (1, .int (p1)), (2, .int (p2)), (3, .int (p3)), (4, .int (p4)), (5, .int (p5))] := hl
  have hPs := hP
  have hDs := hD
  refine lv_aload_n hx hb d_L_operate_0 rfl (lv_at hl 0 rfl) ?_
  refine lv_iload_n hx hb d_L_operate_1 rfl (lv_at hl 1 rfl) ?_
  refine lv_iload_n hx hb d_L_operate_2 rfl (lv_at hl 2 rfl) ?_
  refine lv_iload_n hx hb d_L_operate_3 rfl (lv_at hl 3 rfl) ?_
  refine lv_iload hx hb d_L_operate_4 (lv_at hl 4 rfl) ?_
  refine lv_iload hx hb d_L_operate_6 (lv_at hl 5 rfl) ?_
  have hAA : ∀ q : Nat, va_A (sW ad cQ cJ v w t x y z) s.heap.size q → A q := fun q h => by rw [← hAe]; exact h
  refine vx_callv (vx_runV (As := [.int (p1), .int (p2), .int (p3), .int (p4), .int (p5)]) (rest := []) ⟨hx, hb, hml, hown, hts⟩ (c_S_operate l hlt dC dI ad cQ cJ s.heap.size v w t x y z p1 p2 p3 p4 p5) (cwV 5 hts (gVL (by decide +kernel) gw158 gw159 gw0 gw160) rfl rfl rfl (by decide +kernel) ⟨(Nat.le_of_ble_eq_true rfl), (Nat.le_of_ble_eq_true rfl)⟩) ⟨bls, va_recv hK hPs (ci := 1) (q0 := 0) rfl (sW_get (by decide)), fun U hU hW => ⟨rfl, by rw [hU], by rw [hU]; exact hPs, va_K.moved hW.alike hK, hDs.weaken (fun _ _ _ _ => trivial), (by rw [hU]; exact (hX.narrow hAA).moved hW)⟩⟩ rfl rfl hl.1 rfl (lv_room (Nat.le_of_ble_eq_true rfl)) d_L_operate_8 ⟨(Nat.le_of_ble_eq_true rfl), (Nat.le_of_ble_eq_true rfl)⟩) hS (fun q _ h => hAA q h) hAA (fun q _ h => hAA q h) (fun E ce q9 u t9 H1 locs1 ht hal hpx hBX hz hk hS1 hce hcv hcl => ?_) (fun u t9 H1 locs1 ht hal hpo hBB hz hk hS1 => ?_)
  · obtain ⟨hE, hP1, hD1⟩ := hBX
    rw [ht] at hP1
    rw [hAe] at hD1
    rcases hE with ⟨hc, rfl⟩ | ⟨hc, rfl⟩
    · have hPw := hP1
      have hDw := hD1
      refine vx_catch (name := eI) hown [] ⟨0, 11, 14, 13⟩ [⟨0, 11, 18, 22⟩] (by rw [htab]; rfl) (fun z hz => by cases hz) (by decide) (by decide) (hG _ (by decide +kernel)) (va_Nw.use rfl hX.2.2.2.2.1) hce hcv hcl ?_
      refine lv_astore (lv' := [(6, .ref q9), (0, .ref (ad 0)), (1, .int (p1)), (2, .int (p2)), (3, .int (p3)), (4, .int (p4)), (5, .int (p5))]) hx hb d_L_operate_14 hl (by decide) rfl (fun ls hl => ?_)
      refine lv_iconst (v := 1) hx hb d_L_operate_16 (by decide) ?_
      exact W.iret (v := 1) hx hb hr (fun t9 ht hW => ⟨⟨_, (), rfl, hc.symm, by rw [ht]; exact hPw, hDw⟩, hS1.F ht⟩) hS1.2.2 d_L_operate_17
    · have hPw := hP1
      have hDw := hD1
      refine vx_catch (name := eA) hown [⟨0, 11, 14, 13⟩] ⟨0, 11, 18, 22⟩ [] (by rw [htab]; rfl) (fun z hz => by rcases List.mem_cons.mp hz with rfl | hz; exact Or.inr ⟨by decide, eI, hG _ (by decide +kernel), hNc⟩; cases hz) (by decide) (by decide) (hG _ (by decide +kernel)) (va_Nw.use rfl hX.2.2.2.2.2) hce hcv hcl ?_
      refine lv_astore (lv' := [(6, .ref q9), (0, .ref (ad 0)), (1, .int (p1)), (2, .int (p2)), (3, .int (p3)), (4, .int (p4)), (5, .int (p5))]) hx hb d_L_operate_18 hl (by decide) rfl (fun ls hl => ?_)
      refine lv_iconst (v := 2) hx hb d_L_operate_20 (by decide) ?_
      exact W.iret (v := 2) hx hb hr (fun t9 ht hW => ⟨⟨_, (), rfl, hc.symm, by rw [ht]; exact hPw, hDw⟩, hS1.F ht⟩) hS1.2.2 d_L_operate_21
  · obtain ⟨hP1, hD1⟩ := hBB
    rw [ht] at hP1
    rw [hAe] at hD1
    have hc := hpo
    have hPw := hP1
    have hDw := hD1
    refine lv_goto (tgt := 22) hx hb d_L_operate_11 (by decide) ?_
    refine lv_iconst (v := 0) hx hb d_L_operate_22 (by decide) ?_
    exact W.iret (v := 0) hx hb hr (fun t9 ht hW => ⟨⟨_, (), rfl, hc.symm, by rw [ht]; exact hPw, hDw⟩, hS1.F ht⟩) hS1.2.2 d_L_operate_23
-- ValueSieveLaw.cut
theorem d_L_cut_0 : decode b_L_cut 0 = .ok (.aload_n 0, 1) := by decide +kernel
theorem d_L_cut_1 : decode b_L_cut 1 = .ok (.iload_n 1, 1) := by decide +kernel
theorem d_L_cut_2 : decode b_L_cut 2 = .ok (.iload_n 2, 1) := by decide +kernel
theorem d_L_cut_3 : decode b_L_cut 3 = .ok (.iload_n 3, 1) := by decide +kernel
theorem d_L_cut_4 : decode b_L_cut 4 = .ok (.invokevirtual 32, 3) := by decide +kernel
theorem d_L_cut_7 : decode b_L_cut 7 = .ok (.goto 11, 3) := by decide +kernel
theorem d_L_cut_10 : decode b_L_cut 10 = .ok (.astore 4, 2) := by decide +kernel
theorem d_L_cut_12 : decode b_L_cut 12 = .ok (.iconst 1, 1) := by decide +kernel
theorem d_L_cut_13 : decode b_L_cut 13 = .ok (.ireturn, 1) := by decide +kernel
theorem d_L_cut_14 : decode b_L_cut 14 = .ok (.astore 4, 2) := by decide +kernel
theorem d_L_cut_16 : decode b_L_cut 16 = .ok (.iconst 2, 1) := by decide +kernel
theorem d_L_cut_17 : decode b_L_cut 17 = .ok (.ireturn, 1) := by decide +kernel
theorem d_L_cut_18 : decode b_L_cut 18 = .ok (.iconst 0, 1) := by decide +kernel
theorem d_L_cut_19 : decode b_L_cut 19 = .ok (.ireturn, 1) := by decide +kernel
def k_L_cut : List Cond := Cond.codeWith y_L_cut b_L_cut 5 (some .int) [(0, 7, 10, 13), (0, 7, 14, 22)] :: gL
set_option maxRecDepth 100000 in
set_option maxHeartbeats 4000000 in
theorem c_L_cut (l : Launch) (hlt : l.stackTraces = false) (dC : Nat → ClassId) (dI : Nat → Nat → Nat) (ad : Nat → Nat) (cQ cJ : ClassId) (sz : Nat) (v : Nat → VV) (w : Nat → Int64) (t : Int32) (x : VV) (y : VV) (z : VV) (p1 : Int32) (p2 : Int32) (p3 : Int32) : Met l y_L_cut k_L_cut ({ frames := 8, cells := 3, slots := 18, locals := 173 } : Room) (va_Pc [.ref (ad 0), .int (p1), .int (p2), .int (p3)] (hP9 (dC, dI) (sT cQ cJ) (sW ad cQ cJ v w t x y z) sz)) (va_Qi (fun r (_ : Unit) => r = (f_S_cut v w t x y z p1 p2 p3).1) (mB (dC, dI) (va_A (sW ad cQ cJ v w t x y z) sz) (sW ad cQ cJ (f_S_cut v w t x y z p1 p2 p3).2.1 (f_S_cut v w t x y z p1 p2 p3).2.2.1 (f_S_cut v w t x y z p1 p2 p3).2.2.2.1 (f_S_cut v w t x y z p1 p2 p3).2.2.2.2.1 (f_S_cut v w t x y z p1 p2 p3).2.2.2.2.2.1 (f_S_cut v w t x y z p1 p2 p3).2.2.2.2.2.2)) (va_A (sW ad cQ cJ v w t x y z) sz)) 3 18 (va_A (sW ad cQ cJ v w t x y z) sz) := by
  refine met_WH (cc := b_L_cut) (maxL := 5) (ret := (some .int)) (hh := [(0, 7, 10, 13), (0, 7, 14, 22)]) (by decide) rfl ?_
  intro p e s m args below meth c s₁ B hml hv
  obtain ⟨rfl, hsz, hP, hK, hD0, hX, hNc⟩ := hv
  have hx := B.exec
  have hb := B.bytes
  have hr := B.returns
  have hts := atoms_spec (ws := k_L_cut) B.pre
  have hG : ∀ w ∈ gL, w.before _ s = true := fun w h => hts w (List.mem_cons_of_mem _ h)
  have htab := vx_table (x := objectInit) B (hts _ List.mem_cons_self)
  have hown : s.vm.findClass R_L = some m.cls := findClass_of_methodNamed B.named
  have hlocks := B.notSynchronized
  subst hsz
  have hD := hD0.self (sz := s.heap.size)
  generalize hAe : va_A (sW ad cQ cJ v w t x y z) s.heap.size = A at hD hX ⊢
  have hA : ∀ q : Nat, s.heap.size ≤ q → A q := fun q h => by rw [← hAe]; exact Or.inr h
  have hS : va_S A s.heap s.heap [] := va_S.rf
  have hl := lv_entry ([.ref (ad 0), .int (p1), .int (p2), .int (p3)]) (n := 5) (Nat.le_of_ble_eq_true rfl)
  rw [lg_entry_eq]
  generalize (lg_sl ([.ref (ad 0), .int (p1), .int (p2), .int (p3)]) ++ List.replicate (5 - (lg_sl ([.ref (ad 0), .int (p1), .int (p2), .int (p3)])).length) Slot.unset).toArray = ls at hl ⊢
  have hl : lv_has ls 5 [(0, .ref (ad 0)), (1, .int (p1)), (2, .int (p2)), (3, .int (p3))] := hl
  have hPs := hP
  have hDs := hD
  refine lv_aload_n hx hb d_L_cut_0 rfl (lv_at hl 0 rfl) ?_
  refine lv_iload_n hx hb d_L_cut_1 rfl (lv_at hl 1 rfl) ?_
  refine lv_iload_n hx hb d_L_cut_2 rfl (lv_at hl 2 rfl) ?_
  refine lv_iload_n hx hb d_L_cut_3 rfl (lv_at hl 3 rfl) ?_
  have hAA : ∀ q : Nat, va_A (sW ad cQ cJ v w t x y z) s.heap.size q → A q := fun q h => by rw [← hAe]; exact h
  refine vx_callv (vx_runV (As := [.int (p1), .int (p2), .int (p3)]) (rest := []) ⟨hx, hb, hml, hown, hts⟩ (c_S_cut l hlt dC dI ad cQ cJ s.heap.size v w t x y z p1 p2 p3) (cwV 3 hts (gVL (by decide +kernel) gw262 gw263 gw0 gw264) rfl rfl rfl (by decide +kernel) ⟨(Nat.le_of_ble_eq_true rfl), (Nat.le_of_ble_eq_true rfl)⟩) ⟨bls, va_recv hK hPs (ci := 1) (q0 := 0) rfl (sW_get (by decide)), fun U hU hW => ⟨rfl, by rw [hU], by rw [hU]; exact hPs, va_K.moved hW.alike hK, hDs.weaken (fun _ _ _ _ => trivial), (by rw [hU]; exact (hX.narrow hAA).moved hW)⟩⟩ rfl rfl hl.1 rfl (lv_room (Nat.le_of_ble_eq_true rfl)) d_L_cut_4 ⟨(Nat.le_of_ble_eq_true rfl), (Nat.le_of_ble_eq_true rfl)⟩) hS (fun q _ h => hAA q h) hAA (fun q _ h => hAA q h) (fun E ce q9 u t9 H1 locs1 ht hal hpx hBX hz hk hS1 hce hcv hcl => ?_) (fun u t9 H1 locs1 ht hal hpo hBB hz hk hS1 => ?_)
  · obtain ⟨hE, hP1, hD1⟩ := hBX
    rw [ht] at hP1
    rw [hAe] at hD1
    rcases hE with ⟨hc, rfl⟩ | ⟨hc, rfl⟩
    · have hPw := hP1
      have hDw := hD1
      refine vx_catch (name := eI) hown [] ⟨0, 7, 10, 13⟩ [⟨0, 7, 14, 22⟩] (by rw [htab]; rfl) (fun z hz => by cases hz) (by decide) (by decide) (hG _ (by decide +kernel)) (va_Nw.use rfl hX.2.2.2.2.1) hce hcv hcl ?_
      refine lv_astore (lv' := [(4, .ref q9), (0, .ref (ad 0)), (1, .int (p1)), (2, .int (p2)), (3, .int (p3))]) hx hb d_L_cut_10 hl (by decide) rfl (fun ls hl => ?_)
      refine lv_iconst (v := 1) hx hb d_L_cut_12 (by decide) ?_
      exact W.iret (v := 1) hx hb hr (fun t9 ht hW => ⟨⟨_, (), rfl, hc.symm, by rw [ht]; exact hPw, hDw⟩, hS1.F ht⟩) hS1.2.2 d_L_cut_13
    · have hPw := hP1
      have hDw := hD1
      refine vx_catch (name := eA) hown [⟨0, 7, 10, 13⟩] ⟨0, 7, 14, 22⟩ [] (by rw [htab]; rfl) (fun z hz => by rcases List.mem_cons.mp hz with rfl | hz; exact Or.inr ⟨by decide, eI, hG _ (by decide +kernel), hNc⟩; cases hz) (by decide) (by decide) (hG _ (by decide +kernel)) (va_Nw.use rfl hX.2.2.2.2.2) hce hcv hcl ?_
      refine lv_astore (lv' := [(4, .ref q9), (0, .ref (ad 0)), (1, .int (p1)), (2, .int (p2)), (3, .int (p3))]) hx hb d_L_cut_14 hl (by decide) rfl (fun ls hl => ?_)
      refine lv_iconst (v := 2) hx hb d_L_cut_16 (by decide) ?_
      exact W.iret (v := 2) hx hb hr (fun t9 ht hW => ⟨⟨_, (), rfl, hc.symm, by rw [ht]; exact hPw, hDw⟩, hS1.F ht⟩) hS1.2.2 d_L_cut_17
  · obtain ⟨hP1, hD1⟩ := hBB
    rw [ht] at hP1
    rw [hAe] at hD1
    have hc := hpo
    have hPw := hP1
    have hDw := hD1
    refine lv_goto (tgt := 18) hx hb d_L_cut_7 (by decide) ?_
    refine lv_iconst (v := 0) hx hb d_L_cut_18 (by decide) ?_
    exact W.iret (v := 0) hx hb hr (fun t9 ht hW => ⟨⟨_, (), rfl, hc.symm, by rw [ht]; exact hPw, hDw⟩, hS1.F ht⟩) hS1.2.2 d_L_cut_19
-- ValueSieveLaw.extend
theorem d_L_extend_0 : decode b_L_extend 0 = .ok (.aload_n 0, 1) := by decide +kernel
theorem d_L_extend_1 : decode b_L_extend 1 = .ok (.iload_n 1, 1) := by decide +kernel
theorem d_L_extend_2 : decode b_L_extend 2 = .ok (.iload_n 2, 1) := by decide +kernel
theorem d_L_extend_3 : decode b_L_extend 3 = .ok (.iload_n 3, 1) := by decide +kernel
theorem d_L_extend_4 : decode b_L_extend 4 = .ok (.invokevirtual 36, 3) := by decide +kernel
theorem d_L_extend_7 : decode b_L_extend 7 = .ok (.goto 11, 3) := by decide +kernel
theorem d_L_extend_10 : decode b_L_extend 10 = .ok (.astore 4, 2) := by decide +kernel
theorem d_L_extend_12 : decode b_L_extend 12 = .ok (.iconst 1, 1) := by decide +kernel
theorem d_L_extend_13 : decode b_L_extend 13 = .ok (.ireturn, 1) := by decide +kernel
theorem d_L_extend_14 : decode b_L_extend 14 = .ok (.astore 4, 2) := by decide +kernel
theorem d_L_extend_16 : decode b_L_extend 16 = .ok (.iconst 2, 1) := by decide +kernel
theorem d_L_extend_17 : decode b_L_extend 17 = .ok (.ireturn, 1) := by decide +kernel
theorem d_L_extend_18 : decode b_L_extend 18 = .ok (.iconst 0, 1) := by decide +kernel
theorem d_L_extend_19 : decode b_L_extend 19 = .ok (.ireturn, 1) := by decide +kernel
def k_L_extend : List Cond := Cond.codeWith y_L_extend b_L_extend 5 (some .int) [(0, 7, 10, 13), (0, 7, 14, 22)] :: gL
set_option maxRecDepth 100000 in
set_option maxHeartbeats 4000000 in
theorem c_L_extend (l : Launch) (hlt : l.stackTraces = false) (dC : Nat → ClassId) (dI : Nat → Nat → Nat) (ad : Nat → Nat) (cQ cJ : ClassId) (sz : Nat) (v : Nat → VV) (w : Nat → Int64) (t : Int32) (x : VV) (y : VV) (z : VV) (p1 : Int32) (p2 : Int32) (p3 : Int32) : Met l y_L_extend k_L_extend ({ frames := 8, cells := 3, slots := 18, locals := 204 } : Room) (va_Pc [.ref (ad 0), .int (p1), .int (p2), .int (p3)] (hP9 (dC, dI) (sT cQ cJ) (sW ad cQ cJ v w t x y z) sz)) (va_Qi (fun r (_ : Unit) => r = (f_S_extend v w t x y z p1 p2 p3).1) (mB (dC, dI) (va_A (sW ad cQ cJ v w t x y z) sz) (sW ad cQ cJ (f_S_extend v w t x y z p1 p2 p3).2.1 (f_S_extend v w t x y z p1 p2 p3).2.2.1 (f_S_extend v w t x y z p1 p2 p3).2.2.2.1 (f_S_extend v w t x y z p1 p2 p3).2.2.2.2.1 (f_S_extend v w t x y z p1 p2 p3).2.2.2.2.2.1 (f_S_extend v w t x y z p1 p2 p3).2.2.2.2.2.2)) (va_A (sW ad cQ cJ v w t x y z) sz)) 3 18 (va_A (sW ad cQ cJ v w t x y z) sz) := by
  refine met_WH (cc := b_L_extend) (maxL := 5) (ret := (some .int)) (hh := [(0, 7, 10, 13), (0, 7, 14, 22)]) (by decide) rfl ?_
  intro p e s m args below meth c s₁ B hml hv
  obtain ⟨rfl, hsz, hP, hK, hD0, hX, hNc⟩ := hv
  have hx := B.exec
  have hb := B.bytes
  have hr := B.returns
  have hts := atoms_spec (ws := k_L_extend) B.pre
  have hG : ∀ w ∈ gL, w.before _ s = true := fun w h => hts w (List.mem_cons_of_mem _ h)
  have htab := vx_table (x := objectInit) B (hts _ List.mem_cons_self)
  have hown : s.vm.findClass R_L = some m.cls := findClass_of_methodNamed B.named
  have hlocks := B.notSynchronized
  subst hsz
  have hD := hD0.self (sz := s.heap.size)
  generalize hAe : va_A (sW ad cQ cJ v w t x y z) s.heap.size = A at hD hX ⊢
  have hA : ∀ q : Nat, s.heap.size ≤ q → A q := fun q h => by rw [← hAe]; exact Or.inr h
  have hS : va_S A s.heap s.heap [] := va_S.rf
  have hl := lv_entry ([.ref (ad 0), .int (p1), .int (p2), .int (p3)]) (n := 5) (Nat.le_of_ble_eq_true rfl)
  rw [lg_entry_eq]
  generalize (lg_sl ([.ref (ad 0), .int (p1), .int (p2), .int (p3)]) ++ List.replicate (5 - (lg_sl ([.ref (ad 0), .int (p1), .int (p2), .int (p3)])).length) Slot.unset).toArray = ls at hl ⊢
  have hl : lv_has ls 5 [(0, .ref (ad 0)), (1, .int (p1)), (2, .int (p2)), (3, .int (p3))] := hl
  have hPs := hP
  have hDs := hD
  refine lv_aload_n hx hb d_L_extend_0 rfl (lv_at hl 0 rfl) ?_
  refine lv_iload_n hx hb d_L_extend_1 rfl (lv_at hl 1 rfl) ?_
  refine lv_iload_n hx hb d_L_extend_2 rfl (lv_at hl 2 rfl) ?_
  refine lv_iload_n hx hb d_L_extend_3 rfl (lv_at hl 3 rfl) ?_
  have hAA : ∀ q : Nat, va_A (sW ad cQ cJ v w t x y z) s.heap.size q → A q := fun q h => by rw [← hAe]; exact h
  refine vx_callv (vx_runV (As := [.int (p1), .int (p2), .int (p3)]) (rest := []) ⟨hx, hb, hml, hown, hts⟩ (c_S_extend l hlt dC dI ad cQ cJ s.heap.size v w t x y z p1 p2 p3) (cwV 3 hts (gVL (by decide +kernel) gw265 gw266 gw0 gw267) rfl rfl rfl (by decide +kernel) ⟨(Nat.le_of_ble_eq_true rfl), (Nat.le_of_ble_eq_true rfl)⟩) ⟨bls, va_recv hK hPs (ci := 1) (q0 := 0) rfl (sW_get (by decide)), fun U hU hW => ⟨rfl, by rw [hU], by rw [hU]; exact hPs, va_K.moved hW.alike hK, hDs.weaken (fun _ _ _ _ => trivial), (by rw [hU]; exact (hX.narrow hAA).moved hW)⟩⟩ rfl rfl hl.1 rfl (lv_room (Nat.le_of_ble_eq_true rfl)) d_L_extend_4 ⟨(Nat.le_of_ble_eq_true rfl), (Nat.le_of_ble_eq_true rfl)⟩) hS (fun q _ h => hAA q h) hAA (fun q _ h => hAA q h) (fun E ce q9 u t9 H1 locs1 ht hal hpx hBX hz hk hS1 hce hcv hcl => ?_) (fun u t9 H1 locs1 ht hal hpo hBB hz hk hS1 => ?_)
  · obtain ⟨hE, hP1, hD1⟩ := hBX
    rw [ht] at hP1
    rw [hAe] at hD1
    rcases hE with ⟨hc, rfl⟩ | ⟨hc, rfl⟩
    · have hPw := hP1
      have hDw := hD1
      refine vx_catch (name := eI) hown [] ⟨0, 7, 10, 13⟩ [⟨0, 7, 14, 22⟩] (by rw [htab]; rfl) (fun z hz => by cases hz) (by decide) (by decide) (hG _ (by decide +kernel)) (va_Nw.use rfl hX.2.2.2.2.1) hce hcv hcl ?_
      refine lv_astore (lv' := [(4, .ref q9), (0, .ref (ad 0)), (1, .int (p1)), (2, .int (p2)), (3, .int (p3))]) hx hb d_L_extend_10 hl (by decide) rfl (fun ls hl => ?_)
      refine lv_iconst (v := 1) hx hb d_L_extend_12 (by decide) ?_
      exact W.iret (v := 1) hx hb hr (fun t9 ht hW => ⟨⟨_, (), rfl, hc.symm, by rw [ht]; exact hPw, hDw⟩, hS1.F ht⟩) hS1.2.2 d_L_extend_13
    · have hPw := hP1
      have hDw := hD1
      refine vx_catch (name := eA) hown [⟨0, 7, 10, 13⟩] ⟨0, 7, 14, 22⟩ [] (by rw [htab]; rfl) (fun z hz => by rcases List.mem_cons.mp hz with rfl | hz; exact Or.inr ⟨by decide, eI, hG _ (by decide +kernel), hNc⟩; cases hz) (by decide) (by decide) (hG _ (by decide +kernel)) (va_Nw.use rfl hX.2.2.2.2.2) hce hcv hcl ?_
      refine lv_astore (lv' := [(4, .ref q9), (0, .ref (ad 0)), (1, .int (p1)), (2, .int (p2)), (3, .int (p3))]) hx hb d_L_extend_14 hl (by decide) rfl (fun ls hl => ?_)
      refine lv_iconst (v := 2) hx hb d_L_extend_16 (by decide) ?_
      exact W.iret (v := 2) hx hb hr (fun t9 ht hW => ⟨⟨_, (), rfl, hc.symm, by rw [ht]; exact hPw, hDw⟩, hS1.F ht⟩) hS1.2.2 d_L_extend_17
  · obtain ⟨hP1, hD1⟩ := hBB
    rw [ht] at hP1
    rw [hAe] at hD1
    have hc := hpo
    have hPw := hP1
    have hDw := hD1
    refine lv_goto (tgt := 18) hx hb d_L_extend_7 (by decide) ?_
    refine lv_iconst (v := 0) hx hb d_L_extend_18 (by decide) ?_
    exact W.iret (v := 0) hx hb hr (fun t9 ht hW => ⟨⟨_, (), rfl, hc.symm, by rw [ht]; exact hPw, hDw⟩, hS1.F ht⟩) hS1.2.2 d_L_extend_19
-- ValueSieveLaw.swap
theorem d_L_swap_0 : decode b_L_swap 0 = .ok (.aload_n 0, 1) := by decide +kernel
theorem d_L_swap_1 : decode b_L_swap 1 = .ok (.iload_n 1, 1) := by decide +kernel
theorem d_L_swap_2 : decode b_L_swap 2 = .ok (.iload_n 2, 1) := by decide +kernel
theorem d_L_swap_3 : decode b_L_swap 3 = .ok (.iload_n 3, 1) := by decide +kernel
theorem d_L_swap_4 : decode b_L_swap 4 = .ok (.invokevirtual 39, 3) := by decide +kernel
theorem d_L_swap_7 : decode b_L_swap 7 = .ok (.goto 11, 3) := by decide +kernel
theorem d_L_swap_10 : decode b_L_swap 10 = .ok (.astore 4, 2) := by decide +kernel
theorem d_L_swap_12 : decode b_L_swap 12 = .ok (.iconst 1, 1) := by decide +kernel
theorem d_L_swap_13 : decode b_L_swap 13 = .ok (.ireturn, 1) := by decide +kernel
theorem d_L_swap_14 : decode b_L_swap 14 = .ok (.astore 4, 2) := by decide +kernel
theorem d_L_swap_16 : decode b_L_swap 16 = .ok (.iconst 2, 1) := by decide +kernel
theorem d_L_swap_17 : decode b_L_swap 17 = .ok (.ireturn, 1) := by decide +kernel
theorem d_L_swap_18 : decode b_L_swap 18 = .ok (.iconst 0, 1) := by decide +kernel
theorem d_L_swap_19 : decode b_L_swap 19 = .ok (.ireturn, 1) := by decide +kernel
def k_L_swap : List Cond := Cond.codeWith y_L_swap b_L_swap 5 (some .int) [(0, 7, 10, 13), (0, 7, 14, 22)] :: gL
set_option maxRecDepth 100000 in
set_option maxHeartbeats 4000000 in
theorem c_L_swap (l : Launch) (hlt : l.stackTraces = false) (dC : Nat → ClassId) (dI : Nat → Nat → Nat) (ad : Nat → Nat) (cQ cJ : ClassId) (sz : Nat) (v : Nat → VV) (w : Nat → Int64) (t : Int32) (x : VV) (y : VV) (z : VV) (p1 : Int32) (p2 : Int32) (p3 : Int32) : Met l y_L_swap k_L_swap ({ frames := 8, cells := 3, slots := 18, locals := 198 } : Room) (va_Pc [.ref (ad 0), .int (p1), .int (p2), .int (p3)] (hP9 (dC, dI) (sT cQ cJ) (sW ad cQ cJ v w t x y z) sz)) (va_Qi (fun r (_ : Unit) => r = (f_S_swap v w t x y z p1 p2 p3).1) (mB (dC, dI) (va_A (sW ad cQ cJ v w t x y z) sz) (sW ad cQ cJ (f_S_swap v w t x y z p1 p2 p3).2.1 (f_S_swap v w t x y z p1 p2 p3).2.2.1 (f_S_swap v w t x y z p1 p2 p3).2.2.2.1 (f_S_swap v w t x y z p1 p2 p3).2.2.2.2.1 (f_S_swap v w t x y z p1 p2 p3).2.2.2.2.2.1 (f_S_swap v w t x y z p1 p2 p3).2.2.2.2.2.2)) (va_A (sW ad cQ cJ v w t x y z) sz)) 3 18 (va_A (sW ad cQ cJ v w t x y z) sz) := by
  refine met_WH (cc := b_L_swap) (maxL := 5) (ret := (some .int)) (hh := [(0, 7, 10, 13), (0, 7, 14, 22)]) (by decide) rfl ?_
  intro p e s m args below meth c s₁ B hml hv
  obtain ⟨rfl, hsz, hP, hK, hD0, hX, hNc⟩ := hv
  have hx := B.exec
  have hb := B.bytes
  have hr := B.returns
  have hts := atoms_spec (ws := k_L_swap) B.pre
  have hG : ∀ w ∈ gL, w.before _ s = true := fun w h => hts w (List.mem_cons_of_mem _ h)
  have htab := vx_table (x := objectInit) B (hts _ List.mem_cons_self)
  have hown : s.vm.findClass R_L = some m.cls := findClass_of_methodNamed B.named
  have hlocks := B.notSynchronized
  subst hsz
  have hD := hD0.self (sz := s.heap.size)
  generalize hAe : va_A (sW ad cQ cJ v w t x y z) s.heap.size = A at hD hX ⊢
  have hA : ∀ q : Nat, s.heap.size ≤ q → A q := fun q h => by rw [← hAe]; exact Or.inr h
  have hS : va_S A s.heap s.heap [] := va_S.rf
  have hl := lv_entry ([.ref (ad 0), .int (p1), .int (p2), .int (p3)]) (n := 5) (Nat.le_of_ble_eq_true rfl)
  rw [lg_entry_eq]
  generalize (lg_sl ([.ref (ad 0), .int (p1), .int (p2), .int (p3)]) ++ List.replicate (5 - (lg_sl ([.ref (ad 0), .int (p1), .int (p2), .int (p3)])).length) Slot.unset).toArray = ls at hl ⊢
  have hl : lv_has ls 5 [(0, .ref (ad 0)), (1, .int (p1)), (2, .int (p2)), (3, .int (p3))] := hl
  have hPs := hP
  have hDs := hD
  refine lv_aload_n hx hb d_L_swap_0 rfl (lv_at hl 0 rfl) ?_
  refine lv_iload_n hx hb d_L_swap_1 rfl (lv_at hl 1 rfl) ?_
  refine lv_iload_n hx hb d_L_swap_2 rfl (lv_at hl 2 rfl) ?_
  refine lv_iload_n hx hb d_L_swap_3 rfl (lv_at hl 3 rfl) ?_
  have hAA : ∀ q : Nat, va_A (sW ad cQ cJ v w t x y z) s.heap.size q → A q := fun q h => by rw [← hAe]; exact h
  refine vx_callv (vx_runV (As := [.int (p1), .int (p2), .int (p3)]) (rest := []) ⟨hx, hb, hml, hown, hts⟩ (c_S_swap l hlt dC dI ad cQ cJ s.heap.size v w t x y z p1 p2 p3) (cwV 3 hts (gVL (by decide +kernel) gw268 gw269 gw0 gw270) rfl rfl rfl (by decide +kernel) ⟨(Nat.le_of_ble_eq_true rfl), (Nat.le_of_ble_eq_true rfl)⟩) ⟨bls, va_recv hK hPs (ci := 1) (q0 := 0) rfl (sW_get (by decide)), fun U hU hW => ⟨rfl, by rw [hU], by rw [hU]; exact hPs, va_K.moved hW.alike hK, hDs.weaken (fun _ _ _ _ => trivial), (by rw [hU]; exact (hX.narrow hAA).moved hW)⟩⟩ rfl rfl hl.1 rfl (lv_room (Nat.le_of_ble_eq_true rfl)) d_L_swap_4 ⟨(Nat.le_of_ble_eq_true rfl), (Nat.le_of_ble_eq_true rfl)⟩) hS (fun q _ h => hAA q h) hAA (fun q _ h => hAA q h) (fun E ce q9 u t9 H1 locs1 ht hal hpx hBX hz hk hS1 hce hcv hcl => ?_) (fun u t9 H1 locs1 ht hal hpo hBB hz hk hS1 => ?_)
  · obtain ⟨hE, hP1, hD1⟩ := hBX
    rw [ht] at hP1
    rw [hAe] at hD1
    rcases hE with ⟨hc, rfl⟩ | ⟨hc, rfl⟩
    · have hPw := hP1
      have hDw := hD1
      refine vx_catch (name := eI) hown [] ⟨0, 7, 10, 13⟩ [⟨0, 7, 14, 22⟩] (by rw [htab]; rfl) (fun z hz => by cases hz) (by decide) (by decide) (hG _ (by decide +kernel)) (va_Nw.use rfl hX.2.2.2.2.1) hce hcv hcl ?_
      refine lv_astore (lv' := [(4, .ref q9), (0, .ref (ad 0)), (1, .int (p1)), (2, .int (p2)), (3, .int (p3))]) hx hb d_L_swap_10 hl (by decide) rfl (fun ls hl => ?_)
      refine lv_iconst (v := 1) hx hb d_L_swap_12 (by decide) ?_
      exact W.iret (v := 1) hx hb hr (fun t9 ht hW => ⟨⟨_, (), rfl, hc.symm, by rw [ht]; exact hPw, hDw⟩, hS1.F ht⟩) hS1.2.2 d_L_swap_13
    · have hPw := hP1
      have hDw := hD1
      refine vx_catch (name := eA) hown [⟨0, 7, 10, 13⟩] ⟨0, 7, 14, 22⟩ [] (by rw [htab]; rfl) (fun z hz => by rcases List.mem_cons.mp hz with rfl | hz; exact Or.inr ⟨by decide, eI, hG _ (by decide +kernel), hNc⟩; cases hz) (by decide) (by decide) (hG _ (by decide +kernel)) (va_Nw.use rfl hX.2.2.2.2.2) hce hcv hcl ?_
      refine lv_astore (lv' := [(4, .ref q9), (0, .ref (ad 0)), (1, .int (p1)), (2, .int (p2)), (3, .int (p3))]) hx hb d_L_swap_14 hl (by decide) rfl (fun ls hl => ?_)
      refine lv_iconst (v := 2) hx hb d_L_swap_16 (by decide) ?_
      exact W.iret (v := 2) hx hb hr (fun t9 ht hW => ⟨⟨_, (), rfl, hc.symm, by rw [ht]; exact hPw, hDw⟩, hS1.F ht⟩) hS1.2.2 d_L_swap_17
  · obtain ⟨hP1, hD1⟩ := hBB
    rw [ht] at hP1
    rw [hAe] at hD1
    have hc := hpo
    have hPw := hP1
    have hDw := hD1
    refine lv_goto (tgt := 18) hx hb d_L_swap_7 (by decide) ?_
    refine lv_iconst (v := 0) hx hb d_L_swap_18 (by decide) ?_
    exact W.iret (v := 0) hx hb hr (fun t9 ht hW => ⟨⟨_, (), rfl, hc.symm, by rw [ht]; exact hPw, hDw⟩, hS1.F ht⟩) hS1.2.2 d_L_swap_19
theorem ne2_join (v : Nat → VV) (w : Nat → Int64) (t : Int32) (x : VV) (y : VV) (z : VV) (p1 : Int32) (p2 : Int32) (p3 : Int32) (p4 : Int32) : ¬ (f_S_join v w t x y z p1 p2 p3 p4).1 = 2 := by
  unfold f_S_join
  repeat' split
  all_goals first | exact (by decide : ¬ (0 : Int32) = 2) | exact rp_ne2 _
-- ValueSieveLaw.join
theorem d_L_join_0 : decode b_L_join 0 = .ok (.aload_n 0, 1) := by decide +kernel
theorem d_L_join_1 : decode b_L_join 1 = .ok (.iload_n 1, 1) := by decide +kernel
theorem d_L_join_2 : decode b_L_join 2 = .ok (.iload_n 2, 1) := by decide +kernel
theorem d_L_join_3 : decode b_L_join 3 = .ok (.iload_n 3, 1) := by decide +kernel
theorem d_L_join_4 : decode b_L_join 4 = .ok (.iload 4, 2) := by decide +kernel
theorem d_L_join_6 : decode b_L_join 6 = .ok (.invokevirtual 42, 3) := by decide +kernel
theorem d_L_join_9 : decode b_L_join 9 = .ok (.goto 7, 3) := by decide +kernel
theorem d_L_join_12 : decode b_L_join 12 = .ok (.astore 5, 2) := by decide +kernel
theorem d_L_join_14 : decode b_L_join 14 = .ok (.iconst 1, 1) := by decide +kernel
theorem d_L_join_15 : decode b_L_join 15 = .ok (.ireturn, 1) := by decide +kernel
theorem d_L_join_16 : decode b_L_join 16 = .ok (.iconst 0, 1) := by decide +kernel
theorem d_L_join_17 : decode b_L_join 17 = .ok (.ireturn, 1) := by decide +kernel
def k_L_join : List Cond := Cond.codeWith y_L_join b_L_join 6 (some .int) [(0, 9, 12, 13)] :: gL
set_option maxRecDepth 100000 in
set_option maxHeartbeats 4000000 in
theorem c_L_join (l : Launch) (hlt : l.stackTraces = false) (dC : Nat → ClassId) (dI : Nat → Nat → Nat) (ad : Nat → Nat) (cQ cJ : ClassId) (sz : Nat) (v : Nat → VV) (w : Nat → Int64) (t : Int32) (x : VV) (y : VV) (z : VV) (p1 : Int32) (p2 : Int32) (p3 : Int32) (p4 : Int32) : Met l y_L_join k_L_join ({ frames := 8, cells := 3, slots := 18, locals := 164 } : Room) (va_Pc [.ref (ad 0), .int (p1), .int (p2), .int (p3), .int (p4)] (hP9 (dC, dI) (sT cQ cJ) (sW ad cQ cJ v w t x y z) sz)) (va_Qi (fun r (_ : Unit) => r = (f_S_join v w t x y z p1 p2 p3 p4).1) (mB (dC, dI) (va_A (sW ad cQ cJ v w t x y z) sz) (sW ad cQ cJ (f_S_join v w t x y z p1 p2 p3 p4).2.1 (f_S_join v w t x y z p1 p2 p3 p4).2.2.1 (f_S_join v w t x y z p1 p2 p3 p4).2.2.2.1 (f_S_join v w t x y z p1 p2 p3 p4).2.2.2.2.1 (f_S_join v w t x y z p1 p2 p3 p4).2.2.2.2.2.1 (f_S_join v w t x y z p1 p2 p3 p4).2.2.2.2.2.2)) (va_A (sW ad cQ cJ v w t x y z) sz)) 3 18 (va_A (sW ad cQ cJ v w t x y z) sz) := by
  refine met_WH (cc := b_L_join) (maxL := 6) (ret := (some .int)) (hh := [(0, 9, 12, 13)]) (by decide) rfl ?_
  intro p e s m args below meth c s₁ B hml hv
  obtain ⟨rfl, hsz, hP, hK, hD0, hX, hNc⟩ := hv
  have hx := B.exec
  have hb := B.bytes
  have hr := B.returns
  have hts := atoms_spec (ws := k_L_join) B.pre
  have hG : ∀ w ∈ gL, w.before _ s = true := fun w h => hts w (List.mem_cons_of_mem _ h)
  have htab := vx_table (x := objectInit) B (hts _ List.mem_cons_self)
  have hown : s.vm.findClass R_L = some m.cls := findClass_of_methodNamed B.named
  have hlocks := B.notSynchronized
  subst hsz
  have hD := hD0.self (sz := s.heap.size)
  generalize hAe : va_A (sW ad cQ cJ v w t x y z) s.heap.size = A at hD hX ⊢
  have hA : ∀ q : Nat, s.heap.size ≤ q → A q := fun q h => by rw [← hAe]; exact Or.inr h
  have hS : va_S A s.heap s.heap [] := va_S.rf
  have hl := lv_entry ([.ref (ad 0), .int (p1), .int (p2), .int (p3), .int (p4)]) (n := 6) (Nat.le_of_ble_eq_true rfl)
  rw [lg_entry_eq]
  generalize (lg_sl ([.ref (ad 0), .int (p1), .int (p2), .int (p3), .int (p4)]) ++ List.replicate (6 - (lg_sl ([.ref (ad 0), .int (p1), .int (p2), .int (p3), .int (p4)])).length) Slot.unset).toArray = ls at hl ⊢
  have hl : lv_has ls 6 [(0, .ref (ad 0)), (1, .int (p1)), (2, .int (p2)), (3, .int (p3)), (4, .int (p4))] := hl
  have hPs := hP
  have hDs := hD
  refine lv_aload_n hx hb d_L_join_0 rfl (lv_at hl 0 rfl) ?_
  refine lv_iload_n hx hb d_L_join_1 rfl (lv_at hl 1 rfl) ?_
  refine lv_iload_n hx hb d_L_join_2 rfl (lv_at hl 2 rfl) ?_
  refine lv_iload_n hx hb d_L_join_3 rfl (lv_at hl 3 rfl) ?_
  refine lv_iload hx hb d_L_join_4 (lv_at hl 4 rfl) ?_
  have hAA : ∀ q : Nat, va_A (sW ad cQ cJ v w t x y z) s.heap.size q → A q := fun q h => by rw [← hAe]; exact h
  refine vx_callv (vx_runV (As := [.int (p1), .int (p2), .int (p3), .int (p4)]) (rest := []) ⟨hx, hb, hml, hown, hts⟩ (c_S_join l hlt dC dI ad cQ cJ s.heap.size v w t x y z p1 p2 p3 p4) (cwV 4 hts (gVL (by decide +kernel) gw280 gw281 gw0 gw282) rfl rfl rfl (by decide +kernel) ⟨(Nat.le_of_ble_eq_true rfl), (Nat.le_of_ble_eq_true rfl)⟩) ⟨bls, va_recv hK hPs (ci := 1) (q0 := 0) rfl (sW_get (by decide)), fun U hU hW => ⟨rfl, by rw [hU], by rw [hU]; exact hPs, va_K.moved hW.alike hK, hDs.weaken (fun _ _ _ _ => trivial), (by rw [hU]; exact (hX.narrow hAA).moved hW)⟩⟩ rfl rfl hl.1 rfl (lv_room (Nat.le_of_ble_eq_true rfl)) d_L_join_6 ⟨(Nat.le_of_ble_eq_true rfl), (Nat.le_of_ble_eq_true rfl)⟩) hS (fun q _ h => hAA q h) hAA (fun q _ h => hAA q h) (fun E ce q9 u t9 H1 locs1 ht hal hpx hBX hz hk hS1 hce hcv hcl => ?_) (fun u t9 H1 locs1 ht hal hpo hBB hz hk hS1 => ?_)
  · obtain ⟨hE, hP1, hD1⟩ := hBX
    rw [ht] at hP1
    rw [hAe] at hD1
    rcases hE with ⟨hc, rfl⟩ | ⟨hc, rfl⟩
    · have hPw := hP1
      have hDw := hD1
      refine vx_catch (name := eI) hown [] ⟨0, 9, 12, 13⟩ [] (by rw [htab]; rfl) (fun z hz => by cases hz) (by decide) (by decide) (hG _ (by decide +kernel)) (va_Nw.use rfl hX.2.2.2.2.1) hce hcv hcl ?_
      refine lv_astore (lv' := [(5, .ref q9), (0, .ref (ad 0)), (1, .int (p1)), (2, .int (p2)), (3, .int (p3)), (4, .int (p4))]) hx hb d_L_join_12 hl (by decide) rfl (fun ls hl => ?_)
      refine lv_iconst (v := 1) hx hb d_L_join_14 (by decide) ?_
      exact W.iret (v := 1) hx hb hr (fun t9 ht hW => ⟨⟨_, (), rfl, hc.symm, by rw [ht]; exact hPw, hDw⟩, hS1.F ht⟩) hS1.2.2 d_L_join_15
    · exact absurd hc (ne2_join v w t x y z p1 p2 p3 p4)
  · obtain ⟨hP1, hD1⟩ := hBB
    rw [ht] at hP1
    rw [hAe] at hD1
    have hc := hpo
    have hPw := hP1
    have hDw := hD1
    refine lv_goto (tgt := 16) hx hb d_L_join_9 (by decide) ?_
    refine lv_iconst (v := 0) hx hb d_L_join_16 (by decide) ?_
    exact W.iret (v := 0) hx hb hr (fun t9 ht hW => ⟨⟨_, (), rfl, hc.symm, by rw [ht]; exact hPw, hDw⟩, hS1.F ht⟩) hS1.2.2 d_L_join_17
theorem ne2_widen (v : Nat → VV) (w : Nat → Int64) (t : Int32) (x : VV) (y : VV) (z : VV) (p1 : Int32) (p2 : Int32) (p3 : Int32) : ¬ (f_S_widen v w t x y z p1 p2 p3).1 = 2 := by
  unfold f_S_widen
  repeat' split
  all_goals first | exact (by decide : ¬ (0 : Int32) = 2) | exact rp_ne2 _
-- ValueSieveLaw.widen
theorem d_L_widen_0 : decode b_L_widen 0 = .ok (.aload_n 0, 1) := by decide +kernel
theorem d_L_widen_1 : decode b_L_widen 1 = .ok (.iload_n 1, 1) := by decide +kernel
theorem d_L_widen_2 : decode b_L_widen 2 = .ok (.iload_n 2, 1) := by decide +kernel
theorem d_L_widen_3 : decode b_L_widen 3 = .ok (.iload_n 3, 1) := by decide +kernel
theorem d_L_widen_4 : decode b_L_widen 4 = .ok (.invokevirtual 46, 3) := by decide +kernel
theorem d_L_widen_7 : decode b_L_widen 7 = .ok (.goto 7, 3) := by decide +kernel
theorem d_L_widen_10 : decode b_L_widen 10 = .ok (.astore 4, 2) := by decide +kernel
theorem d_L_widen_12 : decode b_L_widen 12 = .ok (.iconst 1, 1) := by decide +kernel
theorem d_L_widen_13 : decode b_L_widen 13 = .ok (.ireturn, 1) := by decide +kernel
theorem d_L_widen_14 : decode b_L_widen 14 = .ok (.iconst 0, 1) := by decide +kernel
theorem d_L_widen_15 : decode b_L_widen 15 = .ok (.ireturn, 1) := by decide +kernel
def k_L_widen : List Cond := Cond.codeWith y_L_widen b_L_widen 5 (some .int) [(0, 7, 10, 13)] :: gL
set_option maxRecDepth 100000 in
set_option maxHeartbeats 4000000 in
theorem c_L_widen (l : Launch) (hlt : l.stackTraces = false) (dC : Nat → ClassId) (dI : Nat → Nat → Nat) (ad : Nat → Nat) (cQ cJ : ClassId) (sz : Nat) (v : Nat → VV) (w : Nat → Int64) (t : Int32) (x : VV) (y : VV) (z : VV) (p1 : Int32) (p2 : Int32) (p3 : Int32) : Met l y_L_widen k_L_widen ({ frames := 8, cells := 3, slots := 18, locals := 163 } : Room) (va_Pc [.ref (ad 0), .int (p1), .int (p2), .int (p3)] (hP9 (dC, dI) (sT cQ cJ) (sW ad cQ cJ v w t x y z) sz)) (va_Qi (fun r (_ : Unit) => r = (f_S_widen v w t x y z p1 p2 p3).1) (mB (dC, dI) (va_A (sW ad cQ cJ v w t x y z) sz) (sW ad cQ cJ (f_S_widen v w t x y z p1 p2 p3).2.1 (f_S_widen v w t x y z p1 p2 p3).2.2.1 (f_S_widen v w t x y z p1 p2 p3).2.2.2.1 (f_S_widen v w t x y z p1 p2 p3).2.2.2.2.1 (f_S_widen v w t x y z p1 p2 p3).2.2.2.2.2.1 (f_S_widen v w t x y z p1 p2 p3).2.2.2.2.2.2)) (va_A (sW ad cQ cJ v w t x y z) sz)) 3 18 (va_A (sW ad cQ cJ v w t x y z) sz) := by
  refine met_WH (cc := b_L_widen) (maxL := 5) (ret := (some .int)) (hh := [(0, 7, 10, 13)]) (by decide) rfl ?_
  intro p e s m args below meth c s₁ B hml hv
  obtain ⟨rfl, hsz, hP, hK, hD0, hX, hNc⟩ := hv
  have hx := B.exec
  have hb := B.bytes
  have hr := B.returns
  have hts := atoms_spec (ws := k_L_widen) B.pre
  have hG : ∀ w ∈ gL, w.before _ s = true := fun w h => hts w (List.mem_cons_of_mem _ h)
  have htab := vx_table (x := objectInit) B (hts _ List.mem_cons_self)
  have hown : s.vm.findClass R_L = some m.cls := findClass_of_methodNamed B.named
  have hlocks := B.notSynchronized
  subst hsz
  have hD := hD0.self (sz := s.heap.size)
  generalize hAe : va_A (sW ad cQ cJ v w t x y z) s.heap.size = A at hD hX ⊢
  have hA : ∀ q : Nat, s.heap.size ≤ q → A q := fun q h => by rw [← hAe]; exact Or.inr h
  have hS : va_S A s.heap s.heap [] := va_S.rf
  have hl := lv_entry ([.ref (ad 0), .int (p1), .int (p2), .int (p3)]) (n := 5) (Nat.le_of_ble_eq_true rfl)
  rw [lg_entry_eq]
  generalize (lg_sl ([.ref (ad 0), .int (p1), .int (p2), .int (p3)]) ++ List.replicate (5 - (lg_sl ([.ref (ad 0), .int (p1), .int (p2), .int (p3)])).length) Slot.unset).toArray = ls at hl ⊢
  have hl : lv_has ls 5 [(0, .ref (ad 0)), (1, .int (p1)), (2, .int (p2)), (3, .int (p3))] := hl
  have hPs := hP
  have hDs := hD
  refine lv_aload_n hx hb d_L_widen_0 rfl (lv_at hl 0 rfl) ?_
  refine lv_iload_n hx hb d_L_widen_1 rfl (lv_at hl 1 rfl) ?_
  refine lv_iload_n hx hb d_L_widen_2 rfl (lv_at hl 2 rfl) ?_
  refine lv_iload_n hx hb d_L_widen_3 rfl (lv_at hl 3 rfl) ?_
  have hAA : ∀ q : Nat, va_A (sW ad cQ cJ v w t x y z) s.heap.size q → A q := fun q h => by rw [← hAe]; exact h
  refine vx_callv (vx_runV (As := [.int (p1), .int (p2), .int (p3)]) (rest := []) ⟨hx, hb, hml, hown, hts⟩ (c_S_widen l hlt dC dI ad cQ cJ s.heap.size v w t x y z p1 p2 p3) (cwV 3 hts (gVL (by decide +kernel) gw287 gw288 gw0 gw289) rfl rfl rfl (by decide +kernel) ⟨(Nat.le_of_ble_eq_true rfl), (Nat.le_of_ble_eq_true rfl)⟩) ⟨bls, va_recv hK hPs (ci := 1) (q0 := 0) rfl (sW_get (by decide)), fun U hU hW => ⟨rfl, by rw [hU], by rw [hU]; exact hPs, va_K.moved hW.alike hK, hDs.weaken (fun _ _ _ _ => trivial), (by rw [hU]; exact (hX.narrow hAA).moved hW)⟩⟩ rfl rfl hl.1 rfl (lv_room (Nat.le_of_ble_eq_true rfl)) d_L_widen_4 ⟨(Nat.le_of_ble_eq_true rfl), (Nat.le_of_ble_eq_true rfl)⟩) hS (fun q _ h => hAA q h) hAA (fun q _ h => hAA q h) (fun E ce q9 u t9 H1 locs1 ht hal hpx hBX hz hk hS1 hce hcv hcl => ?_) (fun u t9 H1 locs1 ht hal hpo hBB hz hk hS1 => ?_)
  · obtain ⟨hE, hP1, hD1⟩ := hBX
    rw [ht] at hP1
    rw [hAe] at hD1
    rcases hE with ⟨hc, rfl⟩ | ⟨hc, rfl⟩
    · have hPw := hP1
      have hDw := hD1
      refine vx_catch (name := eI) hown [] ⟨0, 7, 10, 13⟩ [] (by rw [htab]; rfl) (fun z hz => by cases hz) (by decide) (by decide) (hG _ (by decide +kernel)) (va_Nw.use rfl hX.2.2.2.2.1) hce hcv hcl ?_
      refine lv_astore (lv' := [(4, .ref q9), (0, .ref (ad 0)), (1, .int (p1)), (2, .int (p2)), (3, .int (p3))]) hx hb d_L_widen_10 hl (by decide) rfl (fun ls hl => ?_)
      refine lv_iconst (v := 1) hx hb d_L_widen_12 (by decide) ?_
      exact W.iret (v := 1) hx hb hr (fun t9 ht hW => ⟨⟨_, (), rfl, hc.symm, by rw [ht]; exact hPw, hDw⟩, hS1.F ht⟩) hS1.2.2 d_L_widen_13
    · exact absurd hc (ne2_widen v w t x y z p1 p2 p3)
  · obtain ⟨hP1, hD1⟩ := hBB
    rw [ht] at hP1
    rw [hAe] at hD1
    have hc := hpo
    have hPw := hP1
    have hDw := hD1
    refine lv_goto (tgt := 14) hx hb d_L_widen_7 (by decide) ?_
    refine lv_iconst (v := 0) hx hb d_L_widen_14 (by decide) ?_
    exact W.iret (v := 0) hx hb hr (fun t9 ht hW => ⟨⟨_, (), rfl, hc.symm, by rw [ht]; exact hPw, hDw⟩, hS1.F ht⟩) hS1.2.2 d_L_widen_15
