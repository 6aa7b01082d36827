-- ValueSieveLaw.branch
theorem d_L_branch_0 : decode b_L_branch 0 = .ok (.aload 4, 2) := by decide +kernel
theorem d_L_branch_2 : decode b_L_branch 2 = .ok (.iconst 0, 1) := by decide +kernel
theorem d_L_branch_3 : decode b_L_branch 3 = .ok (.aload_n 0, 1) := by decide +kernel
theorem d_L_branch_4 : decode b_L_branch 4 = .ok (.iload_n 1, 1) := by decide +kernel
theorem d_L_branch_5 : decode b_L_branch 5 = .ok (.iload_n 2, 1) := by decide +kernel
theorem d_L_branch_6 : decode b_L_branch 6 = .ok (.iload_n 3, 1) := by decide +kernel
theorem d_L_branch_7 : decode b_L_branch 7 = .ok (.invokevirtual 49, 3) := by decide +kernel
theorem d_L_branch_10 : decode b_L_branch 10 = .ok (.ifCond .eq 7, 3) := by decide +kernel
theorem d_L_branch_13 : decode b_L_branch 13 = .ok (.lconst 1, 1) := by decide +kernel
theorem d_L_branch_14 : decode b_L_branch 14 = .ok (.goto 4, 3) := by decide +kernel
theorem d_L_branch_17 : decode b_L_branch 17 = .ok (.lconst 0, 1) := by decide +kernel
theorem d_L_branch_18 : decode b_L_branch 18 = .ok (.lastore, 1) := by decide +kernel
theorem d_L_branch_19 : decode b_L_branch 19 = .ok (.goto 11, 3) := by decide +kernel
theorem d_L_branch_22 : decode b_L_branch 22 = .ok (.astore 5, 2) := by decide +kernel
theorem d_L_branch_24 : decode b_L_branch 24 = .ok (.iconst 1, 1) := by decide +kernel
theorem d_L_branch_25 : decode b_L_branch 25 = .ok (.ireturn, 1) := by decide +kernel
theorem d_L_branch_26 : decode b_L_branch 26 = .ok (.astore 5, 2) := by decide +kernel
theorem d_L_branch_28 : decode b_L_branch 28 = .ok (.iconst 2, 1) := by decide +kernel
theorem d_L_branch_29 : decode b_L_branch 29 = .ok (.ireturn, 1) := by decide +kernel
theorem d_L_branch_30 : decode b_L_branch 30 = .ok (.iconst 0, 1) := by decide +kernel
theorem d_L_branch_31 : decode b_L_branch 31 = .ok (.ireturn, 1) := by decide +kernel
def k_L_branch : List Cond := Cond.codeWith y_L_branch b_L_branch 6 (some .int) [(0, 19, 22, 13), (0, 19, 26, 22)] :: gL
set_option maxRecDepth 100000 in
set_option maxHeartbeats 4000000 in
theorem c_L_branch (l : Launch) (hlt : l.stackTraces = false) (dC : Nat → ClassId) (dI : Nat → Nat → Nat) (ad : Nat → Nat) (cQ cJ : ClassId) (sz : Nat) (v : Nat → VV) (w : Nat → Int64) (t : Int32) (x : VV) (y : VV) (z : VV) (p1 : Int32) (p2 : Int32) (p3 : Int32) (oa : Nat) (o : Nat → Int64) : Met l y_L_branch k_L_branch ({ frames := 9, cells := 3, slots := 18, locals := 166 } : Room) (va_Pc [.ref (ad 0), .int (p1), .int (p2), .int (p3), .ref oa] (hP9 (dC, dI) (sT cQ cJ) ((sW ad cQ cJ v w t x y z) ++ [(oa, .inl (cJ, 1, .inr (.inl o)))]) sz)) (va_Qi (fun r (_ : Unit) => r = (f_S_branch v w t x y z p1 p2 p3).1) (mB (dC, dI) (va_A ((sW ad cQ cJ v w t x y z) ++ [(oa, .inl (cJ, 1, .inr (.inl o)))]) sz) ((sW ad cQ cJ (f_S_branch v w t x y z p1 p2 p3).2.2.1 (f_S_branch v w t x y z p1 p2 p3).2.2.2.1 (f_S_branch v w t x y z p1 p2 p3).2.2.2.2.1 (f_S_branch v w t x y z p1 p2 p3).2.2.2.2.2.1 (f_S_branch v w t x y z p1 p2 p3).2.2.2.2.2.2.1 (f_S_branch v w t x y z p1 p2 p3).2.2.2.2.2.2.2) ++ [(oa, .inl (cJ, 1, .inr (.inl (if (f_S_branch v w t x y z p1 p2 p3).1 = 0 then vp_updL o 0 (if (f_S_branch v w t x y z p1 p2 p3).2.1 = 0 then (0 : Int64) else 1) else o))))])) (va_A ((sW ad cQ cJ v w t x y z) ++ [(oa, .inl (cJ, 1, .inr (.inl o)))]) sz)) 3 18 (va_A ((sW ad cQ cJ v w t x y z) ++ [(oa, .inl (cJ, 1, .inr (.inl o)))]) sz) := by
  refine met_WH (cc := b_L_branch) (maxL := 6) (ret := (some .int)) (hh := [(0, 19, 22, 13), (0, 19, 26, 22)]) (by decide) rfl ?_
  intro p e s m args below meth c s₁ B hml hv
  obtain ⟨rfl, hsz, hP, hK, hD0, hX, hNc⟩ := hv
  have hx := B.exec
  have hb := B.bytes
  have hr := B.returns
  have hts := atoms_spec (ws := k_L_branch) B.pre
  have hG : ∀ w ∈ gL, w.before _ s = true := fun w h => hts w (List.mem_cons_of_mem _ h)
  have htab := vx_table (x := objectInit) B (hts _ List.mem_cons_self)
  have hown : s.vm.findClass R_L = some m.cls := findClass_of_methodNamed B.named
  have hlocks := B.notSynchronized
  subst hsz
  have hD := hD0.self (sz := s.heap.size)
  generalize hAe : va_A ((sW ad cQ cJ v w t x y z) ++ [(oa, .inl (cJ, 1, .inr (.inl o)))]) s.heap.size = A at hD hX ⊢
  have hA : ∀ q : Nat, s.heap.size ≤ q → A q := fun q h => by rw [← hAe]; exact Or.inr h
  have hS : va_S A s.heap s.heap [] := va_S.rf
  have hl := lv_entry ([.ref (ad 0), .int (p1), .int (p2), .int (p3), .ref oa]) (n := 6) (Nat.le_of_ble_eq_true rfl)
  rw [lg_entry_eq]
  generalize (lg_sl ([.ref (ad 0), .int (p1), .int (p2), .int (p3), .ref oa]) ++ List.replicate (6 - (lg_sl ([.ref (ad 0), .int (p1), .int (p2), .int (p3), .ref oa])).length) Slot.unset).toArray = ls at hl ⊢
  have hl : lv_has ls 6 [(0, .ref (ad 0)), (1, .int (p1)), (2, .int (p2)), (3, .int (p3)), (4, .ref oa)] := hl
  have hPs := va_P.left hP
  have hDs := va_D.left hD
  refine lv_aload hx hb d_L_branch_0 (lv_at hl 4 rfl) ?_
  refine lv_iconst (v := 0) hx hb d_L_branch_2 (by decide) ?_
  refine lv_aload_n hx hb d_L_branch_3 rfl (lv_at hl 0 rfl) ?_
  refine lv_iload_n hx hb d_L_branch_4 rfl (lv_at hl 1 rfl) ?_
  refine lv_iload_n hx hb d_L_branch_5 rfl (lv_at hl 2 rfl) ?_
  refine lv_iload_n hx hb d_L_branch_6 rfl (lv_at hl 3 rfl) ?_
  have hAA : ∀ q : Nat, va_A (sW ad cQ cJ v w t x y z) s.heap.size q → A q := fun q h => by rw [← hAe]; exact va_A.left h
  refine vx_calli (vx_runV (As := [.int (p1), .int (p2), .int (p3)]) (rest := [.int 0, .ref oa]) ⟨hx, hb, hml, hown, hts⟩ (c_S_branch l hlt dC dI ad cQ cJ s.heap.size v w t x y z p1 p2 p3) (cwV 3 hts (gVL (by decide +kernel) gw290 gw291 gw0 gw292) rfl rfl rfl (by decide +kernel) ⟨(Nat.le_of_ble_eq_true rfl), (Nat.le_of_ble_eq_true rfl)⟩) ⟨bls, va_recv hK hPs (ci := 1) (q0 := 0) rfl (sW_get (by decide)), fun U hU hW => ⟨rfl, by rw [hU], by rw [hU]; exact hPs, va_K.moved hW.alike hK, hDs.weaken (fun _ _ _ _ => trivial), (by rw [hU]; exact (hX.narrow hAA).moved hW)⟩⟩ rfl rfl hl.1 rfl (lv_room (Nat.le_of_ble_eq_true rfl)) d_L_branch_7 ⟨(Nat.le_of_ble_eq_true rfl), (Nat.le_of_ble_eq_true rfl)⟩) hS (fun q _ h => hAA q h) hAA (fun q _ h => hAA q h) (fun E ce q9 u t9 H1 locs1 ht hal hpx hBX hz hk hS1 hce hcv hcl => ?_) (fun r9 u t9 H1 locs1 ht hal hpo hBB hz hk hS1 => ?_)
  · obtain ⟨hE, hP1, hD1⟩ := hBX
    rw [ht] at hP1
    rcases hE with ⟨hc, rfl⟩ | ⟨hc, rfl⟩
    · have hw : (if (f_S_branch v w t x y z p1 p2 p3).1 = 0 then vp_updL o 0 (if (f_S_branch v w t x y z p1 p2 p3).2.1 = 0 then (0 : Int64) else 1) else o) = o := if_neg (by rw [hc]; decide)
      obtain ⟨hPw, hDw⟩ := va_two hP hD hk hP1 hD1 hAA
      rw [← hw] at hPw hDw
      refine vx_catch (name := eI) hown [] ⟨0, 19, 22, 13⟩ [⟨0, 19, 26, 22⟩] (by rw [htab]; rfl) (fun z hz => by cases hz) (by decide) (by decide) (hG _ (by decide +kernel)) (va_Nw.use rfl hX.2.2.2.2.1) hce hcv hcl ?_
      refine lv_astore (lv' := [(5, .ref q9), (0, .ref (ad 0)), (1, .int (p1)), (2, .int (p2)), (3, .int (p3)), (4, .ref oa)]) hx hb d_L_branch_22 hl (by decide) rfl (fun ls hl => ?_)
      refine lv_iconst (v := 1) hx hb d_L_branch_24 (by decide) ?_
      exact W.iret (v := 1) hx hb hr (fun t9 ht hW => ⟨⟨_, (), rfl, hc.symm, by rw [ht]; exact hPw, hDw⟩, hS1.F ht⟩) hS1.2.2 d_L_branch_25
    · have hw : (if (f_S_branch v w t x y z p1 p2 p3).1 = 0 then vp_updL o 0 (if (f_S_branch v w t x y z p1 p2 p3).2.1 = 0 then (0 : Int64) else 1) else o) = o := if_neg (by rw [hc]; decide)
      obtain ⟨hPw, hDw⟩ := va_two hP hD hk hP1 hD1 hAA
      rw [← hw] at hPw hDw
      refine vx_catch (name := eA) hown [⟨0, 19, 22, 13⟩] ⟨0, 19, 26, 22⟩ [] (by rw [htab]; rfl) (fun z hz => by rcases List.mem_cons.mp hz with rfl | hz; exact Or.inr ⟨by decide, eI, hG _ (by decide +kernel), hNc⟩; cases hz) (by decide) (by decide) (hG _ (by decide +kernel)) (va_Nw.use rfl hX.2.2.2.2.2) hce hcv hcl ?_
      refine lv_astore (lv' := [(5, .ref q9), (0, .ref (ad 0)), (1, .int (p1)), (2, .int (p2)), (3, .int (p3)), (4, .ref oa)]) hx hb d_L_branch_26 hl (by decide) rfl (fun ls hl => ?_)
      refine lv_iconst (v := 2) hx hb d_L_branch_28 (by decide) ?_
      exact W.iret (v := 2) hx hb hr (fun t9 ht hW => ⟨⟨_, (), rfl, hc.symm, by rw [ht]; exact hPw, hDw⟩, hS1.F ht⟩) hS1.2.2 d_L_branch_29
  · obtain ⟨hP1, hD1⟩ := hBB
    rw [ht] at hP1
    obtain ⟨hr9, hc⟩ := hpo
    subst hr9
    obtain ⟨hPv, hDv⟩ := va_two hP hD hk hP1 hD1 hAA
    refine lv_if_eq (tgt := 17) hx hb d_L_branch_10 (by decide) (fun hz0 => ?_) (fun hz0 => ?_)
    · refine lv_lconst (v := 0) hx hb d_L_branch_17 (by decide) ?_
      refine va_last hx hb hK hPv hDv hS1 22 1 rfl rfl (show vp_in 0 1 by unfold vp_in; decide) d_L_branch_18 (fun H1 locs1 hPw hDw hS1 => ?_)
      have hw : (if (f_S_branch v w t x y z p1 p2 p3).1 = 0 then vp_updL o 0 (if (f_S_branch v w t x y z p1 p2 p3).2.1 = 0 then (0 : Int64) else 1) else o) = vp_updL o 0 0 := by rw [if_pos hc, if_pos hz0]
      have hPw : va_P (dC, dI) classes ((sW ad cQ cJ (f_S_branch v w t x y z p1 p2 p3).2.2.1 (f_S_branch v w t x y z p1 p2 p3).2.2.2.1 (f_S_branch v w t x y z p1 p2 p3).2.2.2.2.1 (f_S_branch v w t x y z p1 p2 p3).2.2.2.2.2.1 (f_S_branch v w t x y z p1 p2 p3).2.2.2.2.2.2.1 (f_S_branch v w t x y z p1 p2 p3).2.2.2.2.2.2.2) ++ [(oa, .inl (cJ, 1, .inr (.inl (if (f_S_branch v w t x y z p1 p2 p3).1 = 0 then vp_updL o 0 (if (f_S_branch v w t x y z p1 p2 p3).2.1 = 0 then (0 : Int64) else 1) else o))))]) H1 := by rw [hw]; exact hPw
      have hDw : va_D A ((sW ad cQ cJ (f_S_branch v w t x y z p1 p2 p3).2.2.1 (f_S_branch v w t x y z p1 p2 p3).2.2.2.1 (f_S_branch v w t x y z p1 p2 p3).2.2.2.2.1 (f_S_branch v w t x y z p1 p2 p3).2.2.2.2.2.1 (f_S_branch v w t x y z p1 p2 p3).2.2.2.2.2.2.1 (f_S_branch v w t x y z p1 p2 p3).2.2.2.2.2.2.2) ++ [(oa, .inl (cJ, 1, .inr (.inl (if (f_S_branch v w t x y z p1 p2 p3).1 = 0 then vp_updL o 0 (if (f_S_branch v w t x y z p1 p2 p3).2.1 = 0 then (0 : Int64) else 1) else o))))]) := by rw [hw]; exact hDw
      refine lv_goto (tgt := 30) hx hb d_L_branch_19 (by decide) ?_
      refine lv_iconst (v := 0) hx hb d_L_branch_30 (by decide) ?_
      exact W.iret (v := 0) hx hb hr (fun t9 ht hW => ⟨⟨_, (), rfl, hc.symm, by rw [ht]; exact hPw, hDw⟩, hS1.F ht⟩) hS1.2.2 d_L_branch_31
    · refine lv_lconst (v := 1) hx hb d_L_branch_13 (by decide) ?_
      refine lv_goto (tgt := 18) hx hb d_L_branch_14 (by decide) ?_
      refine va_last hx hb hK hPv hDv hS1 22 1 rfl rfl (show vp_in 0 1 by unfold vp_in; decide) d_L_branch_18 (fun H1 locs1 hPw hDw hS1 => ?_)
      have hw : (if (f_S_branch v w t x y z p1 p2 p3).1 = 0 then vp_updL o 0 (if (f_S_branch v w t x y z p1 p2 p3).2.1 = 0 then (0 : Int64) else 1) else o) = vp_updL o 0 1 := by rw [if_pos hc, if_neg hz0]
      have hPw : va_P (dC, dI) classes ((sW ad cQ cJ (f_S_branch v w t x y z p1 p2 p3).2.2.1 (f_S_branch v w t x y z p1 p2 p3).2.2.2.1 (f_S_branch v w t x y z p1 p2 p3).2.2.2.2.1 (f_S_branch v w t x y z p1 p2 p3).2.2.2.2.2.1 (f_S_branch v w t x y z p1 p2 p3).2.2.2.2.2.2.1 (f_S_branch v w t x y z p1 p2 p3).2.2.2.2.2.2.2) ++ [(oa, .inl (cJ, 1, .inr (.inl (if (f_S_branch v w t x y z p1 p2 p3).1 = 0 then vp_updL o 0 (if (f_S_branch v w t x y z p1 p2 p3).2.1 = 0 then (0 : Int64) else 1) else o))))]) H1 := by rw [hw]; exact hPw
      have hDw : va_D A ((sW ad cQ cJ (f_S_branch v w t x y z p1 p2 p3).2.2.1 (f_S_branch v w t x y z p1 p2 p3).2.2.2.1 (f_S_branch v w t x y z p1 p2 p3).2.2.2.2.1 (f_S_branch v w t x y z p1 p2 p3).2.2.2.2.2.1 (f_S_branch v w t x y z p1 p2 p3).2.2.2.2.2.2.1 (f_S_branch v w t x y z p1 p2 p3).2.2.2.2.2.2.2) ++ [(oa, .inl (cJ, 1, .inr (.inl (if (f_S_branch v w t x y z p1 p2 p3).1 = 0 then vp_updL o 0 (if (f_S_branch v w t x y z p1 p2 p3).2.1 = 0 then (0 : Int64) else 1) else o))))]) := by rw [hw]; exact hDw
      refine lv_goto (tgt := 30) hx hb d_L_branch_19 (by decide) ?_
      refine lv_iconst (v := 0) hx hb d_L_branch_30 (by decide) ?_
      exact W.iret (v := 0) hx hb hr (fun t9 ht hW => ⟨⟨_, (), rfl, hc.symm, by rw [ht]; exact hPw, hDw⟩, hS1.F ht⟩) hS1.2.2 d_L_branch_31
-- ValueSieveLaw.decided
theorem d_L_decided_0 : decode b_L_decided 0 = .ok (.aload 4, 2) := by decide +kernel
theorem d_L_decided_2 : decode b_L_decided 2 = .ok (.iconst 0, 1) := by decide +kernel
theorem d_L_decided_3 : decode b_L_decided 3 = .ok (.aload_n 0, 1) := by decide +kernel
theorem d_L_decided_4 : decode b_L_decided 4 = .ok (.iload_n 1, 1) := by decide +kernel
theorem d_L_decided_5 : decode b_L_decided 5 = .ok (.iload_n 2, 1) := by decide +kernel
theorem d_L_decided_6 : decode b_L_decided 6 = .ok (.iload_n 3, 1) := by decide +kernel
theorem d_L_decided_7 : decode b_L_decided 7 = .ok (.invokevirtual 53, 3) := by decide +kernel
theorem d_L_decided_10 : decode b_L_decided 10 = .ok (.i2l, 1) := by decide +kernel
theorem d_L_decided_11 : decode b_L_decided 11 = .ok (.lastore, 1) := by decide +kernel
theorem d_L_decided_12 : decode b_L_decided 12 = .ok (.goto 11, 3) := by decide +kernel
theorem d_L_decided_15 : decode b_L_decided 15 = .ok (.astore 5, 2) := by decide +kernel
theorem d_L_decided_17 : decode b_L_decided 17 = .ok (.iconst 1, 1) := by decide +kernel
theorem d_L_decided_18 : decode b_L_decided 18 = .ok (.ireturn, 1) := by decide +kernel
theorem d_L_decided_19 : decode b_L_decided 19 = .ok (.astore 5, 2) := by decide +kernel
theorem d_L_decided_21 : decode b_L_decided 21 = .ok (.iconst 2, 1) := by decide +kernel
theorem d_L_decided_22 : decode b_L_decided 22 = .ok (.ireturn, 1) := by decide +kernel
theorem d_L_decided_23 : decode b_L_decided 23 = .ok (.iconst 0, 1) := by decide +kernel
theorem d_L_decided_24 : decode b_L_decided 24 = .ok (.ireturn, 1) := by decide +kernel
def k_L_decided : List Cond := Cond.codeWith y_L_decided b_L_decided 6 (some .int) [(0, 12, 15, 13), (0, 12, 19, 22)] :: gL
set_option maxRecDepth 100000 in
set_option maxHeartbeats 4000000 in
theorem c_L_decided (l : Launch) (hlt : l.stackTraces = false) (dC : Nat → ClassId) (dI : Nat → Nat → Nat) (ad : Nat → Nat) (cQ cJ : ClassId) (sz : Nat) (v : Nat → VV) (w : Nat → Int64) (t : Int32) (x : VV) (y : VV) (z : VV) (p1 : Int32) (p2 : Int32) (p3 : Int32) (oa : Nat) (o : Nat → Int64) : Met l y_L_decided k_L_decided ({ frames := 9, cells := 3, slots := 18, locals := 186 } : Room) (va_Pc [.ref (ad 0), .int (p1), .int (p2), .int (p3), .ref oa] (hP9 (dC, dI) (sT cQ cJ) ((sW ad cQ cJ v w t x y z) ++ [(oa, .inl (cJ, 1, .inr (.inl o)))]) sz)) (va_Qi (fun r (_ : Unit) => r = (f_S_decided v w t x y z p1 p2 p3).1) (mB (dC, dI) (va_A ((sW ad cQ cJ v w t x y z) ++ [(oa, .inl (cJ, 1, .inr (.inl o)))]) sz) ((sW ad cQ cJ (f_S_decided v w t x y z p1 p2 p3).2.2.1 (f_S_decided v w t x y z p1 p2 p3).2.2.2.1 (f_S_decided v w t x y z p1 p2 p3).2.2.2.2.1 (f_S_decided v w t x y z p1 p2 p3).2.2.2.2.2.1 (f_S_decided v w t x y z p1 p2 p3).2.2.2.2.2.2.1 (f_S_decided v w t x y z p1 p2 p3).2.2.2.2.2.2.2) ++ [(oa, .inl (cJ, 1, .inr (.inl (if (f_S_decided v w t x y z p1 p2 p3).1 = 0 then vp_updL o 0 ((f_S_decided v w t x y z p1 p2 p3).2.1).toInt64 else o))))])) (va_A ((sW ad cQ cJ v w t x y z) ++ [(oa, .inl (cJ, 1, .inr (.inl o)))]) sz)) 3 18 (va_A ((sW ad cQ cJ v w t x y z) ++ [(oa, .inl (cJ, 1, .inr (.inl o)))]) sz) := by
  refine met_WH (cc := b_L_decided) (maxL := 6) (ret := (some .int)) (hh := [(0, 12, 15, 13), (0, 12, 19, 22)]) (by decide) rfl ?_
  intro p e s m args below meth c s₁ B hml hv
  obtain ⟨rfl, hsz, hP, hK, hD0, hX, hNc⟩ := hv
  have hx := B.exec
  have hb := B.bytes
  have hr := B.returns
  have hts := atoms_spec (ws := k_L_decided) B.pre
  have hG : ∀ w ∈ gL, w.before _ s = true := fun w h => hts w (List.mem_cons_of_mem _ h)
  have htab := vx_table (x := objectInit) B (hts _ List.mem_cons_self)
  have hown : s.vm.findClass R_L = some m.cls := findClass_of_methodNamed B.named
  have hlocks := B.notSynchronized
  subst hsz
  have hD := hD0.self (sz := s.heap.size)
  generalize hAe : va_A ((sW ad cQ cJ v w t x y z) ++ [(oa, .inl (cJ, 1, .inr (.inl o)))]) s.heap.size = A at hD hX ⊢
  have hA : ∀ q : Nat, s.heap.size ≤ q → A q := fun q h => by rw [← hAe]; exact Or.inr h
  have hS : va_S A s.heap s.heap [] := va_S.rf
  have hl := lv_entry ([.ref (ad 0), .int (p1), .int (p2), .int (p3), .ref oa]) (n := 6) (Nat.le_of_ble_eq_true rfl)
  rw [lg_entry_eq]
  generalize (lg_sl ([.ref (ad 0), .int (p1), .int (p2), .int (p3), .ref oa]) ++ List.replicate (6 - (lg_sl ([.ref (ad 0), .int (p1), .int (p2), .int (p3), .ref oa])).length) Slot.unset).toArray = ls at hl ⊢
  have hl : lv_has ls 6 [(0, .ref (ad 0)), (1, .int (p1)), (2, .int (p2)), (3, .int (p3)), (4, .ref oa)] := hl
  have hPs := va_P.left hP
  have hDs := va_D.left hD
  refine lv_aload hx hb d_L_decided_0 (lv_at hl 4 rfl) ?_
  refine lv_iconst (v := 0) hx hb d_L_decided_2 (by decide) ?_
  refine lv_aload_n hx hb d_L_decided_3 rfl (lv_at hl 0 rfl) ?_
  refine lv_iload_n hx hb d_L_decided_4 rfl (lv_at hl 1 rfl) ?_
  refine lv_iload_n hx hb d_L_decided_5 rfl (lv_at hl 2 rfl) ?_
  refine lv_iload_n hx hb d_L_decided_6 rfl (lv_at hl 3 rfl) ?_
  have hAA : ∀ q : Nat, va_A (sW ad cQ cJ v w t x y z) s.heap.size q → A q := fun q h => by rw [← hAe]; exact va_A.left h
  refine vx_calli (vx_runV (As := [.int (p1), .int (p2), .int (p3)]) (rest := [.int 0, .ref oa]) ⟨hx, hb, hml, hown, hts⟩ (c_S_decided l hlt dC dI ad cQ cJ s.heap.size v w t x y z p1 p2 p3) (cwV 3 hts (gVL (by decide +kernel) gw347 gw348 gw0 gw349) rfl rfl rfl (by decide +kernel) ⟨(Nat.le_of_ble_eq_true rfl), (Nat.le_of_ble_eq_true rfl)⟩) ⟨bls, va_recv hK hPs (ci := 1) (q0 := 0) rfl (sW_get (by decide)), fun U hU hW => ⟨rfl, by rw [hU], by rw [hU]; exact hPs, va_K.moved hW.alike hK, hDs.weaken (fun _ _ _ _ => trivial), (by rw [hU]; exact (hX.narrow hAA).moved hW)⟩⟩ rfl rfl hl.1 rfl (lv_room (Nat.le_of_ble_eq_true rfl)) d_L_decided_7 ⟨(Nat.le_of_ble_eq_true rfl), (Nat.le_of_ble_eq_true rfl)⟩) hS (fun q _ h => hAA q h) hAA (fun q _ h => hAA q h) (fun E ce q9 u t9 H1 locs1 ht hal hpx hBX hz hk hS1 hce hcv hcl => ?_) (fun r9 u t9 H1 locs1 ht hal hpo hBB hz hk hS1 => ?_)
  · obtain ⟨hE, hP1, hD1⟩ := hBX
    rw [ht] at hP1
    rcases hE with ⟨hc, rfl⟩ | ⟨hc, rfl⟩
    · have hw : (if (f_S_decided v w t x y z p1 p2 p3).1 = 0 then vp_updL o 0 ((f_S_decided v w t x y z p1 p2 p3).2.1).toInt64 else o) = o := if_neg (by rw [hc]; decide)
      obtain ⟨hPw, hDw⟩ := va_two hP hD hk hP1 hD1 hAA
      rw [← hw] at hPw hDw
      refine vx_catch (name := eI) hown [] ⟨0, 12, 15, 13⟩ [⟨0, 12, 19, 22⟩] (by rw [htab]; rfl) (fun z hz => by cases hz) (by decide) (by decide) (hG _ (by decide +kernel)) (va_Nw.use rfl hX.2.2.2.2.1) hce hcv hcl ?_
      refine lv_astore (lv' := [(5, .ref q9), (0, .ref (ad 0)), (1, .int (p1)), (2, .int (p2)), (3, .int (p3)), (4, .ref oa)]) hx hb d_L_decided_15 hl (by decide) rfl (fun ls hl => ?_)
      refine lv_iconst (v := 1) hx hb d_L_decided_17 (by decide) ?_
      exact W.iret (v := 1) hx hb hr (fun t9 ht hW => ⟨⟨_, (), rfl, hc.symm, by rw [ht]; exact hPw, hDw⟩, hS1.F ht⟩) hS1.2.2 d_L_decided_18
    · have hw : (if (f_S_decided v w t x y z p1 p2 p3).1 = 0 then vp_updL o 0 ((f_S_decided v w t x y z p1 p2 p3).2.1).toInt64 else o) = o := if_neg (by rw [hc]; decide)
      obtain ⟨hPw, hDw⟩ := va_two hP hD hk hP1 hD1 hAA
      rw [← hw] at hPw hDw
      refine vx_catch (name := eA) hown [⟨0, 12, 15, 13⟩] ⟨0, 12, 19, 22⟩ [] (by rw [htab]; rfl) (fun z hz => by rcases List.mem_cons.mp hz with rfl | hz; exact Or.inr ⟨by decide, eI, hG _ (by decide +kernel), hNc⟩; cases hz) (by decide) (by decide) (hG _ (by decide +kernel)) (va_Nw.use rfl hX.2.2.2.2.2) hce hcv hcl ?_
      refine lv_astore (lv' := [(5, .ref q9), (0, .ref (ad 0)), (1, .int (p1)), (2, .int (p2)), (3, .int (p3)), (4, .ref oa)]) hx hb d_L_decided_19 hl (by decide) rfl (fun ls hl => ?_)
      refine lv_iconst (v := 2) hx hb d_L_decided_21 (by decide) ?_
      exact W.iret (v := 2) hx hb hr (fun t9 ht hW => ⟨⟨_, (), rfl, hc.symm, by rw [ht]; exact hPw, hDw⟩, hS1.F ht⟩) hS1.2.2 d_L_decided_22
  · obtain ⟨hP1, hD1⟩ := hBB
    rw [ht] at hP1
    obtain ⟨hr9, hc⟩ := hpo
    subst hr9
    obtain ⟨hPv, hDv⟩ := va_two hP hD hk hP1 hD1 hAA
    refine lv_i2l (v := ((f_S_decided v w t x y z p1 p2 p3).2.1).toInt64) hx hb d_L_decided_10 rfl ?_
    refine va_last hx hb hK hPv hDv hS1 22 1 rfl rfl (show vp_in 0 1 by unfold vp_in; decide) d_L_decided_11 (fun H1 locs1 hPw hDw hS1 => ?_)
    have hw : (if (f_S_decided v w t x y z p1 p2 p3).1 = 0 then vp_updL o 0 ((f_S_decided v w t x y z p1 p2 p3).2.1).toInt64 else o) = vp_updL o 0 ((f_S_decided v w t x y z p1 p2 p3).2.1).toInt64 := by rw [if_pos hc]
    have hPw : va_P (dC, dI) classes ((sW ad cQ cJ (f_S_decided v w t x y z p1 p2 p3).2.2.1 (f_S_decided v w t x y z p1 p2 p3).2.2.2.1 (f_S_decided v w t x y z p1 p2 p3).2.2.2.2.1 (f_S_decided v w t x y z p1 p2 p3).2.2.2.2.2.1 (f_S_decided v w t x y z p1 p2 p3).2.2.2.2.2.2.1 (f_S_decided v w t x y z p1 p2 p3).2.2.2.2.2.2.2) ++ [(oa, .inl (cJ, 1, .inr (.inl (if (f_S_decided v w t x y z p1 p2 p3).1 = 0 then vp_updL o 0 ((f_S_decided v w t x y z p1 p2 p3).2.1).toInt64 else o))))]) H1 := by rw [hw]; exact hPw
    have hDw : va_D A ((sW ad cQ cJ (f_S_decided v w t x y z p1 p2 p3).2.2.1 (f_S_decided v w t x y z p1 p2 p3).2.2.2.1 (f_S_decided v w t x y z p1 p2 p3).2.2.2.2.1 (f_S_decided v w t x y z p1 p2 p3).2.2.2.2.2.1 (f_S_decided v w t x y z p1 p2 p3).2.2.2.2.2.2.1 (f_S_decided v w t x y z p1 p2 p3).2.2.2.2.2.2.2) ++ [(oa, .inl (cJ, 1, .inr (.inl (if (f_S_decided v w t x y z p1 p2 p3).1 = 0 then vp_updL o 0 ((f_S_decided v w t x y z p1 p2 p3).2.1).toInt64 else o))))]) := by rw [hw]; exact hDw
    refine lv_goto (tgt := 23) hx hb d_L_decided_12 (by decide) ?_
    refine lv_iconst (v := 0) hx hb d_L_decided_23 (by decide) ?_
    exact W.iret (v := 0) hx hb hr (fun t9 ht hW => ⟨⟨_, (), rfl, hc.symm, by rw [ht]; exact hPw, hDw⟩, hS1.F ht⟩) hS1.2.2 d_L_decided_24
theorem ne2_within (v : Nat → VV) (w : Nat → Int64) (t : Int32) (x : VV) (y : VV) (z : VV) (p1 : Int32) (p2 : Int32) : ¬ (f_S_within v w t x y z p1 p2).1 = 2 := by
  unfold f_S_within
  repeat' split
  all_goals first | exact (by decide : ¬ (0 : Int32) = 2) | exact rp_ne2 _
-- ValueSieveLaw.within
theorem d_L_within_0 : decode b_L_within 0 = .ok (.aload_n 3, 1) := by decide +kernel
theorem d_L_within_1 : decode b_L_within 1 = .ok (.iconst 0, 1) := by decide +kernel
theorem d_L_within_2 : decode b_L_within 2 = .ok (.aload_n 0, 1) := by decide +kernel
theorem d_L_within_3 : decode b_L_within 3 = .ok (.iload_n 1, 1) := by decide +kernel
theorem d_L_within_4 : decode b_L_within 4 = .ok (.iload_n 2, 1) := by decide +kernel
theorem d_L_within_5 : decode b_L_within 5 = .ok (.invokevirtual 57, 3) := by decide +kernel
theorem d_L_within_8 : decode b_L_within 8 = .ok (.ifCond .eq 7, 3) := by decide +kernel
theorem d_L_within_11 : decode b_L_within 11 = .ok (.lconst 1, 1) := by decide +kernel
theorem d_L_within_12 : decode b_L_within 12 = .ok (.goto 4, 3) := by decide +kernel
theorem d_L_within_15 : decode b_L_within 15 = .ok (.lconst 0, 1) := by decide +kernel
theorem d_L_within_16 : decode b_L_within 16 = .ok (.lastore, 1) := by decide +kernel
theorem d_L_within_17 : decode b_L_within 17 = .ok (.goto 7, 3) := by decide +kernel
theorem d_L_within_20 : decode b_L_within 20 = .ok (.astore 4, 2) := by decide +kernel
theorem d_L_within_22 : decode b_L_within 22 = .ok (.iconst 1, 1) := by decide +kernel
theorem d_L_within_23 : decode b_L_within 23 = .ok (.ireturn, 1) := by decide +kernel
theorem d_L_within_24 : decode b_L_within 24 = .ok (.iconst 0, 1) := by decide +kernel
theorem d_L_within_25 : decode b_L_within 25 = .ok (.ireturn, 1) := by decide +kernel
def k_L_within : List Cond := Cond.codeWith y_L_within b_L_within 5 (some .int) [(0, 17, 20, 13)] :: gL
set_option maxRecDepth 100000 in
set_option maxHeartbeats 4000000 in
theorem c_L_within (l : Launch) (hlt : l.stackTraces = false) (dC : Nat → ClassId) (dI : Nat → Nat → Nat) (ad : Nat → Nat) (cQ cJ : ClassId) (sz : Nat) (v : Nat → VV) (w : Nat → Int64) (t : Int32) (x : VV) (y : VV) (z : VV) (p1 : Int32) (p2 : Int32) (oa : Nat) (o : Nat → Int64) : Met l y_L_within k_L_within ({ frames := 8, cells := 2, slots := 12, locals := 142 } : Room) (va_Pc [.ref (ad 0), .int (p1), .int (p2), .ref oa] (hP9 (dC, dI) (sT cQ cJ) ((sW ad cQ cJ v w t x y z) ++ [(oa, .inl (cJ, 1, .inr (.inl o)))]) sz)) (va_Qi (fun r (_ : Unit) => r = (f_S_within v w t x y z p1 p2).1) (mB (dC, dI) (va_A ((sW ad cQ cJ v w t x y z) ++ [(oa, .inl (cJ, 1, .inr (.inl o)))]) sz) ((sW ad cQ cJ v w t x y z) ++ [(oa, .inl (cJ, 1, .inr (.inl (if (f_S_within v w t x y z p1 p2).1 = 0 then vp_updL o 0 (if (f_S_within v w t x y z p1 p2).2 = 0 then (0 : Int64) else 1) else o))))])) (va_A ((sW ad cQ cJ v w t x y z) ++ [(oa, .inl (cJ, 1, .inr (.inl o)))]) sz)) 2 12 (va_A ((sW ad cQ cJ v w t x y z) ++ [(oa, .inl (cJ, 1, .inr (.inl o)))]) sz) := by
  refine met_WH (cc := b_L_within) (maxL := 5) (ret := (some .int)) (hh := [(0, 17, 20, 13)]) (by decide) rfl ?_
  intro p e s m args below meth c s₁ B hml hv
  obtain ⟨rfl, hsz, hP, hK, hD0, hX, hNc⟩ := hv
  have hx := B.exec
  have hb := B.bytes
  have hr := B.returns
  have hts := atoms_spec (ws := k_L_within) B.pre
  have hG : ∀ w ∈ gL, w.before _ s = true := fun w h => hts w (List.mem_cons_of_mem _ h)
  have htab := vx_table (x := objectInit) B (hts _ List.mem_cons_self)
  have hown : s.vm.findClass R_L = some m.cls := findClass_of_methodNamed B.named
  have hlocks := B.notSynchronized
  subst hsz
  have hD := hD0.self (sz := s.heap.size)
  generalize hAe : va_A ((sW ad cQ cJ v w t x y z) ++ [(oa, .inl (cJ, 1, .inr (.inl o)))]) s.heap.size = A at hD hX ⊢
  have hA : ∀ q : Nat, s.heap.size ≤ q → A q := fun q h => by rw [← hAe]; exact Or.inr h
  have hS : va_S A s.heap s.heap [] := va_S.rf
  have hl := lv_entry ([.ref (ad 0), .int (p1), .int (p2), .ref oa]) (n := 5) (Nat.le_of_ble_eq_true rfl)
  rw [lg_entry_eq]
  generalize (lg_sl ([.ref (ad 0), .int (p1), .int (p2), .ref oa]) ++ List.replicate (5 - (lg_sl ([.ref (ad 0), .int (p1), .int (p2), .ref oa])).length) Slot.unset).toArray = ls at hl ⊢
  have hl : lv_has ls 5 [(0, .ref (ad 0)), (1, .int (p1)), (2, .int (p2)), (3, .ref oa)] := hl
  have hPs := va_P.left hP
  have hDs := va_D.left hD
  refine lv_aload_n hx hb d_L_within_0 rfl (lv_at hl 3 rfl) ?_
  refine lv_iconst (v := 0) hx hb d_L_within_1 (by decide) ?_
  refine lv_aload_n hx hb d_L_within_2 rfl (lv_at hl 0 rfl) ?_
  refine lv_iload_n hx hb d_L_within_3 rfl (lv_at hl 1 rfl) ?_
  refine lv_iload_n hx hb d_L_within_4 rfl (lv_at hl 2 rfl) ?_
  have hAA : ∀ q : Nat, va_A (sW ad cQ cJ v w t x y z) s.heap.size q → A q := fun q h => by rw [← hAe]; exact va_A.left h
  refine vx_calli (vx_runV (As := [.int (p1), .int (p2)]) (rest := [.int 0, .ref oa]) ⟨hx, hb, hml, hown, hts⟩ (c_S_within l hlt dC dI ad cQ cJ s.heap.size v w t x y z p1 p2) (cwV 2 hts (gVL (by decide +kernel) gw353 gw354 gw0 gw355) rfl rfl rfl (by decide +kernel) ⟨(Nat.le_of_ble_eq_true rfl), (Nat.le_of_ble_eq_true rfl)⟩) ⟨bls, va_recv hK hPs (ci := 1) (q0 := 0) rfl (sW_get (by decide)), fun U hU hW => ⟨rfl, by rw [hU], by rw [hU]; exact hPs, va_K.moved hW.alike hK, hDs.weaken (fun _ _ _ _ => trivial), (by rw [hU]; exact (hX.narrow hAA).moved hW)⟩⟩ rfl rfl hl.1 rfl (lv_room (Nat.le_of_ble_eq_true rfl)) d_L_within_5 ⟨(Nat.le_of_ble_eq_true rfl), (Nat.le_of_ble_eq_true rfl)⟩) hS (fun q _ h => hAA q h) hAA (fun q _ h => hAA q h) (fun E ce q9 u t9 H1 locs1 ht hal hpx hBX hz hk hS1 hce hcv hcl => ?_) (fun r9 u t9 H1 locs1 ht hal hpo hBB hz hk hS1 => ?_)
  · obtain ⟨hE, hP1, hD1⟩ := hBX
    rw [ht] at hP1
    rcases hE with ⟨hc, rfl⟩ | ⟨hc, rfl⟩
    · have hw : (if (f_S_within v w t x y z p1 p2).1 = 0 then vp_updL o 0 (if (f_S_within v w t x y z p1 p2).2 = 0 then (0 : Int64) else 1) else o) = o := if_neg (by rw [hc]; decide)
      obtain ⟨hPw, hDw⟩ := va_two hP hD hk hP1 hD1 hAA
      rw [← hw] at hPw hDw
      refine vx_catch (name := eI) hown [] ⟨0, 17, 20, 13⟩ [] (by rw [htab]; rfl) (fun z hz => by cases hz) (by decide) (by decide) (hG _ (by decide +kernel)) (va_Nw.use rfl hX.2.2.2.2.1) hce hcv hcl ?_
      refine lv_astore (lv' := [(4, .ref q9), (0, .ref (ad 0)), (1, .int (p1)), (2, .int (p2)), (3, .ref oa)]) hx hb d_L_within_20 hl (by decide) rfl (fun ls hl => ?_)
      refine lv_iconst (v := 1) hx hb d_L_within_22 (by decide) ?_
      exact W.iret (v := 1) hx hb hr (fun t9 ht hW => ⟨⟨_, (), rfl, hc.symm, by rw [ht]; exact hPw, hDw⟩, hS1.F ht⟩) hS1.2.2 d_L_within_23
    · exact absurd hc (ne2_within v w t x y z p1 p2)
  · obtain ⟨hP1, hD1⟩ := hBB
    rw [ht] at hP1
    obtain ⟨hr9, hc⟩ := hpo
    subst hr9
    obtain ⟨hPv, hDv⟩ := va_two hP hD hk hP1 hD1 hAA
    refine lv_if_eq (tgt := 15) hx hb d_L_within_8 (by decide) (fun hz0 => ?_) (fun hz0 => ?_)
    · refine lv_lconst (v := 0) hx hb d_L_within_15 (by decide) ?_
      refine va_last hx hb hK hPv hDv hS1 22 1 rfl rfl (show vp_in 0 1 by unfold vp_in; decide) d_L_within_16 (fun H1 locs1 hPw hDw hS1 => ?_)
      have hw : (if (f_S_within v w t x y z p1 p2).1 = 0 then vp_updL o 0 (if (f_S_within v w t x y z p1 p2).2 = 0 then (0 : Int64) else 1) else o) = vp_updL o 0 0 := by rw [if_pos hc, if_pos hz0]
      have hPw : va_P (dC, dI) classes ((sW ad cQ cJ v w t x y z) ++ [(oa, .inl (cJ, 1, .inr (.inl (if (f_S_within v w t x y z p1 p2).1 = 0 then vp_updL o 0 (if (f_S_within v w t x y z p1 p2).2 = 0 then (0 : Int64) else 1) else o))))]) H1 := by rw [hw]; exact hPw
      have hDw : va_D A ((sW ad cQ cJ v w t x y z) ++ [(oa, .inl (cJ, 1, .inr (.inl (if (f_S_within v w t x y z p1 p2).1 = 0 then vp_updL o 0 (if (f_S_within v w t x y z p1 p2).2 = 0 then (0 : Int64) else 1) else o))))]) := by rw [hw]; exact hDw
      refine lv_goto (tgt := 24) hx hb d_L_within_17 (by decide) ?_
      refine lv_iconst (v := 0) hx hb d_L_within_24 (by decide) ?_
      exact W.iret (v := 0) hx hb hr (fun t9 ht hW => ⟨⟨_, (), rfl, hc.symm, by rw [ht]; exact hPw, hDw⟩, hS1.F ht⟩) hS1.2.2 d_L_within_25
    · refine lv_lconst (v := 1) hx hb d_L_within_11 (by decide) ?_
      refine lv_goto (tgt := 16) hx hb d_L_within_12 (by decide) ?_
      refine va_last hx hb hK hPv hDv hS1 22 1 rfl rfl (show vp_in 0 1 by unfold vp_in; decide) d_L_within_16 (fun H1 locs1 hPw hDw hS1 => ?_)
      have hw : (if (f_S_within v w t x y z p1 p2).1 = 0 then vp_updL o 0 (if (f_S_within v w t x y z p1 p2).2 = 0 then (0 : Int64) else 1) else o) = vp_updL o 0 1 := by rw [if_pos hc, if_neg hz0]
      have hPw : va_P (dC, dI) classes ((sW ad cQ cJ v w t x y z) ++ [(oa, .inl (cJ, 1, .inr (.inl (if (f_S_within v w t x y z p1 p2).1 = 0 then vp_updL o 0 (if (f_S_within v w t x y z p1 p2).2 = 0 then (0 : Int64) else 1) else o))))]) H1 := by rw [hw]; exact hPw
      have hDw : va_D A ((sW ad cQ cJ v w t x y z) ++ [(oa, .inl (cJ, 1, .inr (.inl (if (f_S_within v w t x y z p1 p2).1 = 0 then vp_updL o 0 (if (f_S_within v w t x y z p1 p2).2 = 0 then (0 : Int64) else 1) else o))))]) := by rw [hw]; exact hDw
      refine lv_goto (tgt := 24) hx hb d_L_within_17 (by decide) ?_
      refine lv_iconst (v := 0) hx hb d_L_within_24 (by decide) ?_
      exact W.iret (v := 0) hx hb hr (fun t9 ht hW => ⟨⟨_, (), rfl, hc.symm, by rw [ht]; exact hPw, hDw⟩, hS1.F ht⟩) hS1.2.2 d_L_within_25
theorem ne2_has (v : Nat → VV) (w : Nat → Int64) (t : Int32) (x : VV) (y : VV) (z : VV) (p1 : Int32) (p2 : Int64) : ¬ (f_S_has v w t x y z p1 p2).1 = 2 := by
  unfold f_S_has
  repeat' split
  all_goals first | exact (by decide : ¬ (0 : Int32) = 2) | exact rp_ne2 _
-- ValueSieveLaw.has
theorem d_L_has_0 : decode b_L_has 0 = .ok (.aload 4, 2) := by decide +kernel
theorem d_L_has_2 : decode b_L_has 2 = .ok (.iconst 0, 1) := by decide +kernel
theorem d_L_has_3 : decode b_L_has 3 = .ok (.aload_n 0, 1) := by decide +kernel
theorem d_L_has_4 : decode b_L_has 4 = .ok (.iload_n 1, 1) := by decide +kernel
theorem d_L_has_5 : decode b_L_has 5 = .ok (.lload_n 2, 1) := by decide +kernel
theorem d_L_has_6 : decode b_L_has 6 = .ok (.invokevirtual 61, 3) := by decide +kernel
theorem d_L_has_9 : decode b_L_has 9 = .ok (.ifCond .eq 7, 3) := by decide +kernel
theorem d_L_has_12 : decode b_L_has 12 = .ok (.lconst 1, 1) := by decide +kernel
theorem d_L_has_13 : decode b_L_has 13 = .ok (.goto 4, 3) := by decide +kernel
theorem d_L_has_16 : decode b_L_has 16 = .ok (.lconst 0, 1) := by decide +kernel
theorem d_L_has_17 : decode b_L_has 17 = .ok (.lastore, 1) := by decide +kernel
theorem d_L_has_18 : decode b_L_has 18 = .ok (.goto 7, 3) := by decide +kernel
theorem d_L_has_21 : decode b_L_has 21 = .ok (.astore 5, 2) := by decide +kernel
theorem d_L_has_23 : decode b_L_has 23 = .ok (.iconst 1, 1) := by decide +kernel
theorem d_L_has_24 : decode b_L_has 24 = .ok (.ireturn, 1) := by decide +kernel
theorem d_L_has_25 : decode b_L_has 25 = .ok (.iconst 0, 1) := by decide +kernel
theorem d_L_has_26 : decode b_L_has 26 = .ok (.ireturn, 1) := by decide +kernel
def k_L_has : List Cond := Cond.codeWith y_L_has b_L_has 6 (some .int) [(0, 18, 21, 13)] :: gL
set_option maxRecDepth 100000 in
set_option maxHeartbeats 4000000 in
theorem c_L_has (l : Launch) (hlt : l.stackTraces = false) (dC : Nat → ClassId) (dI : Nat → Nat → Nat) (ad : Nat → Nat) (cQ cJ : ClassId) (sz : Nat) (v : Nat → VV) (w : Nat → Int64) (t : Int32) (x : VV) (y : VV) (z : VV) (p1 : Int32) (p2 : Int64) (oa : Nat) (o : Nat → Int64) : Met l y_L_has k_L_has ({ frames := 8, cells := 1, slots := 6, locals := 143 } : Room) (va_Pc [.ref (ad 0), .int (p1), .long (p2), .ref oa] (hP9 (dC, dI) (sT cQ cJ) ((sW ad cQ cJ v w t x y z) ++ [(oa, .inl (cJ, 1, .inr (.inl o)))]) sz)) (va_Qi (fun r (_ : Unit) => r = (f_S_has v w t x y z p1 p2).1) (mB (dC, dI) (va_A ((sW ad cQ cJ v w t x y z) ++ [(oa, .inl (cJ, 1, .inr (.inl o)))]) sz) ((sW ad cQ cJ v w t x y z) ++ [(oa, .inl (cJ, 1, .inr (.inl (if (f_S_has v w t x y z p1 p2).1 = 0 then vp_updL o 0 (if (f_S_has v w t x y z p1 p2).2 = 0 then (0 : Int64) else 1) else o))))])) (va_A ((sW ad cQ cJ v w t x y z) ++ [(oa, .inl (cJ, 1, .inr (.inl o)))]) sz)) 1 6 (va_A ((sW ad cQ cJ v w t x y z) ++ [(oa, .inl (cJ, 1, .inr (.inl o)))]) sz) := by
  refine met_WH (cc := b_L_has) (maxL := 6) (ret := (some .int)) (hh := [(0, 18, 21, 13)]) (by decide) rfl ?_
  intro p e s m args below meth c s₁ B hml hv
  obtain ⟨rfl, hsz, hP, hK, hD0, hX, hNc⟩ := hv
  have hx := B.exec
  have hb := B.bytes
  have hr := B.returns
  have hts := atoms_spec (ws := k_L_has) B.pre
  have hG : ∀ w ∈ gL, w.before _ s = true := fun w h => hts w (List.mem_cons_of_mem _ h)
  have htab := vx_table (x := objectInit) B (hts _ List.mem_cons_self)
  have hown : s.vm.findClass R_L = some m.cls := findClass_of_methodNamed B.named
  have hlocks := B.notSynchronized
  subst hsz
  have hD := hD0.self (sz := s.heap.size)
  generalize hAe : va_A ((sW ad cQ cJ v w t x y z) ++ [(oa, .inl (cJ, 1, .inr (.inl o)))]) s.heap.size = A at hD hX ⊢
  have hA : ∀ q : Nat, s.heap.size ≤ q → A q := fun q h => by rw [← hAe]; exact Or.inr h
  have hS : va_S A s.heap s.heap [] := va_S.rf
  have hl := lv_entry ([.ref (ad 0), .int (p1), .long (p2), .ref oa]) (n := 6) (Nat.le_of_ble_eq_true rfl)
  rw [lg_entry_eq]
  generalize (lg_sl ([.ref (ad 0), .int (p1), .long (p2), .ref oa]) ++ List.replicate (6 - (lg_sl ([.ref (ad 0), .int (p1), .long (p2), .ref oa])).length) Slot.unset).toArray = ls at hl ⊢
  have hl : lv_has ls 6 [(0, .ref (ad 0)), (1, .int (p1)), (2, .long (p2)), (4, .ref oa)] := hl
  have hPs := va_P.left hP
  have hDs := va_D.left hD
  refine lv_aload hx hb d_L_has_0 (lv_at hl 3 rfl) ?_
  refine lv_iconst (v := 0) hx hb d_L_has_2 (by decide) ?_
  refine lv_aload_n hx hb d_L_has_3 rfl (lv_at hl 0 rfl) ?_
  refine lv_iload_n hx hb d_L_has_4 rfl (lv_at hl 1 rfl) ?_
  refine lv_lload_n hx hb d_L_has_5 rfl (lv_at hl 2 rfl) ?_
  have hAA : ∀ q : Nat, va_A (sW ad cQ cJ v w t x y z) s.heap.size q → A q := fun q h => by rw [← hAe]; exact va_A.left h
  refine vx_calli (vx_runV (As := [.int (p1), .long (p2)]) (rest := [.int 0, .ref oa]) ⟨hx, hb, hml, hown, hts⟩ (c_S_has l hlt dC dI ad cQ cJ s.heap.size v w t x y z p1 p2) (cwV 2 hts (gVL (by decide +kernel) gw360 gw361 gw0 gw362) rfl rfl rfl (by decide +kernel) ⟨(Nat.le_of_ble_eq_true rfl), (Nat.le_of_ble_eq_true rfl)⟩) ⟨bls, va_recv hK hPs (ci := 1) (q0 := 0) rfl (sW_get (by decide)), fun U hU hW => ⟨rfl, by rw [hU], by rw [hU]; exact hPs, va_K.moved hW.alike hK, hDs.weaken (fun _ _ _ _ => trivial), (by rw [hU]; exact (hX.narrow hAA).moved hW)⟩⟩ rfl rfl hl.1 rfl (lv_room (Nat.le_of_ble_eq_true rfl)) d_L_has_6 ⟨(Nat.le_of_ble_eq_true rfl), (Nat.le_of_ble_eq_true rfl)⟩) hS (fun q _ h => hAA q h) hAA (fun q _ h => hAA q h) (fun E ce q9 u t9 H1 locs1 ht hal hpx hBX hz hk hS1 hce hcv hcl => ?_) (fun r9 u t9 H1 locs1 ht hal hpo hBB hz hk hS1 => ?_)
  · obtain ⟨hE, hP1, hD1⟩ := hBX
    rw [ht] at hP1
    rcases hE with ⟨hc, rfl⟩ | ⟨hc, rfl⟩
    · have hw : (if (f_S_has v w t x y z p1 p2).1 = 0 then vp_updL o 0 (if (f_S_has v w t x y z p1 p2).2 = 0 then (0 : Int64) else 1) else o) = o := if_neg (by rw [hc]; decide)
      obtain ⟨hPw, hDw⟩ := va_two hP hD hk hP1 hD1 hAA
      rw [← hw] at hPw hDw
      refine vx_catch (name := eI) hown [] ⟨0, 18, 21, 13⟩ [] (by rw [htab]; rfl) (fun z hz => by cases hz) (by decide) (by decide) (hG _ (by decide +kernel)) (va_Nw.use rfl hX.2.2.2.2.1) hce hcv hcl ?_
      refine lv_astore (lv' := [(5, .ref q9), (0, .ref (ad 0)), (1, .int (p1)), (2, .long (p2)), (4, .ref oa)]) hx hb d_L_has_21 hl (by decide) rfl (fun ls hl => ?_)
      refine lv_iconst (v := 1) hx hb d_L_has_23 (by decide) ?_
      exact W.iret (v := 1) hx hb hr (fun t9 ht hW => ⟨⟨_, (), rfl, hc.symm, by rw [ht]; exact hPw, hDw⟩, hS1.F ht⟩) hS1.2.2 d_L_has_24
    · exact absurd hc (ne2_has v w t x y z p1 p2)
  · obtain ⟨hP1, hD1⟩ := hBB
    rw [ht] at hP1
    obtain ⟨hr9, hc⟩ := hpo
    subst hr9
    obtain ⟨hPv, hDv⟩ := va_two hP hD hk hP1 hD1 hAA
    refine lv_if_eq (tgt := 16) hx hb d_L_has_9 (by decide) (fun hz0 => ?_) (fun hz0 => ?_)
    · refine lv_lconst (v := 0) hx hb d_L_has_16 (by decide) ?_
      refine va_last hx hb hK hPv hDv hS1 22 1 rfl rfl (show vp_in 0 1 by unfold vp_in; decide) d_L_has_17 (fun H1 locs1 hPw hDw hS1 => ?_)
      have hw : (if (f_S_has v w t x y z p1 p2).1 = 0 then vp_updL o 0 (if (f_S_has v w t x y z p1 p2).2 = 0 then (0 : Int64) else 1) else o) = vp_updL o 0 0 := by rw [if_pos hc, if_pos hz0]
      have hPw : va_P (dC, dI) classes ((sW ad cQ cJ v w t x y z) ++ [(oa, .inl (cJ, 1, .inr (.inl (if (f_S_has v w t x y z p1 p2).1 = 0 then vp_updL o 0 (if (f_S_has v w t x y z p1 p2).2 = 0 then (0 : Int64) else 1) else o))))]) H1 := by rw [hw]; exact hPw
      have hDw : va_D A ((sW ad cQ cJ v w t x y z) ++ [(oa, .inl (cJ, 1, .inr (.inl (if (f_S_has v w t x y z p1 p2).1 = 0 then vp_updL o 0 (if (f_S_has v w t x y z p1 p2).2 = 0 then (0 : Int64) else 1) else o))))]) := by rw [hw]; exact hDw
      refine lv_goto (tgt := 25) hx hb d_L_has_18 (by decide) ?_
      refine lv_iconst (v := 0) hx hb d_L_has_25 (by decide) ?_
      exact W.iret (v := 0) hx hb hr (fun t9 ht hW => ⟨⟨_, (), rfl, hc.symm, by rw [ht]; exact hPw, hDw⟩, hS1.F ht⟩) hS1.2.2 d_L_has_26
    · refine lv_lconst (v := 1) hx hb d_L_has_12 (by decide) ?_
      refine lv_goto (tgt := 17) hx hb d_L_has_13 (by decide) ?_
      refine va_last hx hb hK hPv hDv hS1 22 1 rfl rfl (show vp_in 0 1 by unfold vp_in; decide) d_L_has_17 (fun H1 locs1 hPw hDw hS1 => ?_)
      have hw : (if (f_S_has v w t x y z p1 p2).1 = 0 then vp_updL o 0 (if (f_S_has v w t x y z p1 p2).2 = 0 then (0 : Int64) else 1) else o) = vp_updL o 0 1 := by rw [if_pos hc, if_neg hz0]
      have hPw : va_P (dC, dI) classes ((sW ad cQ cJ v w t x y z) ++ [(oa, .inl (cJ, 1, .inr (.inl (if (f_S_has v w t x y z p1 p2).1 = 0 then vp_updL o 0 (if (f_S_has v w t x y z p1 p2).2 = 0 then (0 : Int64) else 1) else o))))]) H1 := by rw [hw]; exact hPw
      have hDw : va_D A ((sW ad cQ cJ v w t x y z) ++ [(oa, .inl (cJ, 1, .inr (.inl (if (f_S_has v w t x y z p1 p2).1 = 0 then vp_updL o 0 (if (f_S_has v w t x y z p1 p2).2 = 0 then (0 : Int64) else 1) else o))))]) := by rw [hw]; exact hDw
      refine lv_goto (tgt := 25) hx hb d_L_has_18 (by decide) ?_
      refine lv_iconst (v := 0) hx hb d_L_has_25 (by decide) ?_
      exact W.iret (v := 0) hx hb hr (fun t9 ht hW => ⟨⟨_, (), rfl, hc.symm, by rw [ht]; exact hPw, hDw⟩, hS1.F ht⟩) hS1.2.2 d_L_has_26
theorem ne2_least (v : Nat → VV) (w : Nat → Int64) (t : Int32) (x : VV) (y : VV) (z : VV) (p1 : Int32) (p2 : Int32) : ¬ (f_S_least v w t x y z p1 p2).1 = 2 := by
  unfold f_S_least
  repeat' split
  all_goals first | exact (by decide : ¬ (0 : Int32) = 2) | exact rp_ne2 _
-- ValueSieveLaw.least
theorem d_L_least_0 : decode b_L_least 0 = .ok (.aload_n 3, 1) := by decide +kernel
theorem d_L_least_1 : decode b_L_least 1 = .ok (.iconst 0, 1) := by decide +kernel
theorem d_L_least_2 : decode b_L_least 2 = .ok (.aload_n 0, 1) := by decide +kernel
theorem d_L_least_3 : decode b_L_least 3 = .ok (.iload_n 1, 1) := by decide +kernel
theorem d_L_least_4 : decode b_L_least 4 = .ok (.iload_n 2, 1) := by decide +kernel
theorem d_L_least_5 : decode b_L_least 5 = .ok (.invokevirtual 65, 3) := by decide +kernel
theorem d_L_least_8 : decode b_L_least 8 = .ok (.lastore, 1) := by decide +kernel
theorem d_L_least_9 : decode b_L_least 9 = .ok (.goto 7, 3) := by decide +kernel
theorem d_L_least_12 : decode b_L_least 12 = .ok (.astore 4, 2) := by decide +kernel
theorem d_L_least_14 : decode b_L_least 14 = .ok (.iconst 1, 1) := by decide +kernel
theorem d_L_least_15 : decode b_L_least 15 = .ok (.ireturn, 1) := by decide +kernel
theorem d_L_least_16 : decode b_L_least 16 = .ok (.iconst 0, 1) := by decide +kernel
theorem d_L_least_17 : decode b_L_least 17 = .ok (.ireturn, 1) := by decide +kernel
def k_L_least : List Cond := Cond.codeWith y_L_least b_L_least 5 (some .int) [(0, 9, 12, 13)] :: gL
set_option maxRecDepth 100000 in
set_option maxHeartbeats 4000000 in
theorem c_L_least (l : Launch) (hlt : l.stackTraces = false) (dC : Nat → ClassId) (dI : Nat → Nat → Nat) (ad : Nat → Nat) (cQ cJ : ClassId) (sz : Nat) (v : Nat → VV) (w : Nat → Int64) (t : Int32) (x : VV) (y : VV) (z : VV) (p1 : Int32) (p2 : Int32) (oa : Nat) (o : Nat → Int64) : Met l y_L_least k_L_least ({ frames := 8, cells := 1, slots := 6, locals := 142 } : Room) (va_Pc [.ref (ad 0), .int (p1), .int (p2), .ref oa] (hP9 (dC, dI) (sT cQ cJ) ((sW ad cQ cJ v w t x y z) ++ [(oa, .inl (cJ, 1, .inr (.inl o)))]) sz)) (va_Qi (fun r (_ : Unit) => r = (f_S_least v w t x y z p1 p2).1) (mB (dC, dI) (va_A ((sW ad cQ cJ v w t x y z) ++ [(oa, .inl (cJ, 1, .inr (.inl o)))]) sz) ((sW ad cQ cJ v w t x y z) ++ [(oa, .inl (cJ, 1, .inr (.inl (if (f_S_least v w t x y z p1 p2).1 = 0 then vp_updL o 0 (f_S_least v w t x y z p1 p2).2 else o))))])) (va_A ((sW ad cQ cJ v w t x y z) ++ [(oa, .inl (cJ, 1, .inr (.inl o)))]) sz)) 1 6 (va_A ((sW ad cQ cJ v w t x y z) ++ [(oa, .inl (cJ, 1, .inr (.inl o)))]) sz) := by
  refine met_WH (cc := b_L_least) (maxL := 5) (ret := (some .int)) (hh := [(0, 9, 12, 13)]) (by decide) rfl ?_
  intro p e s m args below meth c s₁ B hml hv
  obtain ⟨rfl, hsz, hP, hK, hD0, hX, hNc⟩ := hv
  have hx := B.exec
  have hb := B.bytes
  have hr := B.returns
  have hts := atoms_spec (ws := k_L_least) B.pre
  have hG : ∀ w ∈ gL, w.before _ s = true := fun w h => hts w (List.mem_cons_of_mem _ h)
  have htab := vx_table (x := objectInit) B (hts _ List.mem_cons_self)
  have hown : s.vm.findClass R_L = some m.cls := findClass_of_methodNamed B.named
  have hlocks := B.notSynchronized
  subst hsz
  have hD := hD0.self (sz := s.heap.size)
  generalize hAe : va_A ((sW ad cQ cJ v w t x y z) ++ [(oa, .inl (cJ, 1, .inr (.inl o)))]) s.heap.size = A at hD hX ⊢
  have hA : ∀ q : Nat, s.heap.size ≤ q → A q := fun q h => by rw [← hAe]; exact Or.inr h
  have hS : va_S A s.heap s.heap [] := va_S.rf
  have hl := lv_entry ([.ref (ad 0), .int (p1), .int (p2), .ref oa]) (n := 5) (Nat.le_of_ble_eq_true rfl)
  rw [lg_entry_eq]
  generalize (lg_sl ([.ref (ad 0), .int (p1), .int (p2), .ref oa]) ++ List.replicate (5 - (lg_sl ([.ref (ad 0), .int (p1), .int (p2), .ref oa])).length) Slot.unset).toArray = ls at hl ⊢
  have hl : lv_has ls 5 [(0, .ref (ad 0)), (1, .int (p1)), (2, .int (p2)), (3, .ref oa)] := hl
  have hPs := va_P.left hP
  have hDs := va_D.left hD
  refine lv_aload_n hx hb d_L_least_0 rfl (lv_at hl 3 rfl) ?_
  refine lv_iconst (v := 0) hx hb d_L_least_1 (by decide) ?_
  refine lv_aload_n hx hb d_L_least_2 rfl (lv_at hl 0 rfl) ?_
  refine lv_iload_n hx hb d_L_least_3 rfl (lv_at hl 1 rfl) ?_
  refine lv_iload_n hx hb d_L_least_4 rfl (lv_at hl 2 rfl) ?_
  have hAA : ∀ q : Nat, va_A (sW ad cQ cJ v w t x y z) s.heap.size q → A q := fun q h => by rw [← hAe]; exact va_A.left h
  refine vx_calll (vx_runV (As := [.int (p1), .int (p2)]) (rest := [.int 0, .ref oa]) ⟨hx, hb, hml, hown, hts⟩ (c_S_least l hlt dC dI ad cQ cJ s.heap.size v w t x y z p1 p2) (cwV 2 hts (gVL (by decide +kernel) gw363 gw364 gw0 gw365) rfl rfl rfl (by decide +kernel) ⟨(Nat.le_of_ble_eq_true rfl), (Nat.le_of_ble_eq_true rfl)⟩) ⟨bls, va_recv hK hPs (ci := 1) (q0 := 0) rfl (sW_get (by decide)), fun U hU hW => ⟨rfl, by rw [hU], by rw [hU]; exact hPs, va_K.moved hW.alike hK, hDs.weaken (fun _ _ _ _ => trivial), (by rw [hU]; exact (hX.narrow hAA).moved hW)⟩⟩ rfl rfl hl.1 rfl (lv_room (Nat.le_of_ble_eq_true rfl)) d_L_least_5 ⟨(Nat.le_of_ble_eq_true rfl), (Nat.le_of_ble_eq_true rfl)⟩) hS (fun q _ h => hAA q h) hAA (fun q _ h => hAA q h) (fun E ce q9 u t9 H1 locs1 ht hal hpx hBX hz hk hS1 hce hcv hcl => ?_) (fun r9 u t9 H1 locs1 ht hal hpo hBB hz hk hS1 => ?_)
  · obtain ⟨hE, hP1, hD1⟩ := hBX
    rw [ht] at hP1
    rcases hE with ⟨hc, rfl⟩ | ⟨hc, rfl⟩
    · have hw : (if (f_S_least v w t x y z p1 p2).1 = 0 then vp_updL o 0 (f_S_least v w t x y z p1 p2).2 else o) = o := if_neg (by rw [hc]; decide)
      obtain ⟨hPw, hDw⟩ := va_two hP hD hk hP1 hD1 hAA
      rw [← hw] at hPw hDw
      refine vx_catch (name := eI) hown [] ⟨0, 9, 12, 13⟩ [] (by rw [htab]; rfl) (fun z hz => by cases hz) (by decide) (by decide) (hG _ (by decide +kernel)) (va_Nw.use rfl hX.2.2.2.2.1) hce hcv hcl ?_
      refine lv_astore (lv' := [(4, .ref q9), (0, .ref (ad 0)), (1, .int (p1)), (2, .int (p2)), (3, .ref oa)]) hx hb d_L_least_12 hl (by decide) rfl (fun ls hl => ?_)
      refine lv_iconst (v := 1) hx hb d_L_least_14 (by decide) ?_
      exact W.iret (v := 1) hx hb hr (fun t9 ht hW => ⟨⟨_, (), rfl, hc.symm, by rw [ht]; exact hPw, hDw⟩, hS1.F ht⟩) hS1.2.2 d_L_least_15
    · exact absurd hc (ne2_least v w t x y z p1 p2)
  · obtain ⟨hP1, hD1⟩ := hBB
    rw [ht] at hP1
    obtain ⟨hr9, hc⟩ := hpo
    subst hr9
    obtain ⟨hPv, hDv⟩ := va_two hP hD hk hP1 hD1 hAA
    refine va_last hx hb hK hPv hDv hS1 22 1 rfl rfl (show vp_in 0 1 by unfold vp_in; decide) d_L_least_8 (fun H1 locs1 hPw hDw hS1 => ?_)
    have hw : (if (f_S_least v w t x y z p1 p2).1 = 0 then vp_updL o 0 (f_S_least v w t x y z p1 p2).2 else o) = vp_updL o 0 (f_S_least v w t x y z p1 p2).2 := by rw [if_pos hc]
    have hPw : va_P (dC, dI) classes ((sW ad cQ cJ v w t x y z) ++ [(oa, .inl (cJ, 1, .inr (.inl (if (f_S_least v w t x y z p1 p2).1 = 0 then vp_updL o 0 (f_S_least v w t x y z p1 p2).2 else o))))]) H1 := by rw [hw]; exact hPw
    have hDw : va_D A ((sW ad cQ cJ v w t x y z) ++ [(oa, .inl (cJ, 1, .inr (.inl (if (f_S_least v w t x y z p1 p2).1 = 0 then vp_updL o 0 (f_S_least v w t x y z p1 p2).2 else o))))]) := by rw [hw]; exact hDw
    refine lv_goto (tgt := 16) hx hb d_L_least_9 (by decide) ?_
    refine lv_iconst (v := 0) hx hb d_L_least_16 (by decide) ?_
    exact W.iret (v := 0) hx hb hr (fun t9 ht hW => ⟨⟨_, (), rfl, hc.symm, by rw [ht]; exact hPw, hDw⟩, hS1.F ht⟩) hS1.2.2 d_L_least_17
theorem ne2_greatest (v : Nat → VV) (w : Nat → Int64) (t : Int32) (x : VV) (y : VV) (z : VV) (p1 : Int32) (p2 : Int32) : ¬ (f_S_greatest v w t x y z p1 p2).1 = 2 := by
  unfold f_S_greatest
  repeat' split
  all_goals first | exact (by decide : ¬ (0 : Int32) = 2) | exact rp_ne2 _
-- ValueSieveLaw.greatest
theorem d_L_greatest_0 : decode b_L_greatest 0 = .ok (.aload_n 3, 1) := by decide +kernel
theorem d_L_greatest_1 : decode b_L_greatest 1 = .ok (.iconst 0, 1) := by decide +kernel
theorem d_L_greatest_2 : decode b_L_greatest 2 = .ok (.aload_n 0, 1) := by decide +kernel
theorem d_L_greatest_3 : decode b_L_greatest 3 = .ok (.iload_n 1, 1) := by decide +kernel
theorem d_L_greatest_4 : decode b_L_greatest 4 = .ok (.iload_n 2, 1) := by decide +kernel
theorem d_L_greatest_5 : decode b_L_greatest 5 = .ok (.invokevirtual 69, 3) := by decide +kernel
theorem d_L_greatest_8 : decode b_L_greatest 8 = .ok (.lastore, 1) := by decide +kernel
theorem d_L_greatest_9 : decode b_L_greatest 9 = .ok (.goto 7, 3) := by decide +kernel
theorem d_L_greatest_12 : decode b_L_greatest 12 = .ok (.astore 4, 2) := by decide +kernel
theorem d_L_greatest_14 : decode b_L_greatest 14 = .ok (.iconst 1, 1) := by decide +kernel
theorem d_L_greatest_15 : decode b_L_greatest 15 = .ok (.ireturn, 1) := by decide +kernel
theorem d_L_greatest_16 : decode b_L_greatest 16 = .ok (.iconst 0, 1) := by decide +kernel
theorem d_L_greatest_17 : decode b_L_greatest 17 = .ok (.ireturn, 1) := by decide +kernel
def k_L_greatest : List Cond := Cond.codeWith y_L_greatest b_L_greatest 5 (some .int) [(0, 9, 12, 13)] :: gL
set_option maxRecDepth 100000 in
set_option maxHeartbeats 4000000 in
theorem c_L_greatest (l : Launch) (hlt : l.stackTraces = false) (dC : Nat → ClassId) (dI : Nat → Nat → Nat) (ad : Nat → Nat) (cQ cJ : ClassId) (sz : Nat) (v : Nat → VV) (w : Nat → Int64) (t : Int32) (x : VV) (y : VV) (z : VV) (p1 : Int32) (p2 : Int32) (oa : Nat) (o : Nat → Int64) : Met l y_L_greatest k_L_greatest ({ frames := 8, cells := 1, slots := 6, locals := 142 } : Room) (va_Pc [.ref (ad 0), .int (p1), .int (p2), .ref oa] (hP9 (dC, dI) (sT cQ cJ) ((sW ad cQ cJ v w t x y z) ++ [(oa, .inl (cJ, 1, .inr (.inl o)))]) sz)) (va_Qi (fun r (_ : Unit) => r = (f_S_greatest v w t x y z p1 p2).1) (mB (dC, dI) (va_A ((sW ad cQ cJ v w t x y z) ++ [(oa, .inl (cJ, 1, .inr (.inl o)))]) sz) ((sW ad cQ cJ v w t x y z) ++ [(oa, .inl (cJ, 1, .inr (.inl (if (f_S_greatest v w t x y z p1 p2).1 = 0 then vp_updL o 0 (f_S_greatest v w t x y z p1 p2).2 else o))))])) (va_A ((sW ad cQ cJ v w t x y z) ++ [(oa, .inl (cJ, 1, .inr (.inl o)))]) sz)) 1 6 (va_A ((sW ad cQ cJ v w t x y z) ++ [(oa, .inl (cJ, 1, .inr (.inl o)))]) sz) := by
  refine met_WH (cc := b_L_greatest) (maxL := 5) (ret := (some .int)) (hh := [(0, 9, 12, 13)]) (by decide) rfl ?_
  intro p e s m args below meth c s₁ B hml hv
  obtain ⟨rfl, hsz, hP, hK, hD0, hX, hNc⟩ := hv
  have hx := B.exec
  have hb := B.bytes
  have hr := B.returns
  have hts := atoms_spec (ws := k_L_greatest) B.pre
  have hG : ∀ w ∈ gL, w.before _ s = true := fun w h => hts w (List.mem_cons_of_mem _ h)
  have htab := vx_table (x := objectInit) B (hts _ List.mem_cons_self)
  have hown : s.vm.findClass R_L = some m.cls := findClass_of_methodNamed B.named
  have hlocks := B.notSynchronized
  subst hsz
  have hD := hD0.self (sz := s.heap.size)
  generalize hAe : va_A ((sW ad cQ cJ v w t x y z) ++ [(oa, .inl (cJ, 1, .inr (.inl o)))]) s.heap.size = A at hD hX ⊢
  have hA : ∀ q : Nat, s.heap.size ≤ q → A q := fun q h => by rw [← hAe]; exact Or.inr h
  have hS : va_S A s.heap s.heap [] := va_S.rf
  have hl := lv_entry ([.ref (ad 0), .int (p1), .int (p2), .ref oa]) (n := 5) (Nat.le_of_ble_eq_true rfl)
  rw [lg_entry_eq]
  generalize (lg_sl ([.ref (ad 0), .int (p1), .int (p2), .ref oa]) ++ List.replicate (5 - (lg_sl ([.ref (ad 0), .int (p1), .int (p2), .ref oa])).length) Slot.unset).toArray = ls at hl ⊢
  have hl : lv_has ls 5 [(0, .ref (ad 0)), (1, .int (p1)), (2, .int (p2)), (3, .ref oa)] := hl
  have hPs := va_P.left hP
  have hDs := va_D.left hD
  refine lv_aload_n hx hb d_L_greatest_0 rfl (lv_at hl 3 rfl) ?_
  refine lv_iconst (v := 0) hx hb d_L_greatest_1 (by decide) ?_
  refine lv_aload_n hx hb d_L_greatest_2 rfl (lv_at hl 0 rfl) ?_
  refine lv_iload_n hx hb d_L_greatest_3 rfl (lv_at hl 1 rfl) ?_
  refine lv_iload_n hx hb d_L_greatest_4 rfl (lv_at hl 2 rfl) ?_
  have hAA : ∀ q : Nat, va_A (sW ad cQ cJ v w t x y z) s.heap.size q → A q := fun q h => by rw [← hAe]; exact va_A.left h
  refine vx_calll (vx_runV (As := [.int (p1), .int (p2)]) (rest := [.int 0, .ref oa]) ⟨hx, hb, hml, hown, hts⟩ (c_S_greatest l hlt dC dI ad cQ cJ s.heap.size v w t x y z p1 p2) (cwV 2 hts (gVL (by decide +kernel) gw366 gw367 gw0 gw368) rfl rfl rfl (by decide +kernel) ⟨(Nat.le_of_ble_eq_true rfl), (Nat.le_of_ble_eq_true rfl)⟩) ⟨bls, va_recv hK hPs (ci := 1) (q0 := 0) rfl (sW_get (by decide)), fun U hU hW => ⟨rfl, by rw [hU], by rw [hU]; exact hPs, va_K.moved hW.alike hK, hDs.weaken (fun _ _ _ _ => trivial), (by rw [hU]; exact (hX.narrow hAA).moved hW)⟩⟩ rfl rfl hl.1 rfl (lv_room (Nat.le_of_ble_eq_true rfl)) d_L_greatest_5 ⟨(Nat.le_of_ble_eq_true rfl), (Nat.le_of_ble_eq_true rfl)⟩) hS (fun q _ h => hAA q h) hAA (fun q _ h => hAA q h) (fun E ce q9 u t9 H1 locs1 ht hal hpx hBX hz hk hS1 hce hcv hcl => ?_) (fun r9 u t9 H1 locs1 ht hal hpo hBB hz hk hS1 => ?_)
  · obtain ⟨hE, hP1, hD1⟩ := hBX
    rw [ht] at hP1
    rcases hE with ⟨hc, rfl⟩ | ⟨hc, rfl⟩
    · have hw : (if (f_S_greatest v w t x y z p1 p2).1 = 0 then vp_updL o 0 (f_S_greatest v w t x y z p1 p2).2 else o) = o := if_neg (by rw [hc]; decide)
      obtain ⟨hPw, hDw⟩ := va_two hP hD hk hP1 hD1 hAA
      rw [← hw] at hPw hDw
      refine vx_catch (name := eI) hown [] ⟨0, 9, 12, 13⟩ [] (by rw [htab]; rfl) (fun z hz => by cases hz) (by decide) (by decide) (hG _ (by decide +kernel)) (va_Nw.use rfl hX.2.2.2.2.1) hce hcv hcl ?_
      refine lv_astore (lv' := [(4, .ref q9), (0, .ref (ad 0)), (1, .int (p1)), (2, .int (p2)), (3, .ref oa)]) hx hb d_L_greatest_12 hl (by decide) rfl (fun ls hl => ?_)
      refine lv_iconst (v := 1) hx hb d_L_greatest_14 (by decide) ?_
      exact W.iret (v := 1) hx hb hr (fun t9 ht hW => ⟨⟨_, (), rfl, hc.symm, by rw [ht]; exact hPw, hDw⟩, hS1.F ht⟩) hS1.2.2 d_L_greatest_15
    · exact absurd hc (ne2_greatest v w t x y z p1 p2)
  · obtain ⟨hP1, hD1⟩ := hBB
    rw [ht] at hP1
    obtain ⟨hr9, hc⟩ := hpo
    subst hr9
    obtain ⟨hPv, hDv⟩ := va_two hP hD hk hP1 hD1 hAA
    refine va_last hx hb hK hPv hDv hS1 22 1 rfl rfl (show vp_in 0 1 by unfold vp_in; decide) d_L_greatest_8 (fun H1 locs1 hPw hDw hS1 => ?_)
    have hw : (if (f_S_greatest v w t x y z p1 p2).1 = 0 then vp_updL o 0 (f_S_greatest v w t x y z p1 p2).2 else o) = vp_updL o 0 (f_S_greatest v w t x y z p1 p2).2 := by rw [if_pos hc]
    have hPw : va_P (dC, dI) classes ((sW ad cQ cJ v w t x y z) ++ [(oa, .inl (cJ, 1, .inr (.inl (if (f_S_greatest v w t x y z p1 p2).1 = 0 then vp_updL o 0 (f_S_greatest v w t x y z p1 p2).2 else o))))]) H1 := by rw [hw]; exact hPw
    have hDw : va_D A ((sW ad cQ cJ v w t x y z) ++ [(oa, .inl (cJ, 1, .inr (.inl (if (f_S_greatest v w t x y z p1 p2).1 = 0 then vp_updL o 0 (f_S_greatest v w t x y z p1 p2).2 else o))))]) := by rw [hw]; exact hDw
    refine lv_goto (tgt := 16) hx hb d_L_greatest_9 (by decide) ?_
    refine lv_iconst (v := 0) hx hb d_L_greatest_16 (by decide) ?_
    exact W.iret (v := 0) hx hb hr (fun t9 ht hW => ⟨⟨_, (), rfl, hc.symm, by rw [ht]; exact hPw, hDw⟩, hS1.F ht⟩) hS1.2.2 d_L_greatest_17
theorem ne2_unknown (v : Nat → VV) (w : Nat → Int64) (t : Int32) (x : VV) (y : VV) (z : VV) (p1 : Int32) : ¬ (f_S_unknown v w t x y z p1).1 = 2 := by
  unfold f_S_unknown
  repeat' split
  all_goals first | exact (by decide : ¬ (0 : Int32) = 2) | exact rp_ne2 _
-- ValueSieveLaw.unknown
theorem d_L_unknown_0 : decode b_L_unknown 0 = .ok (.aload_n 2, 1) := by decide +kernel
theorem d_L_unknown_1 : decode b_L_unknown 1 = .ok (.iconst 0, 1) := by decide +kernel
theorem d_L_unknown_2 : decode b_L_unknown 2 = .ok (.aload_n 0, 1) := by decide +kernel
theorem d_L_unknown_3 : decode b_L_unknown 3 = .ok (.iload_n 1, 1) := by decide +kernel
theorem d_L_unknown_4 : decode b_L_unknown 4 = .ok (.invokevirtual 72, 3) := by decide +kernel
theorem d_L_unknown_7 : decode b_L_unknown 7 = .ok (.lastore, 1) := by decide +kernel
theorem d_L_unknown_8 : decode b_L_unknown 8 = .ok (.goto 6, 3) := by decide +kernel
theorem d_L_unknown_11 : decode b_L_unknown 11 = .ok (.astore_n 3, 1) := by decide +kernel
theorem d_L_unknown_12 : decode b_L_unknown 12 = .ok (.iconst 1, 1) := by decide +kernel
theorem d_L_unknown_13 : decode b_L_unknown 13 = .ok (.ireturn, 1) := by decide +kernel
theorem d_L_unknown_14 : decode b_L_unknown 14 = .ok (.iconst 0, 1) := by decide +kernel
theorem d_L_unknown_15 : decode b_L_unknown 15 = .ok (.ireturn, 1) := by decide +kernel
def k_L_unknown : List Cond := Cond.codeWith y_L_unknown b_L_unknown 4 (some .int) [(0, 8, 11, 13)] :: gL
set_option maxRecDepth 100000 in
set_option maxHeartbeats 4000000 in
theorem c_L_unknown (l : Launch) (hlt : l.stackTraces = false) (dC : Nat → ClassId) (dI : Nat → Nat → Nat) (ad : Nat → Nat) (cQ cJ : ClassId) (sz : Nat) (v : Nat → VV) (w : Nat → Int64) (t : Int32) (x : VV) (y : VV) (z : VV) (p1 : Int32) (oa : Nat) (o : Nat → Int64) : Met l y_L_unknown k_L_unknown ({ frames := 8, cells := 1, slots := 6, locals := 141 } : Room) (va_Pc [.ref (ad 0), .int (p1), .ref oa] (hP9 (dC, dI) (sT cQ cJ) ((sW ad cQ cJ v w t x y z) ++ [(oa, .inl (cJ, 1, .inr (.inl o)))]) sz)) (va_Qi (fun r (_ : Unit) => r = (f_S_unknown v w t x y z p1).1) (mB (dC, dI) (va_A ((sW ad cQ cJ v w t x y z) ++ [(oa, .inl (cJ, 1, .inr (.inl o)))]) sz) ((sW ad cQ cJ v w t x y z) ++ [(oa, .inl (cJ, 1, .inr (.inl (if (f_S_unknown v w t x y z p1).1 = 0 then vp_updL o 0 (f_S_unknown v w t x y z p1).2 else o))))])) (va_A ((sW ad cQ cJ v w t x y z) ++ [(oa, .inl (cJ, 1, .inr (.inl o)))]) sz)) 1 6 (va_A ((sW ad cQ cJ v w t x y z) ++ [(oa, .inl (cJ, 1, .inr (.inl o)))]) sz) := by
  refine met_WH (cc := b_L_unknown) (maxL := 4) (ret := (some .int)) (hh := [(0, 8, 11, 13)]) (by decide) rfl ?_
  intro p e s m args below meth c s₁ B hml hv
  obtain ⟨rfl, hsz, hP, hK, hD0, hX, hNc⟩ := hv
  have hx := B.exec
  have hb := B.bytes
  have hr := B.returns
  have hts := atoms_spec (ws := k_L_unknown) B.pre
  have hG : ∀ w ∈ gL, w.before _ s = true := fun w h => hts w (List.mem_cons_of_mem _ h)
  have htab := vx_table (x := objectInit) B (hts _ List.mem_cons_self)
  have hown : s.vm.findClass R_L = some m.cls := findClass_of_methodNamed B.named
  have hlocks := B.notSynchronized
  subst hsz
  have hD := hD0.self (sz := s.heap.size)
  generalize hAe : va_A ((sW ad cQ cJ v w t x y z) ++ [(oa, .inl (cJ, 1, .inr (.inl o)))]) s.heap.size = A at hD hX ⊢
  have hA : ∀ q : Nat, s.heap.size ≤ q → A q := fun q h => by rw [← hAe]; exact Or.inr h
  have hS : va_S A s.heap s.heap [] := va_S.rf
  have hl := lv_entry ([.ref (ad 0), .int (p1), .ref oa]) (n := 4) (Nat.le_of_ble_eq_true rfl)
  rw [lg_entry_eq]
  generalize (lg_sl ([.ref (ad 0), .int (p1), .ref oa]) ++ List.replicate (4 - (lg_sl ([.ref (ad 0), .int (p1), .ref oa])).length) Slot.unset).toArray = ls at hl ⊢
  have hl : lv_has ls 4 [(0, .ref (ad 0)), (1, .int (p1)), (2, .ref oa)] := hl
  have hPs := va_P.left hP
  have hDs := va_D.left hD
  refine lv_aload_n hx hb d_L_unknown_0 rfl (lv_at hl 2 rfl) ?_
  refine lv_iconst (v := 0) hx hb d_L_unknown_1 (by decide) ?_
  refine lv_aload_n hx hb d_L_unknown_2 rfl (lv_at hl 0 rfl) ?_
  refine lv_iload_n hx hb d_L_unknown_3 rfl (lv_at hl 1 rfl) ?_
  have hAA : ∀ q : Nat, va_A (sW ad cQ cJ v w t x y z) s.heap.size q → A q := fun q h => by rw [← hAe]; exact va_A.left h
  refine vx_calll (vx_runV (As := [.int (p1)]) (rest := [.int 0, .ref oa]) ⟨hx, hb, hml, hown, hts⟩ (c_S_unknown l hlt dC dI ad cQ cJ s.heap.size v w t x y z p1) (cwV 1 hts (gVL (by decide +kernel) gw369 gw370 gw0 gw371) rfl rfl rfl (by decide +kernel) ⟨(Nat.le_of_ble_eq_true rfl), (Nat.le_of_ble_eq_true rfl)⟩) ⟨bls, va_recv hK hPs (ci := 1) (q0 := 0) rfl (sW_get (by decide)), fun U hU hW => ⟨rfl, by rw [hU], by rw [hU]; exact hPs, va_K.moved hW.alike hK, hDs.weaken (fun _ _ _ _ => trivial), (by rw [hU]; exact (hX.narrow hAA).moved hW)⟩⟩ rfl rfl hl.1 rfl (lv_room (Nat.le_of_ble_eq_true rfl)) d_L_unknown_4 ⟨(Nat.le_of_ble_eq_true rfl), (Nat.le_of_ble_eq_true rfl)⟩) hS (fun q _ h => hAA q h) hAA (fun q _ h => hAA q h) (fun E ce q9 u t9 H1 locs1 ht hal hpx hBX hz hk hS1 hce hcv hcl => ?_) (fun r9 u t9 H1 locs1 ht hal hpo hBB hz hk hS1 => ?_)
  · obtain ⟨hE, hP1, hD1⟩ := hBX
    rw [ht] at hP1
    rcases hE with ⟨hc, rfl⟩ | ⟨hc, rfl⟩
    · have hw : (if (f_S_unknown v w t x y z p1).1 = 0 then vp_updL o 0 (f_S_unknown v w t x y z p1).2 else o) = o := if_neg (by rw [hc]; decide)
      obtain ⟨hPw, hDw⟩ := va_two hP hD hk hP1 hD1 hAA
      rw [← hw] at hPw hDw
      refine vx_catch (name := eI) hown [] ⟨0, 8, 11, 13⟩ [] (by rw [htab]; rfl) (fun z hz => by cases hz) (by decide) (by decide) (hG _ (by decide +kernel)) (va_Nw.use rfl hX.2.2.2.2.1) hce hcv hcl ?_
      refine lv_astore_n (lv' := [(3, .ref q9), (0, .ref (ad 0)), (1, .int (p1)), (2, .ref oa)]) hx hb d_L_unknown_11 rfl hl (by decide) rfl (fun ls hl => ?_)
      refine lv_iconst (v := 1) hx hb d_L_unknown_12 (by decide) ?_
      exact W.iret (v := 1) hx hb hr (fun t9 ht hW => ⟨⟨_, (), rfl, hc.symm, by rw [ht]; exact hPw, hDw⟩, hS1.F ht⟩) hS1.2.2 d_L_unknown_13
    · exact absurd hc (ne2_unknown v w t x y z p1)
  · obtain ⟨hP1, hD1⟩ := hBB
    rw [ht] at hP1
    obtain ⟨hr9, hc⟩ := hpo
    subst hr9
    obtain ⟨hPv, hDv⟩ := va_two hP hD hk hP1 hD1 hAA
    refine va_last hx hb hK hPv hDv hS1 22 1 rfl rfl (show vp_in 0 1 by unfold vp_in; decide) d_L_unknown_7 (fun H1 locs1 hPw hDw hS1 => ?_)
    have hw : (if (f_S_unknown v w t x y z p1).1 = 0 then vp_updL o 0 (f_S_unknown v w t x y z p1).2 else o) = vp_updL o 0 (f_S_unknown v w t x y z p1).2 := by rw [if_pos hc]
    have hPw : va_P (dC, dI) classes ((sW ad cQ cJ v w t x y z) ++ [(oa, .inl (cJ, 1, .inr (.inl (if (f_S_unknown v w t x y z p1).1 = 0 then vp_updL o 0 (f_S_unknown v w t x y z p1).2 else o))))]) H1 := by rw [hw]; exact hPw
    have hDw : va_D A ((sW ad cQ cJ v w t x y z) ++ [(oa, .inl (cJ, 1, .inr (.inl (if (f_S_unknown v w t x y z p1).1 = 0 then vp_updL o 0 (f_S_unknown v w t x y z p1).2 else o))))]) := by rw [hw]; exact hDw
    refine lv_goto (tgt := 14) hx hb d_L_unknown_8 (by decide) ?_
    refine lv_iconst (v := 0) hx hb d_L_unknown_14 (by decide) ?_
    exact W.iret (v := 0) hx hb hr (fun t9 ht hW => ⟨⟨_, (), rfl, hc.symm, by rw [ht]; exact hPw, hDw⟩, hS1.F ht⟩) hS1.2.2 d_L_unknown_15
theorem ne2_witness (v : Nat → VV) (w : Nat → Int64) (t : Int32) (x : VV) (y : VV) (z : VV) (p1 : Int32) : ¬ (f_S_witness v w t x y z p1).1 = 2 := by
  unfold f_S_witness
  repeat' split
  all_goals first | exact (by decide : ¬ (0 : Int32) = 2) | exact rp_ne2 _
-- ValueSieveLaw.witness
theorem d_L_witness_0 : decode b_L_witness 0 = .ok (.aload_n 2, 1) := by decide +kernel
theorem d_L_witness_1 : decode b_L_witness 1 = .ok (.iconst 0, 1) := by decide +kernel
theorem d_L_witness_2 : decode b_L_witness 2 = .ok (.aload_n 0, 1) := by decide +kernel
theorem d_L_witness_3 : decode b_L_witness 3 = .ok (.iload_n 1, 1) := by decide +kernel
theorem d_L_witness_4 : decode b_L_witness 4 = .ok (.invokevirtual 76, 3) := by decide +kernel
theorem d_L_witness_7 : decode b_L_witness 7 = .ok (.lastore, 1) := by decide +kernel
theorem d_L_witness_8 : decode b_L_witness 8 = .ok (.goto 6, 3) := by decide +kernel
theorem d_L_witness_11 : decode b_L_witness 11 = .ok (.astore_n 3, 1) := by decide +kernel
theorem d_L_witness_12 : decode b_L_witness 12 = .ok (.iconst 1, 1) := by decide +kernel
theorem d_L_witness_13 : decode b_L_witness 13 = .ok (.ireturn, 1) := by decide +kernel
theorem d_L_witness_14 : decode b_L_witness 14 = .ok (.iconst 0, 1) := by decide +kernel
theorem d_L_witness_15 : decode b_L_witness 15 = .ok (.ireturn, 1) := by decide +kernel
def k_L_witness : List Cond := Cond.codeWith y_L_witness b_L_witness 4 (some .int) [(0, 8, 11, 13)] :: gL
set_option maxRecDepth 100000 in
set_option maxHeartbeats 4000000 in
theorem c_L_witness (l : Launch) (hlt : l.stackTraces = false) (dC : Nat → ClassId) (dI : Nat → Nat → Nat) (ad : Nat → Nat) (cQ cJ : ClassId) (sz : Nat) (v : Nat → VV) (w : Nat → Int64) (t : Int32) (x : VV) (y : VV) (z : VV) (p1 : Int32) (oa : Nat) (o : Nat → Int64) : Met l y_L_witness k_L_witness ({ frames := 8, cells := 1, slots := 6, locals := 141 } : Room) (va_Pc [.ref (ad 0), .int (p1), .ref oa] (hP9 (dC, dI) (sT cQ cJ) ((sW ad cQ cJ v w t x y z) ++ [(oa, .inl (cJ, 1, .inr (.inl o)))]) sz)) (va_Qi (fun r (_ : Unit) => r = (f_S_witness v w t x y z p1).1) (mB (dC, dI) (va_A ((sW ad cQ cJ v w t x y z) ++ [(oa, .inl (cJ, 1, .inr (.inl o)))]) sz) ((sW ad cQ cJ v w t x y z) ++ [(oa, .inl (cJ, 1, .inr (.inl (if (f_S_witness v w t x y z p1).1 = 0 then vp_updL o 0 (f_S_witness v w t x y z p1).2 else o))))])) (va_A ((sW ad cQ cJ v w t x y z) ++ [(oa, .inl (cJ, 1, .inr (.inl o)))]) sz)) 1 6 (va_A ((sW ad cQ cJ v w t x y z) ++ [(oa, .inl (cJ, 1, .inr (.inl o)))]) sz) := by
  refine met_WH (cc := b_L_witness) (maxL := 4) (ret := (some .int)) (hh := [(0, 8, 11, 13)]) (by decide) rfl ?_
  intro p e s m args below meth c s₁ B hml hv
  obtain ⟨rfl, hsz, hP, hK, hD0, hX, hNc⟩ := hv
  have hx := B.exec
  have hb := B.bytes
  have hr := B.returns
  have hts := atoms_spec (ws := k_L_witness) B.pre
  have hG : ∀ w ∈ gL, w.before _ s = true := fun w h => hts w (List.mem_cons_of_mem _ h)
  have htab := vx_table (x := objectInit) B (hts _ List.mem_cons_self)
  have hown : s.vm.findClass R_L = some m.cls := findClass_of_methodNamed B.named
  have hlocks := B.notSynchronized
  subst hsz
  have hD := hD0.self (sz := s.heap.size)
  generalize hAe : va_A ((sW ad cQ cJ v w t x y z) ++ [(oa, .inl (cJ, 1, .inr (.inl o)))]) s.heap.size = A at hD hX ⊢
  have hA : ∀ q : Nat, s.heap.size ≤ q → A q := fun q h => by rw [← hAe]; exact Or.inr h
  have hS : va_S A s.heap s.heap [] := va_S.rf
  have hl := lv_entry ([.ref (ad 0), .int (p1), .ref oa]) (n := 4) (Nat.le_of_ble_eq_true rfl)
  rw [lg_entry_eq]
  generalize (lg_sl ([.ref (ad 0), .int (p1), .ref oa]) ++ List.replicate (4 - (lg_sl ([.ref (ad 0), .int (p1), .ref oa])).length) Slot.unset).toArray = ls at hl ⊢
  have hl : lv_has ls 4 [(0, .ref (ad 0)), (1, .int (p1)), (2, .ref oa)] := hl
  have hPs := va_P.left hP
  have hDs := va_D.left hD
  refine lv_aload_n hx hb d_L_witness_0 rfl (lv_at hl 2 rfl) ?_
  refine lv_iconst (v := 0) hx hb d_L_witness_1 (by decide) ?_
  refine lv_aload_n hx hb d_L_witness_2 rfl (lv_at hl 0 rfl) ?_
  refine lv_iload_n hx hb d_L_witness_3 rfl (lv_at hl 1 rfl) ?_
  have hAA : ∀ q : Nat, va_A (sW ad cQ cJ v w t x y z) s.heap.size q → A q := fun q h => by rw [← hAe]; exact va_A.left h
  refine vx_calll (vx_runV (As := [.int (p1)]) (rest := [.int 0, .ref oa]) ⟨hx, hb, hml, hown, hts⟩ (c_S_witness l hlt dC dI ad cQ cJ s.heap.size v w t x y z p1) (cwV 1 hts (gVL (by decide +kernel) gw372 gw373 gw0 gw374) rfl rfl rfl (by decide +kernel) ⟨(Nat.le_of_ble_eq_true rfl), (Nat.le_of_ble_eq_true rfl)⟩) ⟨bls, va_recv hK hPs (ci := 1) (q0 := 0) rfl (sW_get (by decide)), fun U hU hW => ⟨rfl, by rw [hU], by rw [hU]; exact hPs, va_K.moved hW.alike hK, hDs.weaken (fun _ _ _ _ => trivial), (by rw [hU]; exact (hX.narrow hAA).moved hW)⟩⟩ rfl rfl hl.1 rfl (lv_room (Nat.le_of_ble_eq_true rfl)) d_L_witness_4 ⟨(Nat.le_of_ble_eq_true rfl), (Nat.le_of_ble_eq_true rfl)⟩) hS (fun q _ h => hAA q h) hAA (fun q _ h => hAA q h) (fun E ce q9 u t9 H1 locs1 ht hal hpx hBX hz hk hS1 hce hcv hcl => ?_) (fun r9 u t9 H1 locs1 ht hal hpo hBB hz hk hS1 => ?_)
  · obtain ⟨hE, hP1, hD1⟩ := hBX
    rw [ht] at hP1
    rcases hE with ⟨hc, rfl⟩ | ⟨hc, rfl⟩
    · have hw : (if (f_S_witness v w t x y z p1).1 = 0 then vp_updL o 0 (f_S_witness v w t x y z p1).2 else o) = o := if_neg (by rw [hc]; decide)
      obtain ⟨hPw, hDw⟩ := va_two hP hD hk hP1 hD1 hAA
      rw [← hw] at hPw hDw
      refine vx_catch (name := eI) hown [] ⟨0, 8, 11, 13⟩ [] (by rw [htab]; rfl) (fun z hz => by cases hz) (by decide) (by decide) (hG _ (by decide +kernel)) (va_Nw.use rfl hX.2.2.2.2.1) hce hcv hcl ?_
      refine lv_astore_n (lv' := [(3, .ref q9), (0, .ref (ad 0)), (1, .int (p1)), (2, .ref oa)]) hx hb d_L_witness_11 rfl hl (by decide) rfl (fun ls hl => ?_)
      refine lv_iconst (v := 1) hx hb d_L_witness_12 (by decide) ?_
      exact W.iret (v := 1) hx hb hr (fun t9 ht hW => ⟨⟨_, (), rfl, hc.symm, by rw [ht]; exact hPw, hDw⟩, hS1.F ht⟩) hS1.2.2 d_L_witness_13
    · exact absurd hc (ne2_witness v w t x y z p1)
  · obtain ⟨hP1, hD1⟩ := hBB
    rw [ht] at hP1
    obtain ⟨hr9, hc⟩ := hpo
    subst hr9
    obtain ⟨hPv, hDv⟩ := va_two hP hD hk hP1 hD1 hAA
    refine va_last hx hb hK hPv hDv hS1 22 1 rfl rfl (show vp_in 0 1 by unfold vp_in; decide) d_L_witness_7 (fun H1 locs1 hPw hDw hS1 => ?_)
    have hw : (if (f_S_witness v w t x y z p1).1 = 0 then vp_updL o 0 (f_S_witness v w t x y z p1).2 else o) = vp_updL o 0 (f_S_witness v w t x y z p1).2 := by rw [if_pos hc]
    have hPw : va_P (dC, dI) classes ((sW ad cQ cJ v w t x y z) ++ [(oa, .inl (cJ, 1, .inr (.inl (if (f_S_witness v w t x y z p1).1 = 0 then vp_updL o 0 (f_S_witness v w t x y z p1).2 else o))))]) H1 := by rw [hw]; exact hPw
    have hDw : va_D A ((sW ad cQ cJ v w t x y z) ++ [(oa, .inl (cJ, 1, .inr (.inl (if (f_S_witness v w t x y z p1).1 = 0 then vp_updL o 0 (f_S_witness v w t x y z p1).2 else o))))]) := by rw [hw]; exact hDw
    refine lv_goto (tgt := 14) hx hb d_L_witness_8 (by decide) ?_
    refine lv_iconst (v := 0) hx hb d_L_witness_14 (by decide) ?_
    exact W.iret (v := 0) hx hb hr (fun t9 ht hW => ⟨⟨_, (), rfl, hc.symm, by rw [ht]; exact hPw, hDw⟩, hS1.F ht⟩) hS1.2.2 d_L_witness_15
