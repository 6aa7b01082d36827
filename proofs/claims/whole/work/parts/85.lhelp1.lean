theorem ne2_any (v : Nat → VV) (w : Nat → Int64) (t : Int32) (x : VV) (y : VV) (z : VV) (p1 : Int32) (p2 : Int64) : ¬ (f_S_any v w t x y z p1 p2).1 = 2 := by
  unfold f_S_any
  repeat' split
  all_goals first | exact (by decide : ¬ (0 : Int32) = 2) | exact rp_ne2 _
-- ValueSieveLaw.any
theorem d_L_any_0 : decode b_L_any 0 = .ok (.aload_n 0, 1) := by decide +kernel
theorem d_L_any_1 : decode b_L_any 1 = .ok (.iload_n 1, 1) := by decide +kernel
theorem d_L_any_2 : decode b_L_any 2 = .ok (.lload_n 2, 1) := by decide +kernel
theorem d_L_any_3 : decode b_L_any 3 = .ok (.invokevirtual 7, 3) := by decide +kernel
theorem d_L_any_6 : decode b_L_any 6 = .ok (.goto 7, 3) := by decide +kernel
theorem d_L_any_9 : decode b_L_any 9 = .ok (.astore 4, 2) := by decide +kernel
theorem d_L_any_11 : decode b_L_any 11 = .ok (.iconst 1, 1) := by decide +kernel
theorem d_L_any_12 : decode b_L_any 12 = .ok (.ireturn, 1) := by decide +kernel
theorem d_L_any_13 : decode b_L_any 13 = .ok (.iconst 0, 1) := by decide +kernel
theorem d_L_any_14 : decode b_L_any 14 = .ok (.ireturn, 1) := by decide +kernel
def k_L_any : List Cond := Cond.codeWith y_L_any b_L_any 5 (some .int) [(0, 6, 9, 13)] :: gL
set_option maxRecDepth 100000 in
set_option maxHeartbeats 4000000 in
theorem c_L_any (l : Launch) (hlt : l.stackTraces = false) (dC : Nat → ClassId) (dI : Nat → Nat → Nat) (ad : Nat → Nat) (cQ cJ : ClassId) (sz : Nat) (v : Nat → VV) (w : Nat → Int64) (t : Int32) (x : VV) (y : VV) (z : VV) (p1 : Int32) (p2 : Int64) : Met l y_L_any k_L_any ({ frames := 8, cells := 1, slots := 6, locals := 143 } : Room) (va_Pc [.ref (ad 0), .int (p1), .long (p2)] (hP9 (dC, dI) (sT cQ cJ) (sW ad cQ cJ v w t x y z) sz)) (va_Qi (fun r (_ : Unit) => r = (f_S_any v w t x y z p1 p2).1) (mB (dC, dI) (va_A (sW ad cQ cJ v w t x y z) sz) (sW ad cQ cJ (f_S_any v w t x y z p1 p2).2.1 (f_S_any v w t x y z p1 p2).2.2.1 (f_S_any v w t x y z p1 p2).2.2.2.1 (f_S_any v w t x y z p1 p2).2.2.2.2.1 (f_S_any v w t x y z p1 p2).2.2.2.2.2.1 (f_S_any v w t x y z p1 p2).2.2.2.2.2.2)) (va_A (sW ad cQ cJ v w t x y z) sz)) 1 6 (va_A (sW ad cQ cJ v w t x y z) sz) := by
  refine met_WH (cc := b_L_any) (maxL := 5) (ret := (some .int)) (hh := [(0, 6, 9, 13)]) (by decide) rfl ?_
  intro p e s m args below meth c s₁ B hml hv
  obtain ⟨rfl, hsz, hP, hK, hD0, hX, hNc⟩ := hv
  have hx := B.exec
  have hb := B.bytes
  have hr := B.returns
  have hts := atoms_spec (ws := k_L_any) B.pre
  have hG : ∀ w ∈ gL, w.before _ s = true := fun w h => hts w (List.mem_cons_of_mem _ h)
  have htab := vx_table (x := objectInit) B (hts _ List.mem_cons_self)
  have hown : s.vm.findClass R_L = some m.cls := findClass_of_methodNamed B.named
  have hlocks := B.notSynchronized
  subst hsz
  have hD := hD0.self (sz := s.heap.size)
  generalize hAe : va_A (sW ad cQ cJ v w t x y z) s.heap.size = A at hD hX ⊢
  have hA : ∀ q : Nat, s.heap.size ≤ q → A q := fun q h => by rw [← hAe]; exact Or.inr h
  have hS : va_S A s.heap s.heap [] := va_S.rf
  have hl := lv_entry ([.ref (ad 0), .int (p1), .long (p2)]) (n := 5) (Nat.le_of_ble_eq_true rfl)
  rw [lg_entry_eq]
  generalize (lg_sl ([.ref (ad 0), .int (p1), .long (p2)]) ++ List.replicate (5 - (lg_sl ([.ref (ad 0), .int (p1), .long (p2)])).length) Slot.unset).toArray = ls at hl ⊢
  have hl : lv_has ls 5 [(0, .ref (ad 0)), (1, .int (p1)), (2, .long (p2))] := hl
  have hPs := hP
  have hDs := hD
  refine lv_aload_n hx hb d_L_any_0 rfl (lv_at hl 0 rfl) ?_
  refine lv_iload_n hx hb d_L_any_1 rfl (lv_at hl 1 rfl) ?_
  refine lv_lload_n hx hb d_L_any_2 rfl (lv_at hl 2 rfl) ?_
  have hAA : ∀ q : Nat, va_A (sW ad cQ cJ v w t x y z) s.heap.size q → A q := fun q h => by rw [← hAe]; exact h
  refine vx_callv (vx_runV (As := [.int (p1), .long (p2)]) (rest := []) ⟨hx, hb, hml, hown, hts⟩ (c_S_any l hlt dC dI ad cQ cJ s.heap.size v w t x y z p1 p2) (cwV 2 hts (gVL (by decide +kernel) gw67 gw68 gw0 gw69) rfl rfl rfl (by decide +kernel) ⟨(Nat.le_of_ble_eq_true rfl), (Nat.le_of_ble_eq_true rfl)⟩) ⟨bls, va_recv hK hPs (ci := 1) (q0 := 0) rfl (sW_get (by decide)), fun U hU hW => ⟨rfl, by rw [hU], by rw [hU]; exact hPs, va_K.moved hW.alike hK, hDs.weaken (fun _ _ _ _ => trivial), (by rw [hU]; exact (hX.narrow hAA).moved hW)⟩⟩ rfl rfl hl.1 rfl (lv_room (Nat.le_of_ble_eq_true rfl)) d_L_any_3 ⟨(Nat.le_of_ble_eq_true rfl), (Nat.le_of_ble_eq_true rfl)⟩) hS (fun q _ h => hAA q h) hAA (fun q _ h => hAA q h) (fun E ce q9 u t9 H1 locs1 ht hal hpx hBX hz hk hS1 hce hcv hcl => ?_) (fun u t9 H1 locs1 ht hal hpo hBB hz hk hS1 => ?_)
  · obtain ⟨hE, hP1, hD1⟩ := hBX
    rw [ht] at hP1
    rw [hAe] at hD1
    rcases hE with ⟨hc, rfl⟩ | ⟨hc, rfl⟩
    · have hPw := hP1
      have hDw := hD1
      refine vx_catch (name := eI) hown [] ⟨0, 6, 9, 13⟩ [] (by rw [htab]; rfl) (fun z hz => by cases hz) (by decide) (by decide) (hG _ (by decide +kernel)) (va_Nw.use rfl hX.2.2.2.2.1) hce hcv hcl ?_
      refine lv_astore (lv' := [(4, .ref q9), (0, .ref (ad 0)), (1, .int (p1)), (2, .long (p2))]) hx hb d_L_any_9 hl (by decide) rfl (fun ls hl => ?_)
      refine lv_iconst (v := 1) hx hb d_L_any_11 (by decide) ?_
      exact W.iret (v := 1) hx hb hr (fun t9 ht hW => ⟨⟨_, (), rfl, hc.symm, by rw [ht]; exact hPw, hDw⟩, hS1.F ht⟩) hS1.2.2 d_L_any_12
    · exact absurd hc (ne2_any v w t x y z p1 p2)
  · obtain ⟨hP1, hD1⟩ := hBB
    rw [ht] at hP1
    rw [hAe] at hD1
    have hc := hpo
    have hPw := hP1
    have hDw := hD1
    refine lv_goto (tgt := 13) hx hb d_L_any_6 (by decide) ?_
    refine lv_iconst (v := 0) hx hb d_L_any_13 (by decide) ?_
    exact W.iret (v := 0) hx hb hr (fun t9 ht hW => ⟨⟨_, (), rfl, hc.symm, by rw [ht]; exact hPw, hDw⟩, hS1.F ht⟩) hS1.2.2 d_L_any_14
