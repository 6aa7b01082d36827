-- ValueSieve.within
theorem d_S_within_0 : decode b_S_within 0 = .ok (.iload_n 1, 1) := by decide +kernel
theorem d_S_within_1 : decode b_S_within 1 = .ok (.invokestatic 34, 3) := by decide +kernel
theorem d_S_within_4 : decode b_S_within 4 = .ok (.iload_n 2, 1) := by decide +kernel
theorem d_S_within_5 : decode b_S_within 5 = .ok (.invokestatic 34, 3) := by decide +kernel
theorem d_S_within_8 : decode b_S_within 8 = .ok (.aload_n 0, 1) := by decide +kernel
theorem d_S_within_9 : decode b_S_within 9 = .ok (.getfield 11, 3) := by decide +kernel
theorem d_S_within_12 : decode b_S_within 12 = .ok (.iload_n 2, 1) := by decide +kernel
theorem d_S_within_13 : decode b_S_within 13 = .ok (.aaload, 1) := by decide +kernel
theorem d_S_within_14 : decode b_S_within 14 = .ok (.aload_n 0, 1) := by decide +kernel
theorem d_S_within_15 : decode b_S_within 15 = .ok (.getfield 11, 3) := by decide +kernel
theorem d_S_within_18 : decode b_S_within 18 = .ok (.iload_n 1, 1) := by decide +kernel
theorem d_S_within_19 : decode b_S_within 19 = .ok (.aaload, 1) := by decide +kernel
theorem d_S_within_20 : decode b_S_within 20 = .ok (.invokevirtual 142, 3) := by decide +kernel
theorem d_S_within_23 : decode b_S_within 23 = .ok (.ireturn, 1) := by decide +kernel
def f_S_within (v : Nat → VV) (w : Nat → Int64) (t : Int32) (x : VV) (y : VV) (z : VV) (p1 : Int32) (p2 : Int32) : Int32 × Int32 := (if f_S_requirePlace p1 = 0 then (if f_S_requirePlace p2 = 0 then (0, f_V_covers (v p2.toNatClampNeg) (v p1.toNatClampNeg)) else (f_S_requirePlace p2, 0)) else (f_S_requirePlace p1, 0))
def k_S_within : List Cond := Cond.code y_S_within b_S_within 3 (some .boolean) :: gP
set_option maxRecDepth 100000 in
set_option maxHeartbeats 4000000 in
theorem c_S_within (l : Launch) (hlt : l.stackTraces = false) (dC : Nat → ClassId) (dI : Nat → Nat → Nat) (ad : Nat → Nat) (cQ cJ : ClassId) (sz : Nat) (v : Nat → VV) (w : Nat → Int64) (t : Int32) (x : VV) (y : VV) (z : VV) (p1 : Int32) (p2 : Int32) : vx_Met l y_S_within k_S_within ({ frames := 7, cells := 2, slots := 12, locals := 120 } : Room) (va_Pc [.ref (ad 0), .int (p1), .int (p2)] (sP (dC, dI) (sT cQ cJ) (sW ad cQ cJ v w t x y z) sz)) (va_Qi (fun r (_ : Unit) => r = (f_S_within v w t x y z p1 p2).2 ∧ (f_S_within v w t x y z p1 p2).1 = 0) (mB (dC, dI) (va_A (sW ad cQ cJ v w t x y z) sz) (sW ad cQ cJ v w t x y z)) (va_A (sW ad cQ cJ v w t x y z) sz)) (vx_X (fun _ : Unit => True) (fun E _ t9 => xE (f_S_within v w t x y z p1 p2).1 E ∧ mB (dC, dI) (va_A (sW ad cQ cJ v w t x y z) sz) (sW ad cQ cJ v w t x y z) () t9) (va_A (sW ad cQ cJ v w t x y z) sz)) 2 12 (va_A (sW ad cQ cJ v w t x y z) sz) := by
  refine vx_ofW (cc := b_S_within) (maxL := 3) (ret := (some .boolean)) (by decide) rfl ?_
  intro p e s m args below meth c s₁ B hml htab hv
  obtain ⟨rfl, hsz, hP, hK, hD0, hX⟩ := hv
  have hx := B.exec
  have hb := B.bytes
  have hr := B.returns
  have hts := atoms_spec (ws := k_S_within) B.pre
  have hG : ∀ w ∈ gP, w.before _ s = true := fun w h => hts w (List.mem_cons_of_mem _ h)
  have hown : s.vm.findClass R_S = some m.cls := findClass_of_methodNamed B.named
  have hlocks := B.notSynchronized
  subst hsz
  have hD := hD0.self (sz := s.heap.size)
  generalize hAe : va_A (sW ad cQ cJ v w t x y z) s.heap.size = A at hD hX ⊢
  have hA : ∀ q : Nat, s.heap.size ≤ q → A q := fun q h => by rw [← hAe]; exact Or.inr h
  have hS : va_S A s.heap s.heap [] := va_S.rf
  have hl := lv_entry ([.ref (ad 0), .int (p1), .int (p2)]) (n := 3) (Nat.le_of_ble_eq_true rfl)
  rw [lg_entry_eq]
  generalize (lg_sl ([.ref (ad 0), .int (p1), .int (p2)]) ++ List.replicate (3 - (lg_sl ([.ref (ad 0), .int (p1), .int (p2)])).length) Slot.unset).toArray = ls at hl ⊢
  have hl : lv_has ls 3 [(0, .ref (ad 0)), (1, .int (p1)), (2, .int (p2))] := hl
  refine lv_iload_n hx hb d_S_within_0 rfl (lv_at hl 1 rfl) ?_
  refine sx_v (F := f_S_requirePlace p1) (vx_runS (As := [.int (p1)]) (rest := []) ⟨hx, hb, hml, hown, hts⟩ (c_S_requirePlace l hlt s.heap.size p1) (va_cwS 1 hts (gSS gw70 gw71 gw0 gw72) rfl rfl rfl (by decide +kernel) ⟨(Nat.le_of_ble_eq_true rfl), (Nat.le_of_ble_eq_true rfl)⟩) ⟨blx, fun U hU hW => ⟨rfl, by rw [hU], xq_at hX hS hA hU hW⟩⟩ rfl rfl hl.1 rfl (lv_room (Nat.le_of_ble_eq_true rfl)) d_S_within_1 ⟨(Nat.le_of_ble_eq_true rfl), (Nat.le_of_ble_eq_true rfl)⟩) hP hS hA (fun E ce q9 H locs hE hP hS hce hcv hcl => ?_) (fun h1 H locs hP hS => ?_)
  · have fe : f_S_within v w t x y z p1 p2 = (f_S_requirePlace p1, 0) := by unfold f_S_within; first | with_reducible exact if_neg hE.ne | exact if_neg hE.ne
    exact vx_out (fun x hx9 => (htab x hx9).elim) hlocks hce hcv hcl (fun t9 ht hal => ⟨(), trivial, ⟨by rw [fe]; exact hE, by rw [ht]; exact hP, hD⟩, hS.F ht⟩) hS.2.2 (Nat.le_of_ble_eq_true rfl) (Nat.le_of_ble_eq_true rfl)
  · refine lv_iload_n hx hb d_S_within_4 rfl (lv_at hl 2 rfl) ?_
    refine sx_v (F := f_S_requirePlace p2) (vx_runS (As := [.int (p2)]) (rest := []) ⟨hx, hb, hml, hown, hts⟩ (c_S_requirePlace l hlt H.size p2) (va_cwS 1 hts (gSS gw70 gw71 gw0 gw72) rfl rfl rfl (by decide +kernel) ⟨(Nat.le_of_ble_eq_true rfl), (Nat.le_of_ble_eq_true rfl)⟩) ⟨blx, fun U hU hW => ⟨rfl, by rw [hU], xq_at hX hS hA hU hW⟩⟩ rfl rfl hl.1 rfl (lv_room (Nat.le_of_ble_eq_true rfl)) d_S_within_5 ⟨(Nat.le_of_ble_eq_true rfl), (Nat.le_of_ble_eq_true rfl)⟩) hP hS hA (fun E ce q9 H locs hE hP hS hce hcv hcl => ?_) (fun h5 H locs hP hS => ?_)
    · have fe : f_S_within v w t x y z p1 p2 = (f_S_requirePlace p2, 0) := by unfold f_S_within; first | with_reducible exact (if_pos h1).trans (if_neg hE.ne) | exact (if_pos h1).trans (if_neg hE.ne)
      exact vx_out (fun x hx9 => (htab x hx9).elim) hlocks hce hcv hcl (fun t9 ht hal => ⟨(), trivial, ⟨by rw [fe]; exact hE, by rw [ht]; exact hP, hD⟩, hS.F ht⟩) hS.2.2 (Nat.le_of_ble_eq_true rfl) (Nat.le_of_ble_eq_true rfl)
    · refine lv_aload_n hx hb d_S_within_8 rfl (lv_at hl 0 rfl) ?_
      refine va_get (D := (dC, dI)) (ci := 1) (v := .ref (ad 1)) (C := R_S) (T := F_S) (N := 6) hx hb hts (fun w h => List.mem_cons_of_mem _ (gGP (uw_S w h))) hown hK hP 0 (sW_get (by decide)) rfl 0 (by decide) (hG (.fieldLink R_S 11 "ValueSieve" "values" "[LValueSieve$Value;") (gGP gw52)) (fun _ h9 => h9) rfl d_S_within_9 ?_
      refine lv_iload_n hx hb d_S_within_12 rfl (lv_at hl 2 rfl) ?_
      refine sq_ld (P := p2.toNatClampNeg) hx hb hK hP (ie_nI (rp_ok h5)).1 (ie_nI (rp_ok h5)).2 d_S_within_13 ?_
      refine lv_aload_n hx hb d_S_within_14 rfl (lv_at hl 0 rfl) ?_
      refine va_get (D := (dC, dI)) (ci := 1) (v := .ref (ad 1)) (C := R_S) (T := F_S) (N := 6) hx hb hts (fun w h => List.mem_cons_of_mem _ (gGP (uw_S w h))) hown hK hP 0 (sW_get (by decide)) rfl 0 (by decide) (hG (.fieldLink R_S 11 "ValueSieve" "values" "[LValueSieve$Value;") (gGP gw52)) (fun _ h9 => h9) rfl d_S_within_15 ?_
      refine lv_iload_n hx hb d_S_within_18 rfl (lv_at hl 1 rfl) ?_
      refine sq_ld (P := p1.toNatClampNeg) hx hb hK hP (ie_nI (rp_ok h1)).1 (ie_nI (rp_ok h1)).2 d_S_within_19 ?_
      refine rc_i (W.runV (As := [.ref (ad (6 + p1.toNatClampNeg))]) (rest := []) ⟨hx, hb, hml, hown, hts⟩ (c_V_covers l dC dI (ad (6 + p2.toNatClampNeg)) (ad (6 + p1.toNatClampNeg)) (v p2.toNatClampNeg) (v p1.toNatClampNeg)) (cwV 1 hts (gV9 gw356 gw357 gw358 gw1 gw359) rfl rfl rfl (by decide +kernel) ⟨(Nat.le_of_ble_eq_true rfl), (Nat.le_of_ble_eq_true rfl)⟩) ⟨blr, va_recv hK hP (ci := 0) (q0 := 6 + p2.toNatClampNeg) rfl (sW_v (ie_nI (rp_ok h5)).2), fun U hU hW => ⟨rfl, by rw [hU]; exact hP.sub [6 + p2.toNatClampNeg, 6 + p1.toNatClampNeg] (fl2 (sW_v (ie_nI (rp_ok h5)).2) (sW_v (ie_nI (rp_ok h1)).2)), kE (va_K.moved hW.alike hK)⟩⟩ rfl rfl hl.1 rfl (lv_room (Nat.le_of_ble_eq_true rfl)) d_S_within_20 ⟨(Nat.le_of_ble_eq_true rfl), (Nat.le_of_ble_eq_true rfl)⟩) ?_
      have fe : f_S_within v w t x y z p1 p2 = (0, f_V_covers (v p2.toNatClampNeg) (v p1.toNatClampNeg)) := by unfold f_S_within; first | with_reducible exact (if_pos h1).trans (if_pos h5) | exact (if_pos h1).trans (if_pos h5)
      refine w_widen (k := 2) (n := 12) (Nat.le_of_ble_eq_true rfl) (Nat.le_of_ble_eq_true rfl) ?_
      refine vx_ret ?_
      exact W.zret (v := f_V_covers (v p2.toNatClampNeg) (v p1.toNatClampNeg)) hx hb hr (zn_V_covers) (fun t9 ht hW => ⟨⟨_, (), rfl, ⟨by rw [fe], (by rw [fe])⟩, by rw [ht]; exact hP, hD⟩, hS.F ht⟩) hS.2.2 d_S_within_23
-- ValueSieve.has
theorem d_S_has_0 : decode b_S_has 0 = .ok (.iload_n 1, 1) := by decide +kernel
theorem d_S_has_1 : decode b_S_has 1 = .ok (.invokestatic 34, 3) := by decide +kernel
theorem d_S_has_4 : decode b_S_has 4 = .ok (.aload_n 0, 1) := by decide +kernel
theorem d_S_has_5 : decode b_S_has 5 = .ok (.getfield 11, 3) := by decide +kernel
theorem d_S_has_8 : decode b_S_has 8 = .ok (.iload_n 1, 1) := by decide +kernel
theorem d_S_has_9 : decode b_S_has 9 = .ok (.aaload, 1) := by decide +kernel
theorem d_S_has_10 : decode b_S_has 10 = .ok (.lload_n 2, 1) := by decide +kernel
theorem d_S_has_11 : decode b_S_has 11 = .ok (.invokevirtual 58, 3) := by decide +kernel
theorem d_S_has_14 : decode b_S_has 14 = .ok (.ireturn, 1) := by decide +kernel
def f_S_has (v : Nat → VV) (w : Nat → Int64) (t : Int32) (x : VV) (y : VV) (z : VV) (p1 : Int32) (p2 : Int64) : Int32 × Int32 := (if f_S_requirePlace p1 = 0 then (0, f_V_holds (v p1.toNatClampNeg) p2) else (f_S_requirePlace p1, 0))
def k_S_has : List Cond := Cond.code y_S_has b_S_has 4 (some .boolean) :: gP
set_option maxRecDepth 100000 in
set_option maxHeartbeats 4000000 in
theorem c_S_has (l : Launch) (hlt : l.stackTraces = false) (dC : Nat → ClassId) (dI : Nat → Nat → Nat) (ad : Nat → Nat) (cQ cJ : ClassId) (sz : Nat) (v : Nat → VV) (w : Nat → Int64) (t : Int32) (x : VV) (y : VV) (z : VV) (p1 : Int32) (p2 : Int64) : vx_Met l y_S_has k_S_has ({ frames := 7, cells := 1, slots := 6, locals := 120 } : Room) (va_Pc [.ref (ad 0), .int (p1), .long (p2)] (sP (dC, dI) (sT cQ cJ) (sW ad cQ cJ v w t x y z) sz)) (va_Qi (fun r (_ : Unit) => r = (f_S_has v w t x y z p1 p2).2 ∧ (f_S_has v w t x y z p1 p2).1 = 0) (mB (dC, dI) (va_A (sW ad cQ cJ v w t x y z) sz) (sW ad cQ cJ v w t x y z)) (va_A (sW ad cQ cJ v w t x y z) sz)) (vx_X (fun _ : Unit => True) (fun E _ t9 => xE (f_S_has v w t x y z p1 p2).1 E ∧ mB (dC, dI) (va_A (sW ad cQ cJ v w t x y z) sz) (sW ad cQ cJ v w t x y z) () t9) (va_A (sW ad cQ cJ v w t x y z) sz)) 1 6 (va_A (sW ad cQ cJ v w t x y z) sz) := by
  refine vx_ofW (cc := b_S_has) (maxL := 4) (ret := (some .boolean)) (by decide) rfl ?_
  intro p e s m args below meth c s₁ B hml htab hv
  obtain ⟨rfl, hsz, hP, hK, hD0, hX⟩ := hv
  have hx := B.exec
  have hb := B.bytes
  have hr := B.returns
  have hts := atoms_spec (ws := k_S_has) B.pre
  have hG : ∀ w ∈ gP, w.before _ s = true := fun w h => hts w (List.mem_cons_of_mem _ h)
  have hown : s.vm.findClass R_S = some m.cls := findClass_of_methodNamed B.named
  have hlocks := B.notSynchronized
  subst hsz
  have hD := hD0.self (sz := s.heap.size)
  generalize hAe : va_A (sW ad cQ cJ v w t x y z) s.heap.size = A at hD hX ⊢
  have hA : ∀ q : Nat, s.heap.size ≤ q → A q := fun q h => by rw [← hAe]; exact Or.inr h
  have hS : va_S A s.heap s.heap [] := va_S.rf
  have hl := lv_entry ([.ref (ad 0), .int (p1), .long (p2)]) (n := 4) (Nat.le_of_ble_eq_true rfl)
  rw [lg_entry_eq]
  generalize (lg_sl ([.ref (ad 0), .int (p1), .long (p2)]) ++ List.replicate (4 - (lg_sl ([.ref (ad 0), .int (p1), .long (p2)])).length) Slot.unset).toArray = ls at hl ⊢
  have hl : lv_has ls 4 [(0, .ref (ad 0)), (1, .int (p1)), (2, .long (p2))] := hl
  refine lv_iload_n hx hb d_S_has_0 rfl (lv_at hl 1 rfl) ?_
  refine sx_v (F := f_S_requirePlace p1) (vx_runS (As := [.int (p1)]) (rest := []) ⟨hx, hb, hml, hown, hts⟩ (c_S_requirePlace l hlt s.heap.size p1) (va_cwS 1 hts (gSS gw70 gw71 gw0 gw72) rfl rfl rfl (by decide +kernel) ⟨(Nat.le_of_ble_eq_true rfl), (Nat.le_of_ble_eq_true rfl)⟩) ⟨blx, fun U hU hW => ⟨rfl, by rw [hU], xq_at hX hS hA hU hW⟩⟩ rfl rfl hl.1 rfl (lv_room (Nat.le_of_ble_eq_true rfl)) d_S_has_1 ⟨(Nat.le_of_ble_eq_true rfl), (Nat.le_of_ble_eq_true rfl)⟩) hP hS hA (fun E ce q9 H locs hE hP hS hce hcv hcl => ?_) (fun h1 H locs hP hS => ?_)
  · have fe : f_S_has v w t x y z p1 p2 = (f_S_requirePlace p1, 0) := by unfold f_S_has; first | with_reducible exact if_neg hE.ne | exact if_neg hE.ne
    exact vx_out (fun x hx9 => (htab x hx9).elim) hlocks hce hcv hcl (fun t9 ht hal => ⟨(), trivial, ⟨by rw [fe]; exact hE, by rw [ht]; exact hP, hD⟩, hS.F ht⟩) hS.2.2 (Nat.le_of_ble_eq_true rfl) (Nat.le_of_ble_eq_true rfl)
  · refine lv_aload_n hx hb d_S_has_4 rfl (lv_at hl 0 rfl) ?_
    refine va_get (D := (dC, dI)) (ci := 1) (v := .ref (ad 1)) (C := R_S) (T := F_S) (N := 6) hx hb hts (fun w h => List.mem_cons_of_mem _ (gGP (uw_S w h))) hown hK hP 0 (sW_get (by decide)) rfl 0 (by decide) (hG (.fieldLink R_S 11 "ValueSieve" "values" "[LValueSieve$Value;") (gGP gw52)) (fun _ h9 => h9) rfl d_S_has_5 ?_
    refine lv_iload_n hx hb d_S_has_8 rfl (lv_at hl 1 rfl) ?_
    refine sq_ld (P := p1.toNatClampNeg) hx hb hK hP (ie_nI (rp_ok h1)).1 (ie_nI (rp_ok h1)).2 d_S_has_9 ?_
    refine lv_lload_n hx hb d_S_has_10 rfl (lv_at hl 2 rfl) ?_
    refine rc_i (W.runV (As := [.long (p2)]) (rest := []) ⟨hx, hb, hml, hown, hts⟩ (c_V_holds l dC dI (ad (6 + p1.toNatClampNeg)) (v p1.toNatClampNeg) p2) (cwV 1 hts (gV9 gw100 gw101 gw102 gw1 gw103) rfl rfl rfl (by decide +kernel) ⟨(Nat.le_of_ble_eq_true rfl), (Nat.le_of_ble_eq_true rfl)⟩) ⟨blr, va_recv hK hP (ci := 0) (q0 := 6 + p1.toNatClampNeg) rfl (sW_v (ie_nI (rp_ok h1)).2), fun U hU hW => ⟨rfl, by rw [hU]; exact hP.sub [6 + p1.toNatClampNeg] (fl1 (sW_v (ie_nI (rp_ok h1)).2)), kE (va_K.moved hW.alike hK)⟩⟩ rfl rfl hl.1 rfl (lv_room (Nat.le_of_ble_eq_true rfl)) d_S_has_11 ⟨(Nat.le_of_ble_eq_true rfl), (Nat.le_of_ble_eq_true rfl)⟩) ?_
    have fe : f_S_has v w t x y z p1 p2 = (0, f_V_holds (v p1.toNatClampNeg) p2) := by unfold f_S_has; first | with_reducible exact if_pos h1 | exact if_pos h1
    refine w_widen (k := 1) (n := 6) (Nat.le_of_ble_eq_true rfl) (Nat.le_of_ble_eq_true rfl) ?_
    refine vx_ret ?_
    exact W.zret (v := f_V_holds (v p1.toNatClampNeg) p2) hx hb hr (zn_V_holds) (fun t9 ht hW => ⟨⟨_, (), rfl, ⟨by rw [fe], (by rw [fe])⟩, by rw [ht]; exact hP, hD⟩, hS.F ht⟩) hS.2.2 d_S_has_14
-- ValueSieve.least
theorem d_S_least_0 : decode b_S_least 0 = .ok (.iload_n 1, 1) := by decide +kernel
theorem d_S_least_1 : decode b_S_least 1 = .ok (.invokestatic 34, 3) := by decide +kernel
theorem d_S_least_4 : decode b_S_least 4 = .ok (.iload_n 2, 1) := by decide +kernel
theorem d_S_least_5 : decode b_S_least 5 = .ok (.ifCond .eq 15, 3) := by decide +kernel
theorem d_S_least_8 : decode b_S_least 8 = .ok (.aload_n 0, 1) := by decide +kernel
theorem d_S_least_9 : decode b_S_least 9 = .ok (.getfield 11, 3) := by decide +kernel
theorem d_S_least_12 : decode b_S_least 12 = .ok (.iload_n 1, 1) := by decide +kernel
theorem d_S_least_13 : decode b_S_least 13 = .ok (.aaload, 1) := by decide +kernel
theorem d_S_least_14 : decode b_S_least 14 = .ok (.getfield 146, 3) := by decide +kernel
theorem d_S_least_17 : decode b_S_least 17 = .ok (.goto 12, 3) := by decide +kernel
theorem d_S_least_20 : decode b_S_least 20 = .ok (.aload_n 0, 1) := by decide +kernel
theorem d_S_least_21 : decode b_S_least 21 = .ok (.getfield 11, 3) := by decide +kernel
theorem d_S_least_24 : decode b_S_least 24 = .ok (.iload_n 1, 1) := by decide +kernel
theorem d_S_least_25 : decode b_S_least 25 = .ok (.aaload, 1) := by decide +kernel
theorem d_S_least_26 : decode b_S_least 26 = .ok (.getfield 150, 3) := by decide +kernel
theorem d_S_least_29 : decode b_S_least 29 = .ok (.lreturn, 1) := by decide +kernel
def f_S_least (v : Nat → VV) (w : Nat → Int64) (t : Int32) (x : VV) (y : VV) (z : VV) (p1 : Int32) (p2 : Int32) : Int32 × Int64 := (if f_S_requirePlace p1 = 0 then (if p2 = 0 then (0, ((v p1.toNatClampNeg)).2.2.2.2.1) else (0, ((v p1.toNatClampNeg)).2.2.1)) else (f_S_requirePlace p1, 0))
def k_S_least : List Cond := Cond.code y_S_least b_S_least 3 (some .long) :: gP
set_option maxRecDepth 100000 in
set_option maxHeartbeats 4000000 in
theorem c_S_least (l : Launch) (hlt : l.stackTraces = false) (dC : Nat → ClassId) (dI : Nat → Nat → Nat) (ad : Nat → Nat) (cQ cJ : ClassId) (sz : Nat) (v : Nat → VV) (w : Nat → Int64) (t : Int32) (x : VV) (y : VV) (z : VV) (p1 : Int32) (p2 : Int32) : vx_Met l y_S_least k_S_least ({ frames := 7, cells := 1, slots := 6, locals := 120 } : Room) (va_Pc [.ref (ad 0), .int (p1), .int (p2)] (sP (dC, dI) (sT cQ cJ) (sW ad cQ cJ v w t x y z) sz)) (va_Ql (fun r (_ : Unit) => r = (f_S_least v w t x y z p1 p2).2 ∧ (f_S_least v w t x y z p1 p2).1 = 0) (mB (dC, dI) (va_A (sW ad cQ cJ v w t x y z) sz) (sW ad cQ cJ v w t x y z)) (va_A (sW ad cQ cJ v w t x y z) sz)) (vx_X (fun _ : Unit => True) (fun E _ t9 => xE (f_S_least v w t x y z p1 p2).1 E ∧ mB (dC, dI) (va_A (sW ad cQ cJ v w t x y z) sz) (sW ad cQ cJ v w t x y z) () t9) (va_A (sW ad cQ cJ v w t x y z) sz)) 1 6 (va_A (sW ad cQ cJ v w t x y z) sz) := by
  refine vx_ofW (cc := b_S_least) (maxL := 3) (ret := (some .long)) (by decide) rfl ?_
  intro p e s m args below meth c s₁ B hml htab hv
  obtain ⟨rfl, hsz, hP, hK, hD0, hX⟩ := hv
  have hx := B.exec
  have hb := B.bytes
  have hr := B.returns
  have hts := atoms_spec (ws := k_S_least) B.pre
  have hG : ∀ w ∈ gP, w.before _ s = true := fun w h => hts w (List.mem_cons_of_mem _ h)
  have hown : s.vm.findClass R_S = some m.cls := findClass_of_methodNamed B.named
  have hlocks := B.notSynchronized
  subst hsz
  have hD := hD0.self (sz := s.heap.size)
  generalize hAe : va_A (sW ad cQ cJ v w t x y z) s.heap.size = A at hD hX ⊢
  have hA : ∀ q : Nat, s.heap.size ≤ q → A q := fun q h => by rw [← hAe]; exact Or.inr h
  have hS : va_S A s.heap s.heap [] := va_S.rf
  have hl := lv_entry ([.ref (ad 0), .int (p1), .int (p2)]) (n := 3) (Nat.le_of_ble_eq_true rfl)
  rw [lg_entry_eq]
  generalize (lg_sl ([.ref (ad 0), .int (p1), .int (p2)]) ++ List.replicate (3 - (lg_sl ([.ref (ad 0), .int (p1), .int (p2)])).length) Slot.unset).toArray = ls at hl ⊢
  have hl : lv_has ls 3 [(0, .ref (ad 0)), (1, .int (p1)), (2, .int (p2))] := hl
  refine lv_iload_n hx hb d_S_least_0 rfl (lv_at hl 1 rfl) ?_
  refine sx_v (F := f_S_requirePlace p1) (vx_runS (As := [.int (p1)]) (rest := []) ⟨hx, hb, hml, hown, hts⟩ (c_S_requirePlace l hlt s.heap.size p1) (va_cwS 1 hts (gSS gw70 gw71 gw0 gw72) rfl rfl rfl (by decide +kernel) ⟨(Nat.le_of_ble_eq_true rfl), (Nat.le_of_ble_eq_true rfl)⟩) ⟨blx, fun U hU hW => ⟨rfl, by rw [hU], xq_at hX hS hA hU hW⟩⟩ rfl rfl hl.1 rfl (lv_room (Nat.le_of_ble_eq_true rfl)) d_S_least_1 ⟨(Nat.le_of_ble_eq_true rfl), (Nat.le_of_ble_eq_true rfl)⟩) hP hS hA (fun E ce q9 H locs hE hP hS hce hcv hcl => ?_) (fun h1 H locs hP hS => ?_)
  · have fe : f_S_least v w t x y z p1 p2 = (f_S_requirePlace p1, 0) := by unfold f_S_least; first | with_reducible exact if_neg hE.ne | exact if_neg hE.ne
    exact vx_out (fun x hx9 => (htab x hx9).elim) hlocks hce hcv hcl (fun t9 ht hal => ⟨(), trivial, ⟨by rw [fe]; exact hE, by rw [ht]; exact hP, hD⟩, hS.F ht⟩) hS.2.2 (Nat.le_of_ble_eq_true rfl) (Nat.le_of_ble_eq_true rfl)
  · refine lv_iload_n hx hb d_S_least_4 rfl (lv_at hl 2 rfl) ?_
    refine lv_if_eq (tgt := 20) hx hb d_S_least_5 (by decide) (fun e1_20 => ?_) (fun e1_20 => ?_)
    · refine lv_aload_n hx hb d_S_least_20 rfl (lv_at hl 0 rfl) ?_
      refine va_get (D := (dC, dI)) (ci := 1) (v := .ref (ad 1)) (C := R_S) (T := F_S) (N := 6) hx hb hts (fun w h => List.mem_cons_of_mem _ (gGP (uw_S w h))) hown hK hP 0 (sW_get (by decide)) rfl 0 (by decide) (hG (.fieldLink R_S 11 "ValueSieve" "values" "[LValueSieve$Value;") (gGP gw52)) (fun _ h9 => h9) rfl d_S_least_21 ?_
      refine lv_iload_n hx hb d_S_least_24 rfl (lv_at hl 1 rfl) ?_
      refine sq_ld (P := p1.toNatClampNeg) hx hb hK hP (ie_nI (rp_ok h1)).1 (ie_nI (rp_ok h1)).2 d_S_least_25 ?_
      refine va_get (D := (dC, dI)) (ci := 0) (v := .long (((v p1.toNatClampNeg)).2.2.2.2.1)) (C := R_V) (T := F_V) (N := 7) hx hb hts (fun w h => List.mem_cons_of_mem _ (gGP (uw_V w h))) hown hK hP (6 + p1.toNatClampNeg) (sW_v (ie_nI (rp_ok h1)).2) rfl 4 (by decide) (hG (.fieldLink R_S 150 "ValueSieve$Value" "least" "J") (gGP gw36)) (fun _ h9 => h9) rfl d_S_least_26 ?_
      have fe : f_S_least v w t x y z p1 p2 = (0, ((v p1.toNatClampNeg)).2.2.2.2.1) := by unfold f_S_least; first | with_reducible exact (if_pos h1).trans (if_pos e1_20) | exact (if_pos h1).trans (if_pos e1_20)
      refine w_widen (k := 1) (n := 6) (Nat.le_of_ble_eq_true rfl) (Nat.le_of_ble_eq_true rfl) ?_
      refine vx_ret ?_
      exact W.lret (v := ((v p1.toNatClampNeg)).2.2.2.2.1) hx hb hr (fun t9 ht hW => ⟨⟨_, (), rfl, ⟨by rw [fe], (by rw [fe])⟩, by rw [ht]; exact hP, hD⟩, hS.F ht⟩) hS.2.2 d_S_least_29
    · refine lv_aload_n hx hb d_S_least_8 rfl (lv_at hl 0 rfl) ?_
      refine va_get (D := (dC, dI)) (ci := 1) (v := .ref (ad 1)) (C := R_S) (T := F_S) (N := 6) hx hb hts (fun w h => List.mem_cons_of_mem _ (gGP (uw_S w h))) hown hK hP 0 (sW_get (by decide)) rfl 0 (by decide) (hG (.fieldLink R_S 11 "ValueSieve" "values" "[LValueSieve$Value;") (gGP gw52)) (fun _ h9 => h9) rfl d_S_least_9 ?_
      refine lv_iload_n hx hb d_S_least_12 rfl (lv_at hl 1 rfl) ?_
      refine sq_ld (P := p1.toNatClampNeg) hx hb hK hP (ie_nI (rp_ok h1)).1 (ie_nI (rp_ok h1)).2 d_S_least_13 ?_
      refine va_get (D := (dC, dI)) (ci := 0) (v := .long (((v p1.toNatClampNeg)).2.2.1)) (C := R_V) (T := F_V) (N := 7) hx hb hts (fun w h => List.mem_cons_of_mem _ (gGP (uw_V w h))) hown hK hP (6 + p1.toNatClampNeg) (sW_v (ie_nI (rp_ok h1)).2) rfl 2 (by decide) (hG (.fieldLink R_S 146 "ValueSieve$Value" "low" "J") (gGP gw28)) (fun _ h9 => h9) rfl d_S_least_14 ?_
      refine lv_goto (tgt := 29) hx hb d_S_least_17 (by decide) ?_
      have fe : f_S_least v w t x y z p1 p2 = (0, ((v p1.toNatClampNeg)).2.2.1) := by unfold f_S_least; first | with_reducible exact (if_pos h1).trans (if_neg e1_20) | exact (if_pos h1).trans (if_neg e1_20)
      refine w_widen (k := 1) (n := 6) (Nat.le_of_ble_eq_true rfl) (Nat.le_of_ble_eq_true rfl) ?_
      refine vx_ret ?_
      exact W.lret (v := ((v p1.toNatClampNeg)).2.2.1) hx hb hr (fun t9 ht hW => ⟨⟨_, (), rfl, ⟨by rw [fe], (by rw [fe])⟩, by rw [ht]; exact hP, hD⟩, hS.F ht⟩) hS.2.2 d_S_least_29
-- ValueSieve.greatest
theorem d_S_greatest_0 : decode b_S_greatest 0 = .ok (.iload_n 1, 1) := by decide +kernel
theorem d_S_greatest_1 : decode b_S_greatest 1 = .ok (.invokestatic 34, 3) := by decide +kernel
theorem d_S_greatest_4 : decode b_S_greatest 4 = .ok (.iload_n 2, 1) := by decide +kernel
theorem d_S_greatest_5 : decode b_S_greatest 5 = .ok (.ifCond .eq 15, 3) := by decide +kernel
theorem d_S_greatest_8 : decode b_S_greatest 8 = .ok (.aload_n 0, 1) := by decide +kernel
theorem d_S_greatest_9 : decode b_S_greatest 9 = .ok (.getfield 11, 3) := by decide +kernel
theorem d_S_greatest_12 : decode b_S_greatest 12 = .ok (.iload_n 1, 1) := by decide +kernel
theorem d_S_greatest_13 : decode b_S_greatest 13 = .ok (.aaload, 1) := by decide +kernel
theorem d_S_greatest_14 : decode b_S_greatest 14 = .ok (.getfield 153, 3) := by decide +kernel
theorem d_S_greatest_17 : decode b_S_greatest 17 = .ok (.goto 12, 3) := by decide +kernel
theorem d_S_greatest_20 : decode b_S_greatest 20 = .ok (.aload_n 0, 1) := by decide +kernel
theorem d_S_greatest_21 : decode b_S_greatest 21 = .ok (.getfield 11, 3) := by decide +kernel
theorem d_S_greatest_24 : decode b_S_greatest 24 = .ok (.iload_n 1, 1) := by decide +kernel
theorem d_S_greatest_25 : decode b_S_greatest 25 = .ok (.aaload, 1) := by decide +kernel
theorem d_S_greatest_26 : decode b_S_greatest 26 = .ok (.getfield 156, 3) := by decide +kernel
theorem d_S_greatest_29 : decode b_S_greatest 29 = .ok (.lreturn, 1) := by decide +kernel
def f_S_greatest (v : Nat → VV) (w : Nat → Int64) (t : Int32) (x : VV) (y : VV) (z : VV) (p1 : Int32) (p2 : Int32) : Int32 × Int64 := (if f_S_requirePlace p1 = 0 then (if p2 = 0 then (0, ((v p1.toNatClampNeg)).2.2.2.2.2.1) else (0, ((v p1.toNatClampNeg)).2.2.2.1)) else (f_S_requirePlace p1, 0))
def k_S_greatest : List Cond := Cond.code y_S_greatest b_S_greatest 3 (some .long) :: gP
set_option maxRecDepth 100000 in
set_option maxHeartbeats 4000000 in
theorem c_S_greatest (l : Launch) (hlt : l.stackTraces = false) (dC : Nat → ClassId) (dI : Nat → Nat → Nat) (ad : Nat → Nat) (cQ cJ : ClassId) (sz : Nat) (v : Nat → VV) (w : Nat → Int64) (t : Int32) (x : VV) (y : VV) (z : VV) (p1 : Int32) (p2 : Int32) : vx_Met l y_S_greatest k_S_greatest ({ frames := 7, cells := 1, slots := 6, locals := 120 } : Room) (va_Pc [.ref (ad 0), .int (p1), .int (p2)] (sP (dC, dI) (sT cQ cJ) (sW ad cQ cJ v w t x y z) sz)) (va_Ql (fun r (_ : Unit) => r = (f_S_greatest v w t x y z p1 p2).2 ∧ (f_S_greatest v w t x y z p1 p2).1 = 0) (mB (dC, dI) (va_A (sW ad cQ cJ v w t x y z) sz) (sW ad cQ cJ v w t x y z)) (va_A (sW ad cQ cJ v w t x y z) sz)) (vx_X (fun _ : Unit => True) (fun E _ t9 => xE (f_S_greatest v w t x y z p1 p2).1 E ∧ mB (dC, dI) (va_A (sW ad cQ cJ v w t x y z) sz) (sW ad cQ cJ v w t x y z) () t9) (va_A (sW ad cQ cJ v w t x y z) sz)) 1 6 (va_A (sW ad cQ cJ v w t x y z) sz) := by
  refine vx_ofW (cc := b_S_greatest) (maxL := 3) (ret := (some .long)) (by decide) rfl ?_
  intro p e s m args below meth c s₁ B hml htab hv
  obtain ⟨rfl, hsz, hP, hK, hD0, hX⟩ := hv
  have hx := B.exec
  have hb := B.bytes
  have hr := B.returns
  have hts := atoms_spec (ws := k_S_greatest) B.pre
  have hG : ∀ w ∈ gP, w.before _ s = true := fun w h => hts w (List.mem_cons_of_mem _ h)
  have hown : s.vm.findClass R_S = some m.cls := findClass_of_methodNamed B.named
  have hlocks := B.notSynchronized
  subst hsz
  have hD := hD0.self (sz := s.heap.size)
  generalize hAe : va_A (sW ad cQ cJ v w t x y z) s.heap.size = A at hD hX ⊢
  have hA : ∀ q : Nat, s.heap.size ≤ q → A q := fun q h => by rw [← hAe]; exact Or.inr h
  have hS : va_S A s.heap s.heap [] := va_S.rf
  have hl := lv_entry ([.ref (ad 0), .int (p1), .int (p2)]) (n := 3) (Nat.le_of_ble_eq_true rfl)
  rw [lg_entry_eq]
  generalize (lg_sl ([.ref (ad 0), .int (p1), .int (p2)]) ++ List.replicate (3 - (lg_sl ([.ref (ad 0), .int (p1), .int (p2)])).length) Slot.unset).toArray = ls at hl ⊢
  have hl : lv_has ls 3 [(0, .ref (ad 0)), (1, .int (p1)), (2, .int (p2))] := hl
  refine lv_iload_n hx hb d_S_greatest_0 rfl (lv_at hl 1 rfl) ?_
  refine sx_v (F := f_S_requirePlace p1) (vx_runS (As := [.int (p1)]) (rest := []) ⟨hx, hb, hml, hown, hts⟩ (c_S_requirePlace l hlt s.heap.size p1) (va_cwS 1 hts (gSS gw70 gw71 gw0 gw72) rfl rfl rfl (by decide +kernel) ⟨(Nat.le_of_ble_eq_true rfl), (Nat.le_of_ble_eq_true rfl)⟩) ⟨blx, fun U hU hW => ⟨rfl, by rw [hU], xq_at hX hS hA hU hW⟩⟩ rfl rfl hl.1 rfl (lv_room (Nat.le_of_ble_eq_true rfl)) d_S_greatest_1 ⟨(Nat.le_of_ble_eq_true rfl), (Nat.le_of_ble_eq_true rfl)⟩) hP hS hA (fun E ce q9 H locs hE hP hS hce hcv hcl => ?_) (fun h1 H locs hP hS => ?_)
  · have fe : f_S_greatest v w t x y z p1 p2 = (f_S_requirePlace p1, 0) := by unfold f_S_greatest; first | with_reducible exact if_neg hE.ne | exact if_neg hE.ne
    exact vx_out (fun x hx9 => (htab x hx9).elim) hlocks hce hcv hcl (fun t9 ht hal => ⟨(), trivial, ⟨by rw [fe]; exact hE, by rw [ht]; exact hP, hD⟩, hS.F ht⟩) hS.2.2 (Nat.le_of_ble_eq_true rfl) (Nat.le_of_ble_eq_true rfl)
  · refine lv_iload_n hx hb d_S_greatest_4 rfl (lv_at hl 2 rfl) ?_
    refine lv_if_eq (tgt := 20) hx hb d_S_greatest_5 (by decide) (fun e1_20 => ?_) (fun e1_20 => ?_)
    · refine lv_aload_n hx hb d_S_greatest_20 rfl (lv_at hl 0 rfl) ?_
      refine va_get (D := (dC, dI)) (ci := 1) (v := .ref (ad 1)) (C := R_S) (T := F_S) (N := 6) hx hb hts (fun w h => List.mem_cons_of_mem _ (gGP (uw_S w h))) hown hK hP 0 (sW_get (by decide)) rfl 0 (by decide) (hG (.fieldLink R_S 11 "ValueSieve" "values" "[LValueSieve$Value;") (gGP gw52)) (fun _ h9 => h9) rfl d_S_greatest_21 ?_
      refine lv_iload_n hx hb d_S_greatest_24 rfl (lv_at hl 1 rfl) ?_
      refine sq_ld (P := p1.toNatClampNeg) hx hb hK hP (ie_nI (rp_ok h1)).1 (ie_nI (rp_ok h1)).2 d_S_greatest_25 ?_
      refine va_get (D := (dC, dI)) (ci := 0) (v := .long (((v p1.toNatClampNeg)).2.2.2.2.2.1)) (C := R_V) (T := F_V) (N := 7) hx hb hts (fun w h => List.mem_cons_of_mem _ (gGP (uw_V w h))) hown hK hP (6 + p1.toNatClampNeg) (sW_v (ie_nI (rp_ok h1)).2) rfl 5 (by decide) (hG (.fieldLink R_S 156 "ValueSieve$Value" "greatest" "J") (gGP gw40)) (fun _ h9 => h9) rfl d_S_greatest_26 ?_
      have fe : f_S_greatest v w t x y z p1 p2 = (0, ((v p1.toNatClampNeg)).2.2.2.2.2.1) := by unfold f_S_greatest; first | with_reducible exact (if_pos h1).trans (if_pos e1_20) | exact (if_pos h1).trans (if_pos e1_20)
      refine w_widen (k := 1) (n := 6) (Nat.le_of_ble_eq_true rfl) (Nat.le_of_ble_eq_true rfl) ?_
      refine vx_ret ?_
      exact W.lret (v := ((v p1.toNatClampNeg)).2.2.2.2.2.1) hx hb hr (fun t9 ht hW => ⟨⟨_, (), rfl, ⟨by rw [fe], (by rw [fe])⟩, by rw [ht]; exact hP, hD⟩, hS.F ht⟩) hS.2.2 d_S_greatest_29
    · refine lv_aload_n hx hb d_S_greatest_8 rfl (lv_at hl 0 rfl) ?_
      refine va_get (D := (dC, dI)) (ci := 1) (v := .ref (ad 1)) (C := R_S) (T := F_S) (N := 6) hx hb hts (fun w h => List.mem_cons_of_mem _ (gGP (uw_S w h))) hown hK hP 0 (sW_get (by decide)) rfl 0 (by decide) (hG (.fieldLink R_S 11 "ValueSieve" "values" "[LValueSieve$Value;") (gGP gw52)) (fun _ h9 => h9) rfl d_S_greatest_9 ?_
      refine lv_iload_n hx hb d_S_greatest_12 rfl (lv_at hl 1 rfl) ?_
      refine sq_ld (P := p1.toNatClampNeg) hx hb hK hP (ie_nI (rp_ok h1)).1 (ie_nI (rp_ok h1)).2 d_S_greatest_13 ?_
      refine va_get (D := (dC, dI)) (ci := 0) (v := .long (((v p1.toNatClampNeg)).2.2.2.1)) (C := R_V) (T := F_V) (N := 7) hx hb hts (fun w h => List.mem_cons_of_mem _ (gGP (uw_V w h))) hown hK hP (6 + p1.toNatClampNeg) (sW_v (ie_nI (rp_ok h1)).2) rfl 3 (by decide) (hG (.fieldLink R_S 153 "ValueSieve$Value" "high" "J") (gGP gw32)) (fun _ h9 => h9) rfl d_S_greatest_14 ?_
      refine lv_goto (tgt := 29) hx hb d_S_greatest_17 (by decide) ?_
      have fe : f_S_greatest v w t x y z p1 p2 = (0, ((v p1.toNatClampNeg)).2.2.2.1) := by unfold f_S_greatest; first | with_reducible exact (if_pos h1).trans (if_neg e1_20) | exact (if_pos h1).trans (if_neg e1_20)
      refine w_widen (k := 1) (n := 6) (Nat.le_of_ble_eq_true rfl) (Nat.le_of_ble_eq_true rfl) ?_
      refine vx_ret ?_
      exact W.lret (v := ((v p1.toNatClampNeg)).2.2.2.1) hx hb hr (fun t9 ht hW => ⟨⟨_, (), rfl, ⟨by rw [fe], (by rw [fe])⟩, by rw [ht]; exact hP, hD⟩, hS.F ht⟩) hS.2.2 d_S_greatest_29
-- ValueSieve.unknown
theorem d_S_unknown_0 : decode b_S_unknown 0 = .ok (.iload_n 1, 1) := by decide +kernel
theorem d_S_unknown_1 : decode b_S_unknown 1 = .ok (.invokestatic 34, 3) := by decide +kernel
theorem d_S_unknown_4 : decode b_S_unknown 4 = .ok (.aload_n 0, 1) := by decide +kernel
theorem d_S_unknown_5 : decode b_S_unknown 5 = .ok (.getfield 11, 3) := by decide +kernel
theorem d_S_unknown_8 : decode b_S_unknown 8 = .ok (.iload_n 1, 1) := by decide +kernel
theorem d_S_unknown_9 : decode b_S_unknown 9 = .ok (.aaload, 1) := by decide +kernel
theorem d_S_unknown_10 : decode b_S_unknown 10 = .ok (.getfield 159, 3) := by decide +kernel
theorem d_S_unknown_13 : decode b_S_unknown 13 = .ok (.lreturn, 1) := by decide +kernel
def f_S_unknown (v : Nat → VV) (w : Nat → Int64) (t : Int32) (x : VV) (y : VV) (z : VV) (p1 : Int32) : Int32 × Int64 := (if f_S_requirePlace p1 = 0 then (0, ((v p1.toNatClampNeg)).2.1) else (f_S_requirePlace p1, 0))
def k_S_unknown : List Cond := Cond.code y_S_unknown b_S_unknown 2 (some .long) :: gP
set_option maxRecDepth 100000 in
set_option maxHeartbeats 4000000 in
theorem c_S_unknown (l : Launch) (hlt : l.stackTraces = false) (dC : Nat → ClassId) (dI : Nat → Nat → Nat) (ad : Nat → Nat) (cQ cJ : ClassId) (sz : Nat) (v : Nat → VV) (w : Nat → Int64) (t : Int32) (x : VV) (y : VV) (z : VV) (p1 : Int32) : vx_Met l y_S_unknown k_S_unknown ({ frames := 7, cells := 1, slots := 6, locals := 120 } : Room) (va_Pc [.ref (ad 0), .int (p1)] (sP (dC, dI) (sT cQ cJ) (sW ad cQ cJ v w t x y z) sz)) (va_Ql (fun r (_ : Unit) => r = (f_S_unknown v w t x y z p1).2 ∧ (f_S_unknown v w t x y z p1).1 = 0) (mB (dC, dI) (va_A (sW ad cQ cJ v w t x y z) sz) (sW ad cQ cJ v w t x y z)) (va_A (sW ad cQ cJ v w t x y z) sz)) (vx_X (fun _ : Unit => True) (fun E _ t9 => xE (f_S_unknown v w t x y z p1).1 E ∧ mB (dC, dI) (va_A (sW ad cQ cJ v w t x y z) sz) (sW ad cQ cJ v w t x y z) () t9) (va_A (sW ad cQ cJ v w t x y z) sz)) 1 6 (va_A (sW ad cQ cJ v w t x y z) sz) := by
  refine vx_ofW (cc := b_S_unknown) (maxL := 2) (ret := (some .long)) (by decide) rfl ?_
  intro p e s m args below meth c s₁ B hml htab hv
  obtain ⟨rfl, hsz, hP, hK, hD0, hX⟩ := hv
  have hx := B.exec
  have hb := B.bytes
  have hr := B.returns
  have hts := atoms_spec (ws := k_S_unknown) B.pre
  have hG : ∀ w ∈ gP, w.before _ s = true := fun w h => hts w (List.mem_cons_of_mem _ h)
  have hown : s.vm.findClass R_S = some m.cls := findClass_of_methodNamed B.named
  have hlocks := B.notSynchronized
  subst hsz
  have hD := hD0.self (sz := s.heap.size)
  generalize hAe : va_A (sW ad cQ cJ v w t x y z) s.heap.size = A at hD hX ⊢
  have hA : ∀ q : Nat, s.heap.size ≤ q → A q := fun q h => by rw [← hAe]; exact Or.inr h
  have hS : va_S A s.heap s.heap [] := va_S.rf
  have hl := lv_entry ([.ref (ad 0), .int (p1)]) (n := 2) (Nat.le_of_ble_eq_true rfl)
  rw [lg_entry_eq]
  generalize (lg_sl ([.ref (ad 0), .int (p1)]) ++ List.replicate (2 - (lg_sl ([.ref (ad 0), .int (p1)])).length) Slot.unset).toArray = ls at hl ⊢
  have hl : lv_has ls 2 [(0, .ref (ad 0)), (1, .int (p1))] := hl
  refine lv_iload_n hx hb d_S_unknown_0 rfl (lv_at hl 1 rfl) ?_
  refine sx_v (F := f_S_requirePlace p1) (vx_runS (As := [.int (p1)]) (rest := []) ⟨hx, hb, hml, hown, hts⟩ (c_S_requirePlace l hlt s.heap.size p1) (va_cwS 1 hts (gSS gw70 gw71 gw0 gw72) rfl rfl rfl (by decide +kernel) ⟨(Nat.le_of_ble_eq_true rfl), (Nat.le_of_ble_eq_true rfl)⟩) ⟨blx, fun U hU hW => ⟨rfl, by rw [hU], xq_at hX hS hA hU hW⟩⟩ rfl rfl hl.1 rfl (lv_room (Nat.le_of_ble_eq_true rfl)) d_S_unknown_1 ⟨(Nat.le_of_ble_eq_true rfl), (Nat.le_of_ble_eq_true rfl)⟩) hP hS hA (fun E ce q9 H locs hE hP hS hce hcv hcl => ?_) (fun h1 H locs hP hS => ?_)
  · have fe : f_S_unknown v w t x y z p1 = (f_S_requirePlace p1, 0) := by unfold f_S_unknown; first | with_reducible exact if_neg hE.ne | exact if_neg hE.ne
    exact vx_out (fun x hx9 => (htab x hx9).elim) hlocks hce hcv hcl (fun t9 ht hal => ⟨(), trivial, ⟨by rw [fe]; exact hE, by rw [ht]; exact hP, hD⟩, hS.F ht⟩) hS.2.2 (Nat.le_of_ble_eq_true rfl) (Nat.le_of_ble_eq_true rfl)
  · refine lv_aload_n hx hb d_S_unknown_4 rfl (lv_at hl 0 rfl) ?_
    refine va_get (D := (dC, dI)) (ci := 1) (v := .ref (ad 1)) (C := R_S) (T := F_S) (N := 6) hx hb hts (fun w h => List.mem_cons_of_mem _ (gGP (uw_S w h))) hown hK hP 0 (sW_get (by decide)) rfl 0 (by decide) (hG (.fieldLink R_S 11 "ValueSieve" "values" "[LValueSieve$Value;") (gGP gw52)) (fun _ h9 => h9) rfl d_S_unknown_5 ?_
    refine lv_iload_n hx hb d_S_unknown_8 rfl (lv_at hl 1 rfl) ?_
    refine sq_ld (P := p1.toNatClampNeg) hx hb hK hP (ie_nI (rp_ok h1)).1 (ie_nI (rp_ok h1)).2 d_S_unknown_9 ?_
    refine va_get (D := (dC, dI)) (ci := 0) (v := .long (((v p1.toNatClampNeg)).2.1)) (C := R_V) (T := F_V) (N := 7) hx hb hts (fun w h => List.mem_cons_of_mem _ (gGP (uw_V w h))) hown hK hP (6 + p1.toNatClampNeg) (sW_v (ie_nI (rp_ok h1)).2) rfl 1 (by decide) (hG (.fieldLink R_S 159 "ValueSieve$Value" "unknown" "J") (gGP gw24)) (fun _ h9 => h9) rfl d_S_unknown_10 ?_
    have fe : f_S_unknown v w t x y z p1 = (0, ((v p1.toNatClampNeg)).2.1) := by unfold f_S_unknown; first | with_reducible exact if_pos h1 | exact if_pos h1
    refine w_widen (k := 1) (n := 6) (Nat.le_of_ble_eq_true rfl) (Nat.le_of_ble_eq_true rfl) ?_
    refine vx_ret ?_
    exact W.lret (v := ((v p1.toNatClampNeg)).2.1) hx hb hr (fun t9 ht hW => ⟨⟨_, (), rfl, ⟨by rw [fe], (by rw [fe])⟩, by rw [ht]; exact hP, hD⟩, hS.F ht⟩) hS.2.2 d_S_unknown_13
-- ValueSieve.witness
theorem d_S_witness_0 : decode b_S_witness 0 = .ok (.iload_n 1, 1) := by decide +kernel
theorem d_S_witness_1 : decode b_S_witness 1 = .ok (.invokestatic 34, 3) := by decide +kernel
theorem d_S_witness_4 : decode b_S_witness 4 = .ok (.aload_n 0, 1) := by decide +kernel
theorem d_S_witness_5 : decode b_S_witness 5 = .ok (.getfield 15, 3) := by decide +kernel
theorem d_S_witness_8 : decode b_S_witness 8 = .ok (.iload_n 1, 1) := by decide +kernel
theorem d_S_witness_9 : decode b_S_witness 9 = .ok (.laload, 1) := by decide +kernel
theorem d_S_witness_10 : decode b_S_witness 10 = .ok (.lreturn, 1) := by decide +kernel
def f_S_witness (v : Nat → VV) (w : Nat → Int64) (t : Int32) (x : VV) (y : VV) (z : VV) (p1 : Int32) : Int32 × Int64 := (if f_S_requirePlace p1 = 0 then (0, w p1.toNatClampNeg) else (f_S_requirePlace p1, 0))
def k_S_witness : List Cond := Cond.code y_S_witness b_S_witness 2 (some .long) :: gP
set_option maxRecDepth 100000 in
set_option maxHeartbeats 4000000 in
theorem c_S_witness (l : Launch) (hlt : l.stackTraces = false) (dC : Nat → ClassId) (dI : Nat → Nat → Nat) (ad : Nat → Nat) (cQ cJ : ClassId) (sz : Nat) (v : Nat → VV) (w : Nat → Int64) (t : Int32) (x : VV) (y : VV) (z : VV) (p1 : Int32) : vx_Met l y_S_witness k_S_witness ({ frames := 7, cells := 1, slots := 6, locals := 120 } : Room) (va_Pc [.ref (ad 0), .int (p1)] (sP (dC, dI) (sT cQ cJ) (sW ad cQ cJ v w t x y z) sz)) (va_Ql (fun r (_ : Unit) => r = (f_S_witness v w t x y z p1).2 ∧ (f_S_witness v w t x y z p1).1 = 0) (mB (dC, dI) (va_A (sW ad cQ cJ v w t x y z) sz) (sW ad cQ cJ v w t x y z)) (va_A (sW ad cQ cJ v w t x y z) sz)) (vx_X (fun _ : Unit => True) (fun E _ t9 => xE (f_S_witness v w t x y z p1).1 E ∧ mB (dC, dI) (va_A (sW ad cQ cJ v w t x y z) sz) (sW ad cQ cJ v w t x y z) () t9) (va_A (sW ad cQ cJ v w t x y z) sz)) 1 6 (va_A (sW ad cQ cJ v w t x y z) sz) := by
  refine vx_ofW (cc := b_S_witness) (maxL := 2) (ret := (some .long)) (by decide) rfl ?_
  intro p e s m args below meth c s₁ B hml htab hv
  obtain ⟨rfl, hsz, hP, hK, hD0, hX⟩ := hv
  have hx := B.exec
  have hb := B.bytes
  have hr := B.returns
  have hts := atoms_spec (ws := k_S_witness) B.pre
  have hG : ∀ w ∈ gP, w.before _ s = true := fun w h => hts w (List.mem_cons_of_mem _ h)
  have hown : s.vm.findClass R_S = some m.cls := findClass_of_methodNamed B.named
  have hlocks := B.notSynchronized
  subst hsz
  have hD := hD0.self (sz := s.heap.size)
  generalize hAe : va_A (sW ad cQ cJ v w t x y z) s.heap.size = A at hD hX ⊢
  have hA : ∀ q : Nat, s.heap.size ≤ q → A q := fun q h => by rw [← hAe]; exact Or.inr h
  have hS : va_S A s.heap s.heap [] := va_S.rf
  have hl := lv_entry ([.ref (ad 0), .int (p1)]) (n := 2) (Nat.le_of_ble_eq_true rfl)
  rw [lg_entry_eq]
  generalize (lg_sl ([.ref (ad 0), .int (p1)]) ++ List.replicate (2 - (lg_sl ([.ref (ad 0), .int (p1)])).length) Slot.unset).toArray = ls at hl ⊢
  have hl : lv_has ls 2 [(0, .ref (ad 0)), (1, .int (p1))] := hl
  refine lv_iload_n hx hb d_S_witness_0 rfl (lv_at hl 1 rfl) ?_
  refine sx_v (F := f_S_requirePlace p1) (vx_runS (As := [.int (p1)]) (rest := []) ⟨hx, hb, hml, hown, hts⟩ (c_S_requirePlace l hlt s.heap.size p1) (va_cwS 1 hts (gSS gw70 gw71 gw0 gw72) rfl rfl rfl (by decide +kernel) ⟨(Nat.le_of_ble_eq_true rfl), (Nat.le_of_ble_eq_true rfl)⟩) ⟨blx, fun U hU hW => ⟨rfl, by rw [hU], xq_at hX hS hA hU hW⟩⟩ rfl rfl hl.1 rfl (lv_room (Nat.le_of_ble_eq_true rfl)) d_S_witness_1 ⟨(Nat.le_of_ble_eq_true rfl), (Nat.le_of_ble_eq_true rfl)⟩) hP hS hA (fun E ce q9 H locs hE hP hS hce hcv hcl => ?_) (fun h1 H locs hP hS => ?_)
  · have fe : f_S_witness v w t x y z p1 = (f_S_requirePlace p1, 0) := by unfold f_S_witness; first | with_reducible exact if_neg hE.ne | exact if_neg hE.ne
    exact vx_out (fun x hx9 => (htab x hx9).elim) hlocks hce hcv hcl (fun t9 ht hal => ⟨(), trivial, ⟨by rw [fe]; exact hE, by rw [ht]; exact hP, hD⟩, hS.F ht⟩) hS.2.2 (Nat.le_of_ble_eq_true rfl) (Nat.le_of_ble_eq_true rfl)
  · refine lv_aload_n hx hb d_S_witness_4 rfl (lv_at hl 0 rfl) ?_
    refine va_get (D := (dC, dI)) (ci := 1) (v := .ref (ad 2)) (C := R_S) (T := F_S) (N := 6) hx hb hts (fun w h => List.mem_cons_of_mem _ (gGP (uw_S w h))) hown hK hP 0 (sW_get (by decide)) rfl 1 (by decide) (hG (.fieldLink R_S 15 "ValueSieve" "witnesses" "[J") (gGP gw53)) (fun _ h9 => h9) rfl d_S_witness_5 ?_
    refine lv_iload_n hx hb d_S_witness_8 rfl (lv_at hl 1 rfl) ?_
    refine sw_ld (P := p1.toNatClampNeg) hx hb hK hP (ie_nI (rp_ok h1)).1 (ie_nI (rp_ok h1)).2 d_S_witness_9 ?_
    have fe : f_S_witness v w t x y z p1 = (0, w p1.toNatClampNeg) := by unfold f_S_witness; first | with_reducible exact if_pos h1 | exact if_pos h1
    refine w_widen (k := 1) (n := 6) (Nat.le_of_ble_eq_true rfl) (Nat.le_of_ble_eq_true rfl) ?_
    refine vx_ret ?_
    exact W.lret (v := w p1.toNatClampNeg) hx hb hr (fun t9 ht hW => ⟨⟨_, (), rfl, ⟨by rw [fe], (by rw [fe])⟩, by rw [ht]; exact hP, hD⟩, hS.F ht⟩) hS.2.2 d_S_witness_10
-- ValueSieve.strays
theorem d_S_strays_0 : decode b_S_strays 0 = .ok (.aload_n 0, 1) := by decide +kernel
theorem d_S_strays_1 : decode b_S_strays 1 = .ok (.getfield 30, 3) := by decide +kernel
theorem d_S_strays_4 : decode b_S_strays 4 = .ok (.ireturn, 1) := by decide +kernel
def f_S_strays (v : Nat → VV) (w : Nat → Int64) (t : Int32) (x : VV) (y : VV) (z : VV) : Int32 := t
def k_S_strays : List Cond := Cond.code y_S_strays b_S_strays 1 (some .int) :: gP
set_option maxRecDepth 100000 in
set_option maxHeartbeats 4000000 in
theorem c_S_strays (l : Launch) (dC : Nat → ClassId) (dI : Nat → Nat → Nat) (ad : Nat → Nat) (cQ cJ : ClassId) (sz : Nat) (v : Nat → VV) (w : Nat → Int64) (t : Int32) (x : VV) (y : VV) (z : VV) : Met l y_S_strays k_S_strays ({ frames := 0, cells := 0, slots := 0, locals := 0 } : Room) (va_Pc [.ref (ad 0)] (nP (dC, dI) (sT cQ cJ) (sW ad cQ cJ v w t x y z) sz)) (va_Qi (fun r (_ : Unit) => r = (f_S_strays v w t x y z) ∧ True) (mB (dC, dI) (va_A (sW ad cQ cJ v w t x y z) sz) (sW ad cQ cJ v w t x y z)) (va_A (sW ad cQ cJ v w t x y z) sz)) 0 0 (va_A (sW ad cQ cJ v w t x y z) sz) := by
  refine Met.ofW (cc := b_S_strays) (maxL := 1) (ret := (some .int)) (by decide) rfl ?_
  intro p e s m args below meth c s₁ B hml hv
  obtain ⟨rfl, hsz, hP, hK, hD0⟩ := hv
  have hx := B.exec
  have hb := B.bytes
  have hr := B.returns
  have hts := atoms_spec (ws := k_S_strays) B.pre
  have hG : ∀ w ∈ gP, w.before _ s = true := fun w h => hts w (List.mem_cons_of_mem _ h)
  have hown : s.vm.findClass R_S = some m.cls := findClass_of_methodNamed B.named
  have hlocks := B.notSynchronized
  subst hsz
  have hD := hD0.self (sz := s.heap.size)
  generalize hAe : va_A (sW ad cQ cJ v w t x y z) s.heap.size = A at hD ⊢
  have hA : ∀ q : Nat, s.heap.size ≤ q → A q := fun q h => by rw [← hAe]; exact Or.inr h
  have hS : va_S A s.heap s.heap [] := va_S.rf
  have hl := lv_entry ([.ref (ad 0)]) (n := 1) (Nat.le_of_ble_eq_true rfl)
  rw [lg_entry_eq]
  generalize (lg_sl ([.ref (ad 0)]) ++ List.replicate (1 - (lg_sl ([.ref (ad 0)])).length) Slot.unset).toArray = ls at hl ⊢
  have hl : lv_has ls 1 [(0, .ref (ad 0))] := hl
  refine lv_aload_n hx hb d_S_strays_0 rfl (lv_at hl 0 rfl) ?_
  refine va_get (D := (dC, dI)) (ci := 1) (v := .int (t)) (C := R_S) (T := F_S) (N := 6) hx hb hts (fun w h => List.mem_cons_of_mem _ (gGP (uw_S w h))) hown hK hP 0 (sW_get (by decide)) rfl 5 (by decide) (hG (.fieldLink R_S 30 "ValueSieve" "strayCount" "I") (gGP gw57)) (fun _ h9 => h9) rfl d_S_strays_1 ?_
  have fe : f_S_strays v w t x y z = t := by unfold f_S_strays; first | with_reducible exact rfl | exact rfl
  exact W.iret (v := t) hx hb hr (fun t9 ht hW => ⟨⟨_, (), rfl, ⟨by rw [fe], trivial⟩, by rw [ht]; exact hP, hD⟩, hS.F ht⟩) hS.2.2 d_S_strays_4
