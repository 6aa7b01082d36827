-- ValueSieve.write
theorem d_S_write_0 : decode b_S_write 0 = .ok (.aload_n 0, 1) := by decide +kernel
theorem d_S_write_1 : decode b_S_write 1 = .ok (.getfield 11, 3) := by decide +kernel
theorem d_S_write_4 : decode b_S_write 4 = .ok (.iload_n 1, 1) := by decide +kernel
theorem d_S_write_5 : decode b_S_write 5 = .ok (.aaload, 1) := by decide +kernel
theorem d_S_write_6 : decode b_S_write 6 = .ok (.aload_n 2, 1) := by decide +kernel
theorem d_S_write_7 : decode b_S_write 7 = .ok (.invokevirtual 77, 3) := by decide +kernel
theorem d_S_write_10 : decode b_S_write 10 = .ok (.aload_n 0, 1) := by decide +kernel
theorem d_S_write_11 : decode b_S_write 11 = .ok (.getfield 15, 3) := by decide +kernel
theorem d_S_write_14 : decode b_S_write 14 = .ok (.iload_n 1, 1) := by decide +kernel
theorem d_S_write_15 : decode b_S_write 15 = .ok (.lload_n 3, 1) := by decide +kernel
theorem d_S_write_16 : decode b_S_write 16 = .ok (.lastore, 1) := by decide +kernel
theorem d_S_write_17 : decode b_S_write 17 = .ok (.aload_n 2, 1) := by decide +kernel
theorem d_S_write_18 : decode b_S_write 18 = .ok (.lload_n 3, 1) := by decide +kernel
theorem d_S_write_19 : decode b_S_write 19 = .ok (.invokevirtual 58, 3) := by decide +kernel
theorem d_S_write_22 : decode b_S_write 22 = .ok (.ifCond .ne 13, 3) := by decide +kernel
theorem d_S_write_25 : decode b_S_write 25 = .ok (.aload_n 0, 1) := by decide +kernel
theorem d_S_write_26 : decode b_S_write 26 = .ok (.dup, 1) := by decide +kernel
theorem d_S_write_27 : decode b_S_write 27 = .ok (.getfield 30, 3) := by decide +kernel
theorem d_S_write_30 : decode b_S_write 30 = .ok (.iconst 1, 1) := by decide +kernel
theorem d_S_write_31 : decode b_S_write 31 = .ok (.iadd, 1) := by decide +kernel
theorem d_S_write_32 : decode b_S_write 32 = .ok (.putfield 30, 3) := by decide +kernel
theorem d_S_write_35 : decode b_S_write 35 = .ok (.return_, 1) := by decide +kernel
def f_S_write_z (v : Nat → VV) (w : Nat → Int64) (t : Int32) (x : VV) (y : VV) (z : VV) (p1 : Nat) (p3 : Int64) : (Nat → VV) × (Nat → Int64) × (Int32) := (if (f_V_holds z p3) = 0 then (va_up v p1 (f_V_take (v p1) z), u8 w p1 p3, t + (1 : Int32)) else (va_up v p1 (f_V_take (v p1) z), u8 w p1 p3, t))
def k_S_write : List Cond := Cond.code y_S_write b_S_write 5 none :: gP
set_option maxRecDepth 100000 in
set_option maxHeartbeats 4000000 in
theorem c_S_write_z (l : Launch) (dC : Nat → ClassId) (dI : Nat → Nat → Nat) (ad : Nat → Nat) (cQ cJ : ClassId) (sz : Nat) (v : Nat → VV) (w : Nat → Int64) (t : Int32) (x : VV) (y : VV) (z : VV) (p1 : Nat) (p3 : Int64) (b1 : p1 < 16) : Met l y_S_write k_S_write ({ frames := 2, cells := 0, slots := 0, locals := 45 } : Room) (va_Pc [.ref (ad 0), .int (nI p1), .ref (ad 5), .long (p3)] (nP (dC, dI) (sT cQ cJ) (sW ad cQ cJ v w t x y z) sz)) (va_Qv (fun _ : Unit => True) (mB (dC, dI) (va_A (sW ad cQ cJ v w t x y z) sz) (sW ad cQ cJ (f_S_write_z v w t x y z p1 p3).1 (f_S_write_z v w t x y z p1 p3).2.1 (f_S_write_z v w t x y z p1 p3).2.2 x y z)) (va_A (sW ad cQ cJ v w t x y z) sz)) 0 0 (va_A (sW ad cQ cJ v w t x y z) sz) := by
  refine Met.ofW (cc := b_S_write) (maxL := 5) (ret := none) (by decide) rfl ?_
  intro p e s m args below meth c s₁ B hml hv
  obtain ⟨rfl, hsz, hP, hK, hD0⟩ := hv
  have hx := B.exec
  have hb := B.bytes
  have hr := B.returns
  have hts := atoms_spec (ws := k_S_write) B.pre
  have hG : ∀ w ∈ gP, w.before _ s = true := fun w h => hts w (List.mem_cons_of_mem _ h)
  have hown : s.vm.findClass R_S = some m.cls := findClass_of_methodNamed B.named
  have hlocks := B.notSynchronized
  subst hsz
  have hD := hD0.self (sz := s.heap.size)
  generalize hAe : va_A (sW ad cQ cJ v w t x y z) s.heap.size = A at hD ⊢
  have hA : ∀ q : Nat, s.heap.size ≤ q → A q := fun q h => by rw [← hAe]; exact Or.inr h
  have hS : va_S A s.heap s.heap [] := va_S.rf
  have hl := lv_entry ([.ref (ad 0), .int (nI p1), .ref (ad 5), .long (p3)]) (n := 5) (Nat.le_of_ble_eq_true rfl)
  rw [lg_entry_eq]
  generalize (lg_sl ([.ref (ad 0), .int (nI p1), .ref (ad 5), .long (p3)]) ++ List.replicate (5 - (lg_sl ([.ref (ad 0), .int (nI p1), .ref (ad 5), .long (p3)])).length) Slot.unset).toArray = ls at hl ⊢
  have hl : lv_has ls 5 [(0, .ref (ad 0)), (1, .int (nI p1)), (2, .ref (ad 5)), (3, .long (p3))] := hl
  refine lv_aload_n hx hb d_S_write_0 rfl (lv_at hl 0 rfl) ?_
  refine va_get (D := (dC, dI)) (ci := 1) (v := .ref (ad 1)) (C := R_S) (T := F_S) (N := 6) hx hb hts (fun w h => List.mem_cons_of_mem _ (gGP (uw_S w h))) hown hK hP 0 (sW_get (by decide)) rfl 0 (by decide) (hG (.fieldLink R_S 11 "ValueSieve" "values" "[LValueSieve$Value;") (gGP gw52)) (fun _ h9 => h9) rfl d_S_write_1 ?_
  refine lv_iload_n hx hb d_S_write_4 rfl (lv_at hl 1 rfl) ?_
  refine sq_ld (P := p1) hx hb hK hP rfl b1 d_S_write_5 ?_
  refine lv_aload_n hx hb d_S_write_6 rfl (lv_at hl 2 rfl) ?_
  refine sc_v (T := VV) (F := f_V_take (v p1) z) (wc := [((ad (6 + p1)), vE (v p1)), ((ad 5), vE z)]) (w1 := fun g7 => [((ad (6 + p1)), vE g7), ((ad 5), vE z)]) (v' := fun g7 => va_up v p1 g7) (x' := fun g7 => x) (y' := fun g7 => y) (z' := fun g7 => z) (va_runV (As := [.ref (ad 5)]) (rest := []) ⟨hx, hb, hml, hown, hts⟩ (c_V_take l dC dI (ad (6 + p1)) (ad 5) s.heap.size (v p1) z) (cwV 1 hts (gV9 gw96 gw97 gw98 gw1 gw99) rfl rfl rfl (by decide +kernel) ⟨(Nat.le_of_ble_eq_true rfl), (Nat.le_of_ble_eq_true rfl)⟩) ⟨blm, va_recv hK hP (ci := 0) (q0 := 6 + p1) rfl (sW_v b1), fun U hU hW => ⟨rfl, by rw [hU], by rw [hU]; exact hP.sub [6 + p1, 5] (fl2 (sW_v b1) (sW_get (by decide))), kE (va_K.moved hW.alike hK), (hD.sub [6 + p1, 5] (nd2 (by omega)) (mp2 (sW_v b1) (sW_get (by decide)))).weaken (fun _ _ _ _ => trivial)⟩⟩ rfl rfl hl.1 rfl (lv_room (Nat.le_of_ble_eq_true rfl)) d_S_write_7 ⟨(Nat.le_of_ble_eq_true rfl), (Nat.le_of_ble_eq_true rfl)⟩) hP hD hS hA [6 + p1, 5] (mp2 (sW_v b1) (sW_get (by decide))) (fun g7 => (sN_val (by simp) (in2 (Pr := fun i => sE ad cQ cJ (va_up v p1 g7) w t x y z i ∈ [((ad (6 + p1)), vE g7), ((ad 5), vE z)]) (by rw [sE_v, up_at]; exact m0) m1))) (fun g7 eg7 H locs hP hD hS => ?_)
  refine lv_aload_n hx hb d_S_write_10 rfl (lv_at hl 0 rfl) ?_
  refine va_get (D := (dC, dI)) (ci := 1) (v := .ref (ad 2)) (C := R_S) (T := F_S) (N := 6) hx hb hts (fun w h => List.mem_cons_of_mem _ (gGP (uw_S w h))) hown hK hP 0 (sW_get (by decide)) rfl 1 (by decide) (hG (.fieldLink R_S 15 "ValueSieve" "witnesses" "[J") (gGP gw53)) (fun _ h9 => h9) rfl d_S_write_11 ?_
  refine lv_iload_n hx hb d_S_write_14 rfl (lv_at hl 1 rfl) ?_
  refine lv_lload_n hx hb d_S_write_15 rfl (lv_at hl 3 rfl) ?_
  refine sw_st (P := p1) (q := p3) hx hb hK hP hD hS rfl b1 d_S_write_16 (fun H locs hP hD hS => ?_)
  refine lv_aload_n hx hb d_S_write_17 rfl (lv_at hl 2 rfl) ?_
  refine lv_lload_n hx hb d_S_write_18 rfl (lv_at hl 3 rfl) ?_
  refine rc_i (W.runV (As := [.long (p3)]) (rest := []) ⟨hx, hb, hml, hown, hts⟩ (c_V_holds l dC dI (ad 5) z p3) (cwV 1 hts (gV9 gw100 gw101 gw102 gw1 gw103) rfl rfl rfl (by decide +kernel) ⟨(Nat.le_of_ble_eq_true rfl), (Nat.le_of_ble_eq_true rfl)⟩) ⟨blr, va_recv hK hP (ci := 0) (q0 := 5) rfl (sW_get (by decide)), fun U hU hW => ⟨rfl, by rw [hU]; exact hP.sub [5] (fl1 (sW_get (by decide))), kE (va_K.moved hW.alike hK)⟩⟩ rfl rfl hl.1 rfl (lv_room (Nat.le_of_ble_eq_true rfl)) d_S_write_19 ⟨(Nat.le_of_ble_eq_true rfl), (Nat.le_of_ble_eq_true rfl)⟩) ?_
  refine lv_if_ne (tgt := 35) hx hb d_S_write_22 (by decide) (fun e1_35 => ?_) (fun e1_35 => ?_)
  · have fe : f_S_write_z v w t x y z p1 p3 = (va_up v p1 g7, u8 w p1 p3, t) := by unfold f_S_write_z; rw [eg7]; first | with_reducible exact if_neg e1_35 | exact if_neg e1_35
    exact W.vret hx hb hr (fun t9 ht hW => ⟨⟨(), rfl, trivial, by rw [ht, fe]; exact hP, by rw [fe]; exact hD⟩, hS.F ht⟩) hS.2.2 d_S_write_35
  · refine lv_aload_n hx hb d_S_write_25 rfl (lv_at hl 0 rfl) ?_
    refine lv_dup hx hb d_S_write_26 rfl ?_
    refine va_get (D := (dC, dI)) (ci := 1) (v := .int (t)) (C := R_S) (T := F_S) (N := 6) hx hb hts (fun w h => List.mem_cons_of_mem _ (gGP (uw_S w h))) hown hK hP 0 (sW_get (by decide)) rfl 5 (by decide) (hG (.fieldLink R_S 30 "ValueSieve" "strayCount" "I") (gGP gw57)) (fun _ h9 => h9) rfl d_S_write_27 ?_
    refine lv_iconst (v := 1) hx hb d_S_write_30 (by decide) ?_
    refine lv_iadd hx hb d_S_write_31 ?_
    refine st_put hx hb hts (fun w h => List.mem_cons_of_mem _ (gGP (uw_S w h))) hown hK hP hD hS (hG (.fieldLink R_S 30 "ValueSieve" "strayCount" "I") (gGP gw57)) d_S_write_32 (fun H locs hP hD hS => ?_)
    have fe : f_S_write_z v w t x y z p1 p3 = (va_up v p1 g7, u8 w p1 p3, t + (1 : Int32)) := by unfold f_S_write_z; rw [eg7]; first | with_reducible exact if_pos e1_35 | exact if_pos e1_35
    exact W.vret hx hb hr (fun t9 ht hW => ⟨⟨(), rfl, trivial, by rw [ht, fe]; exact hP, by rw [fe]; exact hD⟩, hS.F ht⟩) hS.2.2 d_S_write_35
-- ValueSieve.write
def f_S_write_x (v : Nat → VV) (w : Nat → Int64) (t : Int32) (x : VV) (y : VV) (z : VV) (p1 : Nat) (p3 : Int64) : (Nat → VV) × (Nat → Int64) × (Int32) := (if (f_V_holds x p3) = 0 then (va_up v p1 (f_V_take (v p1) x), u8 w p1 p3, t + (1 : Int32)) else (va_up v p1 (f_V_take (v p1) x), u8 w p1 p3, t))
set_option maxRecDepth 100000 in
set_option maxHeartbeats 4000000 in
theorem c_S_write_x (l : Launch) (dC : Nat → ClassId) (dI : Nat → Nat → Nat) (ad : Nat → Nat) (cQ cJ : ClassId) (sz : Nat) (v : Nat → VV) (w : Nat → Int64) (t : Int32) (x : VV) (y : VV) (z : VV) (p1 : Nat) (p3 : Int64) (b1 : p1 < 16) : Met l y_S_write k_S_write ({ frames := 2, cells := 0, slots := 0, locals := 45 } : Room) (va_Pc [.ref (ad 0), .int (nI p1), .ref (ad 3), .long (p3)] (nP (dC, dI) (sT cQ cJ) (sW ad cQ cJ v w t x y z) sz)) (va_Qv (fun _ : Unit => True) (mB (dC, dI) (va_A (sW ad cQ cJ v w t x y z) sz) (sW ad cQ cJ (f_S_write_x v w t x y z p1 p3).1 (f_S_write_x v w t x y z p1 p3).2.1 (f_S_write_x v w t x y z p1 p3).2.2 x y z)) (va_A (sW ad cQ cJ v w t x y z) sz)) 0 0 (va_A (sW ad cQ cJ v w t x y z) sz) := by
  refine Met.ofW (cc := b_S_write) (maxL := 5) (ret := none) (by decide) rfl ?_
  intro p e s m args below meth c s₁ B hml hv
  obtain ⟨rfl, hsz, hP, hK, hD0⟩ := hv
  have hx := B.exec
  have hb := B.bytes
  have hr := B.returns
  have hts := atoms_spec (ws := k_S_write) B.pre
  have hG : ∀ w ∈ gP, w.before _ s = true := fun w h => hts w (List.mem_cons_of_mem _ h)
  have hown : s.vm.findClass R_S = some m.cls := findClass_of_methodNamed B.named
  have hlocks := B.notSynchronized
  subst hsz
  have hD := hD0.self (sz := s.heap.size)
  generalize hAe : va_A (sW ad cQ cJ v w t x y z) s.heap.size = A at hD ⊢
  have hA : ∀ q : Nat, s.heap.size ≤ q → A q := fun q h => by rw [← hAe]; exact Or.inr h
  have hS : va_S A s.heap s.heap [] := va_S.rf
  have hl := lv_entry ([.ref (ad 0), .int (nI p1), .ref (ad 3), .long (p3)]) (n := 5) (Nat.le_of_ble_eq_true rfl)
  rw [lg_entry_eq]
  generalize (lg_sl ([.ref (ad 0), .int (nI p1), .ref (ad 3), .long (p3)]) ++ List.replicate (5 - (lg_sl ([.ref (ad 0), .int (nI p1), .ref (ad 3), .long (p3)])).length) Slot.unset).toArray = ls at hl ⊢
  have hl : lv_has ls 5 [(0, .ref (ad 0)), (1, .int (nI p1)), (2, .ref (ad 3)), (3, .long (p3))] := hl
  refine lv_aload_n hx hb d_S_write_0 rfl (lv_at hl 0 rfl) ?_
  refine va_get (D := (dC, dI)) (ci := 1) (v := .ref (ad 1)) (C := R_S) (T := F_S) (N := 6) hx hb hts (fun w h => List.mem_cons_of_mem _ (gGP (uw_S w h))) hown hK hP 0 (sW_get (by decide)) rfl 0 (by decide) (hG (.fieldLink R_S 11 "ValueSieve" "values" "[LValueSieve$Value;") (gGP gw52)) (fun _ h9 => h9) rfl d_S_write_1 ?_
  refine lv_iload_n hx hb d_S_write_4 rfl (lv_at hl 1 rfl) ?_
  refine sq_ld (P := p1) hx hb hK hP rfl b1 d_S_write_5 ?_
  refine lv_aload_n hx hb d_S_write_6 rfl (lv_at hl 2 rfl) ?_
  refine sc_v (T := VV) (F := f_V_take (v p1) x) (wc := [((ad (6 + p1)), vE (v p1)), ((ad 3), vE x)]) (w1 := fun g7 => [((ad (6 + p1)), vE g7), ((ad 3), vE x)]) (v' := fun g7 => va_up v p1 g7) (x' := fun g7 => x) (y' := fun g7 => y) (z' := fun g7 => z) (va_runV (As := [.ref (ad 3)]) (rest := []) ⟨hx, hb, hml, hown, hts⟩ (c_V_take l dC dI (ad (6 + p1)) (ad 3) s.heap.size (v p1) x) (cwV 1 hts (gV9 gw96 gw97 gw98 gw1 gw99) rfl rfl rfl (by decide +kernel) ⟨(Nat.le_of_ble_eq_true rfl), (Nat.le_of_ble_eq_true rfl)⟩) ⟨blm, va_recv hK hP (ci := 0) (q0 := 6 + p1) rfl (sW_v b1), fun U hU hW => ⟨rfl, by rw [hU], by rw [hU]; exact hP.sub [6 + p1, 3] (fl2 (sW_v b1) (sW_get (by decide))), kE (va_K.moved hW.alike hK), (hD.sub [6 + p1, 3] (nd2 (by omega)) (mp2 (sW_v b1) (sW_get (by decide)))).weaken (fun _ _ _ _ => trivial)⟩⟩ rfl rfl hl.1 rfl (lv_room (Nat.le_of_ble_eq_true rfl)) d_S_write_7 ⟨(Nat.le_of_ble_eq_true rfl), (Nat.le_of_ble_eq_true rfl)⟩) hP hD hS hA [6 + p1, 3] (mp2 (sW_v b1) (sW_get (by decide))) (fun g7 => (sN_val (by simp) (in2 (Pr := fun i => sE ad cQ cJ (va_up v p1 g7) w t x y z i ∈ [((ad (6 + p1)), vE g7), ((ad 3), vE x)]) (by rw [sE_v, up_at]; exact m0) m1))) (fun g7 eg7 H locs hP hD hS => ?_)
  refine lv_aload_n hx hb d_S_write_10 rfl (lv_at hl 0 rfl) ?_
  refine va_get (D := (dC, dI)) (ci := 1) (v := .ref (ad 2)) (C := R_S) (T := F_S) (N := 6) hx hb hts (fun w h => List.mem_cons_of_mem _ (gGP (uw_S w h))) hown hK hP 0 (sW_get (by decide)) rfl 1 (by decide) (hG (.fieldLink R_S 15 "ValueSieve" "witnesses" "[J") (gGP gw53)) (fun _ h9 => h9) rfl d_S_write_11 ?_
  refine lv_iload_n hx hb d_S_write_14 rfl (lv_at hl 1 rfl) ?_
  refine lv_lload_n hx hb d_S_write_15 rfl (lv_at hl 3 rfl) ?_
  refine sw_st (P := p1) (q := p3) hx hb hK hP hD hS rfl b1 d_S_write_16 (fun H locs hP hD hS => ?_)
  refine lv_aload_n hx hb d_S_write_17 rfl (lv_at hl 2 rfl) ?_
  refine lv_lload_n hx hb d_S_write_18 rfl (lv_at hl 3 rfl) ?_
  refine rc_i (W.runV (As := [.long (p3)]) (rest := []) ⟨hx, hb, hml, hown, hts⟩ (c_V_holds l dC dI (ad 3) x p3) (cwV 1 hts (gV9 gw100 gw101 gw102 gw1 gw103) rfl rfl rfl (by decide +kernel) ⟨(Nat.le_of_ble_eq_true rfl), (Nat.le_of_ble_eq_true rfl)⟩) ⟨blr, va_recv hK hP (ci := 0) (q0 := 3) rfl (sW_get (by decide)), fun U hU hW => ⟨rfl, by rw [hU]; exact hP.sub [3] (fl1 (sW_get (by decide))), kE (va_K.moved hW.alike hK)⟩⟩ rfl rfl hl.1 rfl (lv_room (Nat.le_of_ble_eq_true rfl)) d_S_write_19 ⟨(Nat.le_of_ble_eq_true rfl), (Nat.le_of_ble_eq_true rfl)⟩) ?_
  refine lv_if_ne (tgt := 35) hx hb d_S_write_22 (by decide) (fun e1_35 => ?_) (fun e1_35 => ?_)
  · have fe : f_S_write_x v w t x y z p1 p3 = (va_up v p1 g7, u8 w p1 p3, t) := by unfold f_S_write_x; rw [eg7]; first | with_reducible exact if_neg e1_35 | exact if_neg e1_35
    exact W.vret hx hb hr (fun t9 ht hW => ⟨⟨(), rfl, trivial, by rw [ht, fe]; exact hP, by rw [fe]; exact hD⟩, hS.F ht⟩) hS.2.2 d_S_write_35
  · refine lv_aload_n hx hb d_S_write_25 rfl (lv_at hl 0 rfl) ?_
    refine lv_dup hx hb d_S_write_26 rfl ?_
    refine va_get (D := (dC, dI)) (ci := 1) (v := .int (t)) (C := R_S) (T := F_S) (N := 6) hx hb hts (fun w h => List.mem_cons_of_mem _ (gGP (uw_S w h))) hown hK hP 0 (sW_get (by decide)) rfl 5 (by decide) (hG (.fieldLink R_S 30 "ValueSieve" "strayCount" "I") (gGP gw57)) (fun _ h9 => h9) rfl d_S_write_27 ?_
    refine lv_iconst (v := 1) hx hb d_S_write_30 (by decide) ?_
    refine lv_iadd hx hb d_S_write_31 ?_
    refine st_put hx hb hts (fun w h => List.mem_cons_of_mem _ (gGP (uw_S w h))) hown hK hP hD hS (hG (.fieldLink R_S 30 "ValueSieve" "strayCount" "I") (gGP gw57)) d_S_write_32 (fun H locs hP hD hS => ?_)
    have fe : f_S_write_x v w t x y z p1 p3 = (va_up v p1 g7, u8 w p1 p3, t + (1 : Int32)) := by unfold f_S_write_x; rw [eg7]; first | with_reducible exact if_pos e1_35 | exact if_pos e1_35
    exact W.vret hx hb hr (fun t9 ht hW => ⟨⟨(), rfl, trivial, by rw [ht, fe]; exact hP, by rw [fe]; exact hD⟩, hS.F ht⟩) hS.2.2 d_S_write_35
-- ValueSieve.write
def f_S_write_y (v : Nat → VV) (w : Nat → Int64) (t : Int32) (x : VV) (y : VV) (z : VV) (p1 : Nat) (p3 : Int64) : (Nat → VV) × (Nat → Int64) × (Int32) := (if (f_V_holds y p3) = 0 then (va_up v p1 (f_V_take (v p1) y), u8 w p1 p3, t + (1 : Int32)) else (va_up v p1 (f_V_take (v p1) y), u8 w p1 p3, t))
set_option maxRecDepth 100000 in
set_option maxHeartbeats 4000000 in
theorem c_S_write_y (l : Launch) (dC : Nat → ClassId) (dI : Nat → Nat → Nat) (ad : Nat → Nat) (cQ cJ : ClassId) (sz : Nat) (v : Nat → VV) (w : Nat → Int64) (t : Int32) (x : VV) (y : VV) (z : VV) (p1 : Nat) (p3 : Int64) (b1 : p1 < 16) : Met l y_S_write k_S_write ({ frames := 2, cells := 0, slots := 0, locals := 45 } : Room) (va_Pc [.ref (ad 0), .int (nI p1), .ref (ad 4), .long (p3)] (nP (dC, dI) (sT cQ cJ) (sW ad cQ cJ v w t x y z) sz)) (va_Qv (fun _ : Unit => True) (mB (dC, dI) (va_A (sW ad cQ cJ v w t x y z) sz) (sW ad cQ cJ (f_S_write_y v w t x y z p1 p3).1 (f_S_write_y v w t x y z p1 p3).2.1 (f_S_write_y v w t x y z p1 p3).2.2 x y z)) (va_A (sW ad cQ cJ v w t x y z) sz)) 0 0 (va_A (sW ad cQ cJ v w t x y z) sz) := by
  refine Met.ofW (cc := b_S_write) (maxL := 5) (ret := none) (by decide) rfl ?_
  intro p e s m args below meth c s₁ B hml hv
  obtain ⟨rfl, hsz, hP, hK, hD0⟩ := hv
  have hx := B.exec
  have hb := B.bytes
  have hr := B.returns
  have hts := atoms_spec (ws := k_S_write) B.pre
  have hG : ∀ w ∈ gP, w.before _ s = true := fun w h => hts w (List.mem_cons_of_mem _ h)
  have hown : s.vm.findClass R_S = some m.cls := findClass_of_methodNamed B.named
  have hlocks := B.notSynchronized
  subst hsz
  have hD := hD0.self (sz := s.heap.size)
  generalize hAe : va_A (sW ad cQ cJ v w t x y z) s.heap.size = A at hD ⊢
  have hA : ∀ q : Nat, s.heap.size ≤ q → A q := fun q h => by rw [← hAe]; exact Or.inr h
  have hS : va_S A s.heap s.heap [] := va_S.rf
  have hl := lv_entry ([.ref (ad 0), .int (nI p1), .ref (ad 4), .long (p3)]) (n := 5) (Nat.le_of_ble_eq_true rfl)
  rw [lg_entry_eq]
  generalize (lg_sl ([.ref (ad 0), .int (nI p1), .ref (ad 4), .long (p3)]) ++ List.replicate (5 - (lg_sl ([.ref (ad 0), .int (nI p1), .ref (ad 4), .long (p3)])).length) Slot.unset).toArray = ls at hl ⊢
  have hl : lv_has ls 5 [(0, .ref (ad 0)), (1, .int (nI p1)), (2, .ref (ad 4)), (3, .long (p3))] := hl
  refine lv_aload_n hx hb d_S_write_0 rfl (lv_at hl 0 rfl) ?_
  refine va_get (D := (dC, dI)) (ci := 1) (v := .ref (ad 1)) (C := R_S) (T := F_S) (N := 6) hx hb hts (fun w h => List.mem_cons_of_mem _ (gGP (uw_S w h))) hown hK hP 0 (sW_get (by decide)) rfl 0 (by decide) (hG (.fieldLink R_S 11 "ValueSieve" "values" "[LValueSieve$Value;") (gGP gw52)) (fun _ h9 => h9) rfl d_S_write_1 ?_
  refine lv_iload_n hx hb d_S_write_4 rfl (lv_at hl 1 rfl) ?_
  refine sq_ld (P := p1) hx hb hK hP rfl b1 d_S_write_5 ?_
  refine lv_aload_n hx hb d_S_write_6 rfl (lv_at hl 2 rfl) ?_
  refine sc_v (T := VV) (F := f_V_take (v p1) y) (wc := [((ad (6 + p1)), vE (v p1)), ((ad 4), vE y)]) (w1 := fun g7 => [((ad (6 + p1)), vE g7), ((ad 4), vE y)]) (v' := fun g7 => va_up v p1 g7) (x' := fun g7 => x) (y' := fun g7 => y) (z' := fun g7 => z) (va_runV (As := [.ref (ad 4)]) (rest := []) ⟨hx, hb, hml, hown, hts⟩ (c_V_take l dC dI (ad (6 + p1)) (ad 4) s.heap.size (v p1) y) (cwV 1 hts (gV9 gw96 gw97 gw98 gw1 gw99) rfl rfl rfl (by decide +kernel) ⟨(Nat.le_of_ble_eq_true rfl), (Nat.le_of_ble_eq_true rfl)⟩) ⟨blm, va_recv hK hP (ci := 0) (q0 := 6 + p1) rfl (sW_v b1), fun U hU hW => ⟨rfl, by rw [hU], by rw [hU]; exact hP.sub [6 + p1, 4] (fl2 (sW_v b1) (sW_get (by decide))), kE (va_K.moved hW.alike hK), (hD.sub [6 + p1, 4] (nd2 (by omega)) (mp2 (sW_v b1) (sW_get (by decide)))).weaken (fun _ _ _ _ => trivial)⟩⟩ rfl rfl hl.1 rfl (lv_room (Nat.le_of_ble_eq_true rfl)) d_S_write_7 ⟨(Nat.le_of_ble_eq_true rfl), (Nat.le_of_ble_eq_true rfl)⟩) hP hD hS hA [6 + p1, 4] (mp2 (sW_v b1) (sW_get (by decide))) (fun g7 => (sN_val (by simp) (in2 (Pr := fun i => sE ad cQ cJ (va_up v p1 g7) w t x y z i ∈ [((ad (6 + p1)), vE g7), ((ad 4), vE y)]) (by rw [sE_v, up_at]; exact m0) m1))) (fun g7 eg7 H locs hP hD hS => ?_)
  refine lv_aload_n hx hb d_S_write_10 rfl (lv_at hl 0 rfl) ?_
  refine va_get (D := (dC, dI)) (ci := 1) (v := .ref (ad 2)) (C := R_S) (T := F_S) (N := 6) hx hb hts (fun w h => List.mem_cons_of_mem _ (gGP (uw_S w h))) hown hK hP 0 (sW_get (by decide)) rfl 1 (by decide) (hG (.fieldLink R_S 15 "ValueSieve" "witnesses" "[J") (gGP gw53)) (fun _ h9 => h9) rfl d_S_write_11 ?_
  refine lv_iload_n hx hb d_S_write_14 rfl (lv_at hl 1 rfl) ?_
  refine lv_lload_n hx hb d_S_write_15 rfl (lv_at hl 3 rfl) ?_
  refine sw_st (P := p1) (q := p3) hx hb hK hP hD hS rfl b1 d_S_write_16 (fun H locs hP hD hS => ?_)
  refine lv_aload_n hx hb d_S_write_17 rfl (lv_at hl 2 rfl) ?_
  refine lv_lload_n hx hb d_S_write_18 rfl (lv_at hl 3 rfl) ?_
  refine rc_i (W.runV (As := [.long (p3)]) (rest := []) ⟨hx, hb, hml, hown, hts⟩ (c_V_holds l dC dI (ad 4) y p3) (cwV 1 hts (gV9 gw100 gw101 gw102 gw1 gw103) rfl rfl rfl (by decide +kernel) ⟨(Nat.le_of_ble_eq_true rfl), (Nat.le_of_ble_eq_true rfl)⟩) ⟨blr, va_recv hK hP (ci := 0) (q0 := 4) rfl (sW_get (by decide)), fun U hU hW => ⟨rfl, by rw [hU]; exact hP.sub [4] (fl1 (sW_get (by decide))), kE (va_K.moved hW.alike hK)⟩⟩ rfl rfl hl.1 rfl (lv_room (Nat.le_of_ble_eq_true rfl)) d_S_write_19 ⟨(Nat.le_of_ble_eq_true rfl), (Nat.le_of_ble_eq_true rfl)⟩) ?_
  refine lv_if_ne (tgt := 35) hx hb d_S_write_22 (by decide) (fun e1_35 => ?_) (fun e1_35 => ?_)
  · have fe : f_S_write_y v w t x y z p1 p3 = (va_up v p1 g7, u8 w p1 p3, t) := by unfold f_S_write_y; rw [eg7]; first | with_reducible exact if_neg e1_35 | exact if_neg e1_35
    exact W.vret hx hb hr (fun t9 ht hW => ⟨⟨(), rfl, trivial, by rw [ht, fe]; exact hP, by rw [fe]; exact hD⟩, hS.F ht⟩) hS.2.2 d_S_write_35
  · refine lv_aload_n hx hb d_S_write_25 rfl (lv_at hl 0 rfl) ?_
    refine lv_dup hx hb d_S_write_26 rfl ?_
    refine va_get (D := (dC, dI)) (ci := 1) (v := .int (t)) (C := R_S) (T := F_S) (N := 6) hx hb hts (fun w h => List.mem_cons_of_mem _ (gGP (uw_S w h))) hown hK hP 0 (sW_get (by decide)) rfl 5 (by decide) (hG (.fieldLink R_S 30 "ValueSieve" "strayCount" "I") (gGP gw57)) (fun _ h9 => h9) rfl d_S_write_27 ?_
    refine lv_iconst (v := 1) hx hb d_S_write_30 (by decide) ?_
    refine lv_iadd hx hb d_S_write_31 ?_
    refine st_put hx hb hts (fun w h => List.mem_cons_of_mem _ (gGP (uw_S w h))) hown hK hP hD hS (hG (.fieldLink R_S 30 "ValueSieve" "strayCount" "I") (gGP gw57)) d_S_write_32 (fun H locs hP hD hS => ?_)
    have fe : f_S_write_y v w t x y z p1 p3 = (va_up v p1 g7, u8 w p1 p3, t + (1 : Int32)) := by unfold f_S_write_y; rw [eg7]; first | with_reducible exact if_pos e1_35 | exact if_pos e1_35
    exact W.vret hx hb hr (fun t9 ht hW => ⟨⟨(), rfl, trivial, by rw [ht, fe]; exact hP, by rw [fe]; exact hD⟩, hS.F ht⟩) hS.2.2 d_S_write_35
-- ValueSieve.canBe
theorem d_S_canBe_0 : decode b_S_canBe 0 = .ok (.aload_n 0, 1) := by decide +kernel
theorem d_S_canBe_1 : decode b_S_canBe 1 = .ok (.getfield 20, 3) := by decide +kernel
theorem d_S_canBe_4 : decode b_S_canBe 4 = .ok (.aload_n 0, 1) := by decide +kernel
theorem d_S_canBe_5 : decode b_S_canBe 5 = .ok (.getfield 11, 3) := by decide +kernel
theorem d_S_canBe_8 : decode b_S_canBe 8 = .ok (.iload_n 2, 1) := by decide +kernel
theorem d_S_canBe_9 : decode b_S_canBe 9 = .ok (.aaload, 1) := by decide +kernel
theorem d_S_canBe_10 : decode b_S_canBe 10 = .ok (.invokevirtual 77, 3) := by decide +kernel
theorem d_S_canBe_13 : decode b_S_canBe 13 = .ok (.aload_n 0, 1) := by decide +kernel
theorem d_S_canBe_14 : decode b_S_canBe 14 = .ok (.getfield 24, 3) := by decide +kernel
theorem d_S_canBe_17 : decode b_S_canBe 17 = .ok (.aload_n 0, 1) := by decide +kernel
theorem d_S_canBe_18 : decode b_S_canBe 18 = .ok (.getfield 11, 3) := by decide +kernel
theorem d_S_canBe_21 : decode b_S_canBe 21 = .ok (.iload_n 3, 1) := by decide +kernel
theorem d_S_canBe_22 : decode b_S_canBe 22 = .ok (.aaload, 1) := by decide +kernel
theorem d_S_canBe_23 : decode b_S_canBe 23 = .ok (.invokevirtual 77, 3) := by decide +kernel
theorem d_S_canBe_26 : decode b_S_canBe 26 = .ok (.iload_n 1, 1) := by decide +kernel
theorem d_S_canBe_27 : decode b_S_canBe 27 = .ok (.aload_n 0, 1) := by decide +kernel
theorem d_S_canBe_28 : decode b_S_canBe 28 = .ok (.getfield 20, 3) := by decide +kernel
theorem d_S_canBe_31 : decode b_S_canBe 31 = .ok (.aload_n 0, 1) := by decide +kernel
theorem d_S_canBe_32 : decode b_S_canBe 32 = .ok (.getfield 24, 3) := by decide +kernel
theorem d_S_canBe_35 : decode b_S_canBe 35 = .ok (.invokestatic 134, 3) := by decide +kernel
theorem d_S_canBe_38 : decode b_S_canBe 38 = .ok (.aload_n 0, 1) := by decide +kernel
theorem d_S_canBe_39 : decode b_S_canBe 39 = .ok (.getfield 20, 3) := by decide +kernel
theorem d_S_canBe_42 : decode b_S_canBe 42 = .ok (.getfield 171, 3) := by decide +kernel
theorem d_S_canBe_45 : decode b_S_canBe 45 = .ok (.ifCond .ne 17, 3) := by decide +kernel
theorem d_S_canBe_48 : decode b_S_canBe 48 = .ok (.aload_n 0, 1) := by decide +kernel
theorem d_S_canBe_49 : decode b_S_canBe 49 = .ok (.getfield 24, 3) := by decide +kernel
theorem d_S_canBe_52 : decode b_S_canBe 52 = .ok (.getfield 171, 3) := by decide +kernel
theorem d_S_canBe_55 : decode b_S_canBe 55 = .ok (.ifCond .ne 7, 3) := by decide +kernel
theorem d_S_canBe_58 : decode b_S_canBe 58 = .ok (.iconst 1, 1) := by decide +kernel
theorem d_S_canBe_59 : decode b_S_canBe 59 = .ok (.goto 4, 3) := by decide +kernel
theorem d_S_canBe_62 : decode b_S_canBe 62 = .ok (.iconst 0, 1) := by decide +kernel
theorem d_S_canBe_63 : decode b_S_canBe 63 = .ok (.ireturn, 1) := by decide +kernel
def f_S_canBe (v : Nat → VV) (w : Nat → Int64) (t : Int32) (x : VV) (y : VV) (z : VV) (p1 : Int32) (p2 : Nat) (p3 : Nat) : Int32 × (VV) × (VV) := (if (bI (f_C_refine p1 (f_V_take x (v p2)) (f_V_take y (v p3))).1.2.2.2.2.2.2) = 0 then (if (bI (f_C_refine p1 (f_V_take x (v p2)) (f_V_take y (v p3))).2.2.2.2.2.2.2) = 0 then (1, (f_C_refine p1 (f_V_take x (v p2)) (f_V_take y (v p3))).1, (f_C_refine p1 (f_V_take x (v p2)) (f_V_take y (v p3))).2) else (0, (f_C_refine p1 (f_V_take x (v p2)) (f_V_take y (v p3))).1, (f_C_refine p1 (f_V_take x (v p2)) (f_V_take y (v p3))).2)) else (0, (f_C_refine p1 (f_V_take x (v p2)) (f_V_take y (v p3))).1, (f_C_refine p1 (f_V_take x (v p2)) (f_V_take y (v p3))).2))
def k_S_canBe : List Cond := Cond.code y_S_canBe b_S_canBe 4 (some .boolean) :: gP
set_option maxRecDepth 100000 in
set_option maxHeartbeats 4000000 in
theorem c_S_canBe (l : Launch) (dC : Nat → ClassId) (dI : Nat → Nat → Nat) (ad : Nat → Nat) (cQ cJ : ClassId) (sz : Nat) (v : Nat → VV) (w : Nat → Int64) (t : Int32) (x : VV) (y : VV) (z : VV) (p1 : Int32) (p2 : Nat) (p3 : Nat) (b2 : p2 < 16) (b3 : p3 < 16) : Met l y_S_canBe k_S_canBe ({ frames := 5, cells := 0, slots := 0, locals := 140 } : Room) (va_Pc [.ref (ad 0), .int (p1), .int (nI p2), .int (nI p3)] (nP (dC, dI) (sT cQ cJ) (sW ad cQ cJ v w t x y z) sz)) (va_Qi (fun r (_ : Unit) => r = (f_S_canBe v w t x y z p1 p2 p3).1 ∧ True) (mB (dC, dI) (va_A (sW ad cQ cJ v w t x y z) sz) (sW ad cQ cJ v w t (f_S_canBe v w t x y z p1 p2 p3).2.1 (f_S_canBe v w t x y z p1 p2 p3).2.2 z)) (va_A (sW ad cQ cJ v w t x y z) sz)) 0 0 (va_A (sW ad cQ cJ v w t x y z) sz) := by
  refine Met.ofW (cc := b_S_canBe) (maxL := 4) (ret := (some .boolean)) (by decide) rfl ?_
  intro p e s m args below meth c s₁ B hml hv
  obtain ⟨rfl, hsz, hP, hK, hD0⟩ := hv
  have hx := B.exec
  have hb := B.bytes
  have hr := B.returns
  have hts := atoms_spec (ws := k_S_canBe) B.pre
  have hG : ∀ w ∈ gP, w.before _ s = true := fun w h => hts w (List.mem_cons_of_mem _ h)
  have hown : s.vm.findClass R_S = some m.cls := findClass_of_methodNamed B.named
  have hlocks := B.notSynchronized
  subst hsz
  have hD := hD0.self (sz := s.heap.size)
  generalize hAe : va_A (sW ad cQ cJ v w t x y z) s.heap.size = A at hD ⊢
  have hA : ∀ q : Nat, s.heap.size ≤ q → A q := fun q h => by rw [← hAe]; exact Or.inr h
  have hS : va_S A s.heap s.heap [] := va_S.rf
  have hl := lv_entry ([.ref (ad 0), .int (p1), .int (nI p2), .int (nI p3)]) (n := 4) (Nat.le_of_ble_eq_true rfl)
  rw [lg_entry_eq]
  generalize (lg_sl ([.ref (ad 0), .int (p1), .int (nI p2), .int (nI p3)]) ++ List.replicate (4 - (lg_sl ([.ref (ad 0), .int (p1), .int (nI p2), .int (nI p3)])).length) Slot.unset).toArray = ls at hl ⊢
  have hl : lv_has ls 4 [(0, .ref (ad 0)), (1, .int (p1)), (2, .int (nI p2)), (3, .int (nI p3))] := hl
  refine lv_aload_n hx hb d_S_canBe_0 rfl (lv_at hl 0 rfl) ?_
  refine va_get (D := (dC, dI)) (ci := 1) (v := .ref (ad 3)) (C := R_S) (T := F_S) (N := 6) hx hb hts (fun w h => List.mem_cons_of_mem _ (gGP (uw_S w h))) hown hK hP 0 (sW_get (by decide)) rfl 2 (by decide) (hG (.fieldLink R_S 20 "ValueSieve" "x" "LValueSieve$Value;") (gGP gw54)) (fun _ h9 => h9) rfl d_S_canBe_1 ?_
  refine lv_aload_n hx hb d_S_canBe_4 rfl (lv_at hl 0 rfl) ?_
  refine va_get (D := (dC, dI)) (ci := 1) (v := .ref (ad 1)) (C := R_S) (T := F_S) (N := 6) hx hb hts (fun w h => List.mem_cons_of_mem _ (gGP (uw_S w h))) hown hK hP 0 (sW_get (by decide)) rfl 0 (by decide) (hG (.fieldLink R_S 11 "ValueSieve" "values" "[LValueSieve$Value;") (gGP gw52)) (fun _ h9 => h9) rfl d_S_canBe_5 ?_
  refine lv_iload_n hx hb d_S_canBe_8 rfl (lv_at hl 2 rfl) ?_
  refine sq_ld (P := p2) hx hb hK hP rfl b2 d_S_canBe_9 ?_
  refine sc_v (T := VV) (F := f_V_take x (v p2)) (wc := [((ad 3), vE x), ((ad (6 + p2)), vE (v p2))]) (w1 := fun g10 => [((ad 3), vE g10), ((ad (6 + p2)), vE (v p2))]) (v' := fun g10 => v) (x' := fun g10 => g10) (y' := fun g10 => y) (z' := fun g10 => z) (va_runV (As := [.ref (ad (6 + p2))]) (rest := []) ⟨hx, hb, hml, hown, hts⟩ (c_V_take l dC dI (ad 3) (ad (6 + p2)) s.heap.size x (v p2)) (cwV 1 hts (gV9 gw96 gw97 gw98 gw1 gw99) rfl rfl rfl (by decide +kernel) ⟨(Nat.le_of_ble_eq_true rfl), (Nat.le_of_ble_eq_true rfl)⟩) ⟨blm, va_recv hK hP (ci := 0) (q0 := 3) rfl (sW_get (by decide)), fun U hU hW => ⟨rfl, by rw [hU], by rw [hU]; exact hP.sub [3, 6 + p2] (fl2 (sW_get (by decide)) (sW_v b2)), kE (va_K.moved hW.alike hK), (hD.sub [3, 6 + p2] (nd2 (by omega)) (mp2 (sW_get (by decide)) (sW_v b2))).weaken (fun _ _ _ _ => trivial)⟩⟩ rfl rfl hl.1 rfl (lv_room (Nat.le_of_ble_eq_true rfl)) d_S_canBe_10 ⟨(Nat.le_of_ble_eq_true rfl), (Nat.le_of_ble_eq_true rfl)⟩) hP hD hS hA [3, 6 + p2] (mp2 (sW_get (by decide)) (sW_v b2)) (fun g10 => (sN_fix (fun h => absurd (by simp) h) (fun _ => rfl) (fun _ => rfl) (in2 (Pr := fun i => sE ad cQ cJ v w t g10 y z i ∈ [((ad 3), vE g10), ((ad (6 + p2)), vE (v p2))]) m0 (by rw [sE_v]; exact m1)))) (fun g10 eg10 H locs hP hD hS => ?_)
  refine lv_aload_n hx hb d_S_canBe_13 rfl (lv_at hl 0 rfl) ?_
  refine va_get (D := (dC, dI)) (ci := 1) (v := .ref (ad 4)) (C := R_S) (T := F_S) (N := 6) hx hb hts (fun w h => List.mem_cons_of_mem _ (gGP (uw_S w h))) hown hK hP 0 (sW_get (by decide)) rfl 3 (by decide) (hG (.fieldLink R_S 24 "ValueSieve" "y" "LValueSieve$Value;") (gGP gw55)) (fun _ h9 => h9) rfl d_S_canBe_14 ?_
  refine lv_aload_n hx hb d_S_canBe_17 rfl (lv_at hl 0 rfl) ?_
  refine va_get (D := (dC, dI)) (ci := 1) (v := .ref (ad 1)) (C := R_S) (T := F_S) (N := 6) hx hb hts (fun w h => List.mem_cons_of_mem _ (gGP (uw_S w h))) hown hK hP 0 (sW_get (by decide)) rfl 0 (by decide) (hG (.fieldLink R_S 11 "ValueSieve" "values" "[LValueSieve$Value;") (gGP gw52)) (fun _ h9 => h9) rfl d_S_canBe_18 ?_
  refine lv_iload_n hx hb d_S_canBe_21 rfl (lv_at hl 3 rfl) ?_
  refine sq_ld (P := p3) hx hb hK hP rfl b3 d_S_canBe_22 ?_
  refine sc_v (T := VV) (F := f_V_take y (v p3)) (wc := [((ad 4), vE y), ((ad (6 + p3)), vE (v p3))]) (w1 := fun g23 => [((ad 4), vE g23), ((ad (6 + p3)), vE (v p3))]) (v' := fun g23 => v) (x' := fun g23 => g10) (y' := fun g23 => g23) (z' := fun g23 => z) (va_runV (As := [.ref (ad (6 + p3))]) (rest := []) ⟨hx, hb, hml, hown, hts⟩ (c_V_take l dC dI (ad 4) (ad (6 + p3)) H.size y (v p3)) (cwV 1 hts (gV9 gw96 gw97 gw98 gw1 gw99) rfl rfl rfl (by decide +kernel) ⟨(Nat.le_of_ble_eq_true rfl), (Nat.le_of_ble_eq_true rfl)⟩) ⟨blm, va_recv hK hP (ci := 0) (q0 := 4) rfl (sW_get (by decide)), fun U hU hW => ⟨rfl, by rw [hU], by rw [hU]; exact hP.sub [4, 6 + p3] (fl2 (sW_get (by decide)) (sW_v b3)), kE (va_K.moved hW.alike hK), (hD.sub [4, 6 + p3] (nd2 (by omega)) (mp2 (sW_get (by decide)) (sW_v b3))).weaken (fun _ _ _ _ => trivial)⟩⟩ rfl rfl hl.1 rfl (lv_room (Nat.le_of_ble_eq_true rfl)) d_S_canBe_23 ⟨(Nat.le_of_ble_eq_true rfl), (Nat.le_of_ble_eq_true rfl)⟩) hP hD hS hA [4, 6 + p3] (mp2 (sW_get (by decide)) (sW_v b3)) (fun g23 => (sN_fix (fun _ => rfl) (fun h => absurd (by simp) h) (fun _ => rfl) (in2 (Pr := fun i => sE ad cQ cJ v w t g10 g23 z i ∈ [((ad 4), vE g23), ((ad (6 + p3)), vE (v p3))]) m0 (by rw [sE_v]; exact m1)))) (fun g23 eg23 H locs hP hD hS => ?_)
  refine lv_iload_n hx hb d_S_canBe_26 rfl (lv_at hl 1 rfl) ?_
  refine lv_aload_n hx hb d_S_canBe_27 rfl (lv_at hl 0 rfl) ?_
  refine va_get (D := (dC, dI)) (ci := 1) (v := .ref (ad 3)) (C := R_S) (T := F_S) (N := 6) hx hb hts (fun w h => List.mem_cons_of_mem _ (gGP (uw_S w h))) hown hK hP 0 (sW_get (by decide)) rfl 2 (by decide) (hG (.fieldLink R_S 20 "ValueSieve" "x" "LValueSieve$Value;") (gGP gw54)) (fun _ h9 => h9) rfl d_S_canBe_28 ?_
  refine lv_aload_n hx hb d_S_canBe_31 rfl (lv_at hl 0 rfl) ?_
  refine va_get (D := (dC, dI)) (ci := 1) (v := .ref (ad 4)) (C := R_S) (T := F_S) (N := 6) hx hb hts (fun w h => List.mem_cons_of_mem _ (gGP (uw_S w h))) hown hK hP 0 (sW_get (by decide)) rfl 3 (by decide) (hG (.fieldLink R_S 24 "ValueSieve" "y" "LValueSieve$Value;") (gGP gw55)) (fun _ h9 => h9) rfl d_S_canBe_32 ?_
  refine sc_v (T := VV × VV) (F := f_C_refine p1 g10 g23) (wc := [((ad 3), vE g10), ((ad 4), vE g23)]) (w1 := fun g35 => [((ad 3), vE g35.1), ((ad 4), vE g35.2)]) (v' := fun g35 => v) (x' := fun g35 => g35.1) (y' := fun g35 => g35.2) (z' := fun g35 => z) (va_runS (As := [.int (p1), .ref (ad 3), .ref (ad 4)]) (rest := []) ⟨hx, hb, hml, hown, hts⟩ (c_C_refine l dC dI (ad 3) (ad 4) H.size p1 g10 g23) (va_cwS 3 hts (gS9 gw303 gw304 gw6 gw305) rfl rfl rfl (by decide +kernel) ⟨(Nat.le_of_ble_eq_true rfl), (Nat.le_of_ble_eq_true rfl)⟩) ⟨blm, fun U hU hW => ⟨rfl, by rw [hU], by rw [hU]; exact hP.sub [3, 4] (fl2 (sW_get (by decide)) (sW_get (by decide))), kE (va_K.moved hW.alike hK), (hD.sub [3, 4] (nd2 (by decide)) (mp2 (sW_get (by decide)) (sW_get (by decide)))).weaken (fun _ _ _ _ => trivial)⟩⟩ rfl rfl hl.1 rfl (lv_room (Nat.le_of_ble_eq_true rfl)) d_S_canBe_35 ⟨(Nat.le_of_ble_eq_true rfl), (Nat.le_of_ble_eq_true rfl)⟩) hP hD hS hA [3, 4] (mp2 (sW_get (by decide)) (sW_get (by decide))) (fun g35 => (sN_fix (fun h => absurd (by simp) h) (fun h => absurd (by simp) h) (fun _ => rfl) (in2 (Pr := fun i => sE ad cQ cJ v w t g35.1 g35.2 z i ∈ [((ad 3), vE g35.1), ((ad 4), vE g35.2)]) m0 m1))) (fun g35 eg35 H locs hP hD hS => ?_)
  refine lv_aload_n hx hb d_S_canBe_38 rfl (lv_at hl 0 rfl) ?_
  refine va_get (D := (dC, dI)) (ci := 1) (v := .ref (ad 3)) (C := R_S) (T := F_S) (N := 6) hx hb hts (fun w h => List.mem_cons_of_mem _ (gGP (uw_S w h))) hown hK hP 0 (sW_get (by decide)) rfl 2 (by decide) (hG (.fieldLink R_S 20 "ValueSieve" "x" "LValueSieve$Value;") (gGP gw54)) (fun _ h9 => h9) rfl d_S_canBe_39 ?_
  refine va_get (D := (dC, dI)) (ci := 0) (v := .int (bI g35.1.2.2.2.2.2.2)) (C := R_V) (T := F_V) (N := 7) hx hb hts (fun w h => List.mem_cons_of_mem _ (gGP (uw_V w h))) hown hK hP (3) (sW_get (by decide)) rfl 6 (by decide) (hG (.fieldLink R_S 171 "ValueSieve$Value" "nothing" "Z") (gGP gw43)) (fun _ h9 => h9) rfl d_S_canBe_42 ?_
  refine lv_if_ne (tgt := 62) hx hb d_S_canBe_45 (by decide) (fun e1_62 => ?_) (fun e1_62 => ?_)
  · refine lv_iconst (v := 0) hx hb d_S_canBe_62 (by decide) ?_
    have fe : f_S_canBe v w t x y z p1 p2 p3 = (0, g35.1, g35.2) := by unfold f_S_canBe; rw [eg10, eg23, eg35]; first | with_reducible exact if_neg e1_62 | exact if_neg e1_62
    exact W.zret (v := 0) hx hb hr (by decide) (fun t9 ht hW => ⟨⟨_, (), rfl, ⟨by rw [fe], trivial⟩, by rw [ht, fe]; exact hP, by rw [fe]; exact hD⟩, hS.F ht⟩) hS.2.2 d_S_canBe_63
  · refine lv_aload_n hx hb d_S_canBe_48 rfl (lv_at hl 0 rfl) ?_
    refine va_get (D := (dC, dI)) (ci := 1) (v := .ref (ad 4)) (C := R_S) (T := F_S) (N := 6) hx hb hts (fun w h => List.mem_cons_of_mem _ (gGP (uw_S w h))) hown hK hP 0 (sW_get (by decide)) rfl 3 (by decide) (hG (.fieldLink R_S 24 "ValueSieve" "y" "LValueSieve$Value;") (gGP gw55)) (fun _ h9 => h9) rfl d_S_canBe_49 ?_
    refine va_get (D := (dC, dI)) (ci := 0) (v := .int (bI g35.2.2.2.2.2.2.2)) (C := R_V) (T := F_V) (N := 7) hx hb hts (fun w h => List.mem_cons_of_mem _ (gGP (uw_V w h))) hown hK hP (4) (sW_get (by decide)) rfl 6 (by decide) (hG (.fieldLink R_S 171 "ValueSieve$Value" "nothing" "Z") (gGP gw43)) (fun _ h9 => h9) rfl d_S_canBe_52 ?_
    refine lv_if_ne (tgt := 62) hx hb d_S_canBe_55 (by decide) (fun e2_62 => ?_) (fun e2_62 => ?_)
    · refine lv_iconst (v := 0) hx hb d_S_canBe_62 (by decide) ?_
      have fe : f_S_canBe v w t x y z p1 p2 p3 = (0, g35.1, g35.2) := by unfold f_S_canBe; rw [eg10, eg23, eg35]; first | with_reducible exact (if_pos e1_62).trans (if_neg e2_62) | exact (if_pos e1_62).trans (if_neg e2_62)
      exact W.zret (v := 0) hx hb hr (by decide) (fun t9 ht hW => ⟨⟨_, (), rfl, ⟨by rw [fe], trivial⟩, by rw [ht, fe]; exact hP, by rw [fe]; exact hD⟩, hS.F ht⟩) hS.2.2 d_S_canBe_63
    · refine lv_iconst (v := 1) hx hb d_S_canBe_58 (by decide) ?_
      refine lv_goto (tgt := 63) hx hb d_S_canBe_59 (by decide) ?_
      have fe : f_S_canBe v w t x y z p1 p2 p3 = (1, g35.1, g35.2) := by unfold f_S_canBe; rw [eg10, eg23, eg35]; first | with_reducible exact (if_pos e1_62).trans (if_pos e2_62) | exact (if_pos e1_62).trans (if_pos e2_62)
      exact W.zret (v := 1) hx hb hr (by decide) (fun t9 ht hW => ⟨⟨_, (), rfl, ⟨by rw [fe], trivial⟩, by rw [ht, fe]; exact hP, by rw [fe]; exact hD⟩, hS.F ht⟩) hS.2.2 d_S_canBe_63
