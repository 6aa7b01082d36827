-- ValueSieve.join
theorem d_S_join_0 : decode b_S_join 0 = .ok (.iload_n 1, 1) := by decide +kernel
theorem d_S_join_1 : decode b_S_join 1 = .ok (.invokestatic 34, 3) := by decide +kernel
theorem d_S_join_4 : decode b_S_join 4 = .ok (.iload_n 2, 1) := by decide +kernel
theorem d_S_join_5 : decode b_S_join 5 = .ok (.invokestatic 34, 3) := by decide +kernel
theorem d_S_join_8 : decode b_S_join 8 = .ok (.iload_n 3, 1) := by decide +kernel
theorem d_S_join_9 : decode b_S_join 9 = .ok (.invokestatic 34, 3) := by decide +kernel
theorem d_S_join_12 : decode b_S_join 12 = .ok (.aload_n 0, 1) := by decide +kernel
theorem d_S_join_13 : decode b_S_join 13 = .ok (.getfield 27, 3) := by decide +kernel
theorem d_S_join_16 : decode b_S_join 16 = .ok (.aload_n 0, 1) := by decide +kernel
theorem d_S_join_17 : decode b_S_join 17 = .ok (.getfield 11, 3) := by decide +kernel
theorem d_S_join_20 : decode b_S_join 20 = .ok (.iload_n 2, 1) := by decide +kernel
theorem d_S_join_21 : decode b_S_join 21 = .ok (.aaload, 1) := by decide +kernel
theorem d_S_join_22 : decode b_S_join 22 = .ok (.invokevirtual 77, 3) := by decide +kernel
theorem d_S_join_25 : decode b_S_join 25 = .ok (.aload_n 0, 1) := by decide +kernel
theorem d_S_join_26 : decode b_S_join 26 = .ok (.getfield 27, 3) := by decide +kernel
theorem d_S_join_29 : decode b_S_join 29 = .ok (.aload_n 0, 1) := by decide +kernel
theorem d_S_join_30 : decode b_S_join 30 = .ok (.getfield 11, 3) := by decide +kernel
theorem d_S_join_33 : decode b_S_join 33 = .ok (.iload_n 3, 1) := by decide +kernel
theorem d_S_join_34 : decode b_S_join 34 = .ok (.aaload, 1) := by decide +kernel
theorem d_S_join_35 : decode b_S_join 35 = .ok (.iconst 0, 1) := by decide +kernel
theorem d_S_join_36 : decode b_S_join 36 = .ok (.invokevirtual 116, 3) := by decide +kernel
theorem d_S_join_39 : decode b_S_join 39 = .ok (.aload_n 0, 1) := by decide +kernel
theorem d_S_join_40 : decode b_S_join 40 = .ok (.iload_n 1, 1) := by decide +kernel
theorem d_S_join_41 : decode b_S_join 41 = .ok (.aload_n 0, 1) := by decide +kernel
theorem d_S_join_42 : decode b_S_join 42 = .ok (.getfield 27, 3) := by decide +kernel
theorem d_S_join_45 : decode b_S_join 45 = .ok (.iload 4, 2) := by decide +kernel
theorem d_S_join_47 : decode b_S_join 47 = .ok (.ifCond .eq 12, 3) := by decide +kernel
theorem d_S_join_50 : decode b_S_join 50 = .ok (.aload_n 0, 1) := by decide +kernel
theorem d_S_join_51 : decode b_S_join 51 = .ok (.getfield 15, 3) := by decide +kernel
theorem d_S_join_54 : decode b_S_join 54 = .ok (.iload_n 2, 1) := by decide +kernel
theorem d_S_join_55 : decode b_S_join 55 = .ok (.laload, 1) := by decide +kernel
theorem d_S_join_56 : decode b_S_join 56 = .ok (.goto 9, 3) := by decide +kernel
theorem d_S_join_59 : decode b_S_join 59 = .ok (.aload_n 0, 1) := by decide +kernel
theorem d_S_join_60 : decode b_S_join 60 = .ok (.getfield 15, 3) := by decide +kernel
theorem d_S_join_63 : decode b_S_join 63 = .ok (.iload_n 3, 1) := by decide +kernel
theorem d_S_join_64 : decode b_S_join 64 = .ok (.laload, 1) := by decide +kernel
theorem d_S_join_65 : decode b_S_join 65 = .ok (.invokevirtual 41, 3) := by decide +kernel
theorem d_S_join_68 : decode b_S_join 68 = .ok (.return_, 1) := by decide +kernel
def f_S_join (v : Nat → VV) (w : Nat → Int64) (t : Int32) (x : VV) (y : VV) (z : VV) (p1 : Int32) (p2 : Int32) (p3 : Int32) (p4 : Int32) : Int32 × (Nat → VV) × (Nat → Int64) × (Int32) × (VV) × (VV) × (VV) := (if f_S_requirePlace p1 = 0 then (if f_S_requirePlace p2 = 0 then (if f_S_requirePlace p3 = 0 then (if p4 = 0 then (0, ((f_S_write_z v w t x y (f_V_spread (f_V_take z (v p2.toNatClampNeg)) (v p3.toNatClampNeg) 0) p1.toNatClampNeg (w p3.toNatClampNeg))).1, ((f_S_write_z v w t x y (f_V_spread (f_V_take z (v p2.toNatClampNeg)) (v p3.toNatClampNeg) 0) p1.toNatClampNeg (w p3.toNatClampNeg))).2.1, ((f_S_write_z v w t x y (f_V_spread (f_V_take z (v p2.toNatClampNeg)) (v p3.toNatClampNeg) 0) p1.toNatClampNeg (w p3.toNatClampNeg))).2.2, x, y, (f_V_spread (f_V_take z (v p2.toNatClampNeg)) (v p3.toNatClampNeg) 0)) else (0, ((f_S_write_z v w t x y (f_V_spread (f_V_take z (v p2.toNatClampNeg)) (v p3.toNatClampNeg) 0) p1.toNatClampNeg (w p2.toNatClampNeg))).1, ((f_S_write_z v w t x y (f_V_spread (f_V_take z (v p2.toNatClampNeg)) (v p3.toNatClampNeg) 0) p1.toNatClampNeg (w p2.toNatClampNeg))).2.1, ((f_S_write_z v w t x y (f_V_spread (f_V_take z (v p2.toNatClampNeg)) (v p3.toNatClampNeg) 0) p1.toNatClampNeg (w p2.toNatClampNeg))).2.2, x, y, (f_V_spread (f_V_take z (v p2.toNatClampNeg)) (v p3.toNatClampNeg) 0))) else (f_S_requirePlace p3, v, w, t, x, y, z)) else (f_S_requirePlace p2, v, w, t, x, y, z)) else (f_S_requirePlace p1, v, w, t, x, y, z))
def k_S_join : List Cond := Cond.code y_S_join b_S_join 5 none :: gP
set_option maxRecDepth 100000 in
set_option maxHeartbeats 4000000 in
theorem c_S_join (l : Launch) (hlt : l.stackTraces = false) (dC : Nat → ClassId) (dI : Nat → Nat → Nat) (ad : Nat → Nat) (cQ cJ : ClassId) (sz : Nat) (v : Nat → VV) (w : Nat → Int64) (t : Int32) (x : VV) (y : VV) (z : VV) (p1 : Int32) (p2 : Int32) (p3 : Int32) (p4 : Int32) : vx_Met l y_S_join k_S_join ({ frames := 7, cells := 3, slots := 18, locals := 140 } : Room) (va_Pc [.ref (ad 0), .int (p1), .int (p2), .int (p3), .int (p4)] (sP (dC, dI) (sT cQ cJ) (sW ad cQ cJ v w t x y z) sz)) (va_Qv (fun _ : Unit => (f_S_join v w t x y z p1 p2 p3 p4).1 = 0) (mB (dC, dI) (va_A (sW ad cQ cJ v w t x y z) sz) (sW ad cQ cJ (f_S_join v w t x y z p1 p2 p3 p4).2.1 (f_S_join v w t x y z p1 p2 p3 p4).2.2.1 (f_S_join v w t x y z p1 p2 p3 p4).2.2.2.1 (f_S_join v w t x y z p1 p2 p3 p4).2.2.2.2.1 (f_S_join v w t x y z p1 p2 p3 p4).2.2.2.2.2.1 (f_S_join v w t x y z p1 p2 p3 p4).2.2.2.2.2.2)) (va_A (sW ad cQ cJ v w t x y z) sz)) (vx_X (fun _ : Unit => True) (fun E _ t9 => xE (f_S_join v w t x y z p1 p2 p3 p4).1 E ∧ mB (dC, dI) (va_A (sW ad cQ cJ v w t x y z) sz) (sW ad cQ cJ (f_S_join v w t x y z p1 p2 p3 p4).2.1 (f_S_join v w t x y z p1 p2 p3 p4).2.2.1 (f_S_join v w t x y z p1 p2 p3 p4).2.2.2.1 (f_S_join v w t x y z p1 p2 p3 p4).2.2.2.2.1 (f_S_join v w t x y z p1 p2 p3 p4).2.2.2.2.2.1 (f_S_join v w t x y z p1 p2 p3 p4).2.2.2.2.2.2) () t9) (va_A (sW ad cQ cJ v w t x y z) sz)) 3 18 (va_A (sW ad cQ cJ v w t x y z) sz) := by
  refine vx_ofW (cc := b_S_join) (maxL := 5) (ret := none) (by decide) rfl ?_
  intro p e s m args below meth c s₁ B hml htab hv
  obtain ⟨rfl, hsz, hP, hK, hD0, hX⟩ := hv
  have hx := B.exec
  have hb := B.bytes
  have hr := B.returns
  have hts := atoms_spec (ws := k_S_join) B.pre
  have hG : ∀ w ∈ gP, w.before _ s = true := fun w h => hts w (List.mem_cons_of_mem _ h)
  have hown : s.vm.findClass R_S = some m.cls := findClass_of_methodNamed B.named
  have hlocks := B.notSynchronized
  subst hsz
  have hD := hD0.self (sz := s.heap.size)
  generalize hAe : va_A (sW ad cQ cJ v w t x y z) s.heap.size = A at hD hX ⊢
  have hA : ∀ q : Nat, s.heap.size ≤ q → A q := fun q h => by rw [← hAe]; exact Or.inr h
  have hS : va_S A s.heap s.heap [] := va_S.rf
  have hl := lv_entry ([.ref (ad 0), .int (p1), .int (p2), .int (p3), .int (p4)]) (n := 5) (Nat.le_of_ble_eq_true rfl)
  rw [lg_entry_eq]
  generalize (lg_sl ([.ref (ad 0), .int (p1), .int (p2), .int (p3), .int (p4)]) ++ List.replicate (5 - (lg_sl ([.ref (ad 0), .int (p1), .int (p2), .int (p3), .int (p4)])).length) Slot.unset).toArray = ls at hl ⊢
  have hl : lv_has ls 5 [(0, .ref (ad 0)), (1, .int (p1)), (2, .int (p2)), (3, .int (p3)), (4, .int (p4))] := hl
  refine lv_iload_n hx hb d_S_join_0 rfl (lv_at hl 1 rfl) ?_
  refine sx_v (F := f_S_requirePlace p1) (vx_runS (As := [.int (p1)]) (rest := []) ⟨hx, hb, hml, hown, hts⟩ (c_S_requirePlace l hlt s.heap.size p1) (va_cwS 1 hts (gSS gw70 gw71 gw0 gw72) rfl rfl rfl (by decide +kernel) ⟨(Nat.le_of_ble_eq_true rfl), (Nat.le_of_ble_eq_true rfl)⟩) ⟨blx, fun U hU hW => ⟨rfl, by rw [hU], xq_at hX hS hA hU hW⟩⟩ rfl rfl hl.1 rfl (lv_room (Nat.le_of_ble_eq_true rfl)) d_S_join_1 ⟨(Nat.le_of_ble_eq_true rfl), (Nat.le_of_ble_eq_true rfl)⟩) hP hS hA (fun E ce q9 H locs hE hP hS hce hcv hcl => ?_) (fun h1 H locs hP hS => ?_)
  · have fe : f_S_join v w t x y z p1 p2 p3 p4 = (f_S_requirePlace p1, v, w, t, x, y, z) := by unfold f_S_join; first | with_reducible exact if_neg hE.ne | exact if_neg hE.ne
    exact vx_out (fun x hx9 => (htab x hx9).elim) hlocks hce hcv hcl (fun t9 ht hal => ⟨(), trivial, ⟨by rw [fe]; exact hE, by rw [ht, fe]; exact hP, by rw [fe]; exact hD⟩, hS.F ht⟩) hS.2.2 (Nat.le_of_ble_eq_true rfl) (Nat.le_of_ble_eq_true rfl)
  · refine lv_iload_n hx hb d_S_join_4 rfl (lv_at hl 2 rfl) ?_
    refine sx_v (F := f_S_requirePlace p2) (vx_runS (As := [.int (p2)]) (rest := []) ⟨hx, hb, hml, hown, hts⟩ (c_S_requirePlace l hlt H.size p2) (va_cwS 1 hts (gSS gw70 gw71 gw0 gw72) rfl rfl rfl (by decide +kernel) ⟨(Nat.le_of_ble_eq_true rfl), (Nat.le_of_ble_eq_true rfl)⟩) ⟨blx, fun U hU hW => ⟨rfl, by rw [hU], xq_at hX hS hA hU hW⟩⟩ rfl rfl hl.1 rfl (lv_room (Nat.le_of_ble_eq_true rfl)) d_S_join_5 ⟨(Nat.le_of_ble_eq_true rfl), (Nat.le_of_ble_eq_true rfl)⟩) hP hS hA (fun E ce q9 H locs hE hP hS hce hcv hcl => ?_) (fun h5 H locs hP hS => ?_)
    · have fe : f_S_join v w t x y z p1 p2 p3 p4 = (f_S_requirePlace p2, v, w, t, x, y, z) := by unfold f_S_join; first | with_reducible exact (if_pos h1).trans (if_neg hE.ne) | exact (if_pos h1).trans (if_neg hE.ne)
      exact vx_out (fun x hx9 => (htab x hx9).elim) hlocks hce hcv hcl (fun t9 ht hal => ⟨(), trivial, ⟨by rw [fe]; exact hE, by rw [ht, fe]; exact hP, by rw [fe]; exact hD⟩, hS.F ht⟩) hS.2.2 (Nat.le_of_ble_eq_true rfl) (Nat.le_of_ble_eq_true rfl)
    · refine lv_iload_n hx hb d_S_join_8 rfl (lv_at hl 3 rfl) ?_
      refine sx_v (F := f_S_requirePlace p3) (vx_runS (As := [.int (p3)]) (rest := []) ⟨hx, hb, hml, hown, hts⟩ (c_S_requirePlace l hlt H.size p3) (va_cwS 1 hts (gSS gw70 gw71 gw0 gw72) rfl rfl rfl (by decide +kernel) ⟨(Nat.le_of_ble_eq_true rfl), (Nat.le_of_ble_eq_true rfl)⟩) ⟨blx, fun U hU hW => ⟨rfl, by rw [hU], xq_at hX hS hA hU hW⟩⟩ rfl rfl hl.1 rfl (lv_room (Nat.le_of_ble_eq_true rfl)) d_S_join_9 ⟨(Nat.le_of_ble_eq_true rfl), (Nat.le_of_ble_eq_true rfl)⟩) hP hS hA (fun E ce q9 H locs hE hP hS hce hcv hcl => ?_) (fun h9 H locs hP hS => ?_)
      · have fe : f_S_join v w t x y z p1 p2 p3 p4 = (f_S_requirePlace p3, v, w, t, x, y, z) := by unfold f_S_join; first | with_reducible exact (if_pos h1).trans ((if_pos h5).trans (if_neg hE.ne)) | exact (if_pos h1).trans ((if_pos h5).trans (if_neg hE.ne))
        exact vx_out (fun x hx9 => (htab x hx9).elim) hlocks hce hcv hcl (fun t9 ht hal => ⟨(), trivial, ⟨by rw [fe]; exact hE, by rw [ht, fe]; exact hP, by rw [fe]; exact hD⟩, hS.F ht⟩) hS.2.2 (Nat.le_of_ble_eq_true rfl) (Nat.le_of_ble_eq_true rfl)
      · refine lv_aload_n hx hb d_S_join_12 rfl (lv_at hl 0 rfl) ?_
        refine va_get (D := (dC, dI)) (ci := 1) (v := .ref (ad 5)) (C := R_S) (T := F_S) (N := 6) hx hb hts (fun w h => List.mem_cons_of_mem _ (gGP (uw_S w h))) hown hK hP 0 (sW_get (by decide)) rfl 4 (by decide) (hG (.fieldLink R_S 27 "ValueSieve" "made" "LValueSieve$Value;") (gGP gw56)) (fun _ h9 => h9) rfl d_S_join_13 ?_
        refine lv_aload_n hx hb d_S_join_16 rfl (lv_at hl 0 rfl) ?_
        refine va_get (D := (dC, dI)) (ci := 1) (v := .ref (ad 1)) (C := R_S) (T := F_S) (N := 6) hx hb hts (fun w h => List.mem_cons_of_mem _ (gGP (uw_S w h))) hown hK hP 0 (sW_get (by decide)) rfl 0 (by decide) (hG (.fieldLink R_S 11 "ValueSieve" "values" "[LValueSieve$Value;") (gGP gw52)) (fun _ h9 => h9) rfl d_S_join_17 ?_
        refine lv_iload_n hx hb d_S_join_20 rfl (lv_at hl 2 rfl) ?_
        refine sq_ld (P := p2.toNatClampNeg) hx hb hK hP (ie_nI (rp_ok h5)).1 (ie_nI (rp_ok h5)).2 d_S_join_21 ?_
        refine sc_v (T := VV) (F := f_V_take z (v p2.toNatClampNeg)) (wc := [((ad 5), vE z), ((ad (6 + p2.toNatClampNeg)), vE (v p2.toNatClampNeg))]) (w1 := fun g22 => [((ad 5), vE g22), ((ad (6 + p2.toNatClampNeg)), vE (v p2.toNatClampNeg))]) (v' := fun g22 => v) (x' := fun g22 => x) (y' := fun g22 => y) (z' := fun g22 => g22) (va_runV (As := [.ref (ad (6 + p2.toNatClampNeg))]) (rest := []) ⟨hx, hb, hml, hown, hts⟩ (c_V_take l dC dI (ad 5) (ad (6 + p2.toNatClampNeg)) H.size z (v p2.toNatClampNeg)) (cwV 1 hts (gV9 gw96 gw97 gw98 gw1 gw99) rfl rfl rfl (by decide +kernel) ⟨(Nat.le_of_ble_eq_true rfl), (Nat.le_of_ble_eq_true rfl)⟩) ⟨blm, va_recv hK hP (ci := 0) (q0 := 5) rfl (sW_get (by decide)), fun U hU hW => ⟨rfl, by rw [hU], by rw [hU]; exact hP.sub [5, 6 + p2.toNatClampNeg] (fl2 (sW_get (by decide)) (sW_v (ie_nI (rp_ok h5)).2)), kE (va_K.moved hW.alike hK), (hD.sub [5, 6 + p2.toNatClampNeg] (nd2 (by omega)) (mp2 (sW_get (by decide)) (sW_v (ie_nI (rp_ok h5)).2))).weaken (fun _ _ _ _ => trivial)⟩⟩ rfl rfl hl.1 rfl (lv_room (Nat.le_of_ble_eq_true rfl)) d_S_join_22 ⟨(Nat.le_of_ble_eq_true rfl), (Nat.le_of_ble_eq_true rfl)⟩) hP hD hS hA [5, 6 + p2.toNatClampNeg] (mp2 (sW_get (by decide)) (sW_v (ie_nI (rp_ok h5)).2)) (fun g22 => (sN_fix (fun _ => rfl) (fun _ => rfl) (fun h => absurd (by simp) h) (in2 (Pr := fun i => sE ad cQ cJ v w t x y g22 i ∈ [((ad 5), vE g22), ((ad (6 + p2.toNatClampNeg)), vE (v p2.toNatClampNeg))]) m0 (by rw [sE_v]; exact m1)))) (fun g22 eg22 H locs hP hD hS => ?_)
        refine lv_aload_n hx hb d_S_join_25 rfl (lv_at hl 0 rfl) ?_
        refine va_get (D := (dC, dI)) (ci := 1) (v := .ref (ad 5)) (C := R_S) (T := F_S) (N := 6) hx hb hts (fun w h => List.mem_cons_of_mem _ (gGP (uw_S w h))) hown hK hP 0 (sW_get (by decide)) rfl 4 (by decide) (hG (.fieldLink R_S 27 "ValueSieve" "made" "LValueSieve$Value;") (gGP gw56)) (fun _ h9 => h9) rfl d_S_join_26 ?_
        refine lv_aload_n hx hb d_S_join_29 rfl (lv_at hl 0 rfl) ?_
        refine va_get (D := (dC, dI)) (ci := 1) (v := .ref (ad 1)) (C := R_S) (T := F_S) (N := 6) hx hb hts (fun w h => List.mem_cons_of_mem _ (gGP (uw_S w h))) hown hK hP 0 (sW_get (by decide)) rfl 0 (by decide) (hG (.fieldLink R_S 11 "ValueSieve" "values" "[LValueSieve$Value;") (gGP gw52)) (fun _ h9 => h9) rfl d_S_join_30 ?_
        refine lv_iload_n hx hb d_S_join_33 rfl (lv_at hl 3 rfl) ?_
        refine sq_ld (P := p3.toNatClampNeg) hx hb hK hP (ie_nI (rp_ok h9)).1 (ie_nI (rp_ok h9)).2 d_S_join_34 ?_
        refine lv_iconst (v := 0) hx hb d_S_join_35 (by decide) ?_
        refine sc_v (T := VV) (F := f_V_spread g22 (v p3.toNatClampNeg) 0) (wc := [((ad 5), vE g22), ((ad (6 + p3.toNatClampNeg)), vE (v p3.toNatClampNeg))]) (w1 := fun g36 => [((ad 5), vE g36), ((ad (6 + p3.toNatClampNeg)), vE (v p3.toNatClampNeg))]) (v' := fun g36 => v) (x' := fun g36 => x) (y' := fun g36 => y) (z' := fun g36 => g36) (va_runV (As := [.ref (ad (6 + p3.toNatClampNeg)), .int (0)]) (rest := []) ⟨hx, hb, hml, hown, hts⟩ (c_V_spread l dC dI (ad 5) (ad (6 + p3.toNatClampNeg)) H.size g22 (v p3.toNatClampNeg) 0) (cwV 2 hts (gV9 gw283 gw284 gw285 gw1 gw286) rfl rfl rfl (by decide +kernel) ⟨(Nat.le_of_ble_eq_true rfl), (Nat.le_of_ble_eq_true rfl)⟩) ⟨blm, va_recv hK hP (ci := 0) (q0 := 5) rfl (sW_get (by decide)), fun U hU hW => ⟨rfl, by rw [hU], by rw [hU]; exact hP.sub [5, 6 + p3.toNatClampNeg] (fl2 (sW_get (by decide)) (sW_v (ie_nI (rp_ok h9)).2)), kE (va_K.moved hW.alike hK), (hD.sub [5, 6 + p3.toNatClampNeg] (nd2 (by omega)) (mp2 (sW_get (by decide)) (sW_v (ie_nI (rp_ok h9)).2))).weaken (fun _ _ _ _ => trivial)⟩⟩ rfl rfl hl.1 rfl (lv_room (Nat.le_of_ble_eq_true rfl)) d_S_join_36 ⟨(Nat.le_of_ble_eq_true rfl), (Nat.le_of_ble_eq_true rfl)⟩) hP hD hS hA [5, 6 + p3.toNatClampNeg] (mp2 (sW_get (by decide)) (sW_v (ie_nI (rp_ok h9)).2)) (fun g36 => (sN_fix (fun _ => rfl) (fun _ => rfl) (fun h => absurd (by simp) h) (in2 (Pr := fun i => sE ad cQ cJ v w t x y g36 i ∈ [((ad 5), vE g36), ((ad (6 + p3.toNatClampNeg)), vE (v p3.toNatClampNeg))]) m0 (by rw [sE_v]; exact m1)))) (fun g36 eg36 H locs hP hD hS => ?_)
        refine lv_aload_n hx hb d_S_join_39 rfl (lv_at hl 0 rfl) ?_
        refine lv_iload_n hx hb d_S_join_40 rfl (lv_at hl 1 rfl) ?_
        refine lv_aload_n hx hb d_S_join_41 rfl (lv_at hl 0 rfl) ?_
        refine va_get (D := (dC, dI)) (ci := 1) (v := .ref (ad 5)) (C := R_S) (T := F_S) (N := 6) hx hb hts (fun w h => List.mem_cons_of_mem _ (gGP (uw_S w h))) hown hK hP 0 (sW_get (by decide)) rfl 4 (by decide) (hG (.fieldLink R_S 27 "ValueSieve" "made" "LValueSieve$Value;") (gGP gw56)) (fun _ h9 => h9) rfl d_S_join_42 ?_
        refine lv_iload hx hb d_S_join_45 (lv_at hl 4 rfl) ?_
        refine lv_if_eq (tgt := 59) hx hb d_S_join_47 (by decide) (fun e1_59 => ?_) (fun e1_59 => ?_)
        · refine lv_aload_n hx hb d_S_join_59 rfl (lv_at hl 0 rfl) ?_
          refine va_get (D := (dC, dI)) (ci := 1) (v := .ref (ad 2)) (C := R_S) (T := F_S) (N := 6) hx hb hts (fun w h => List.mem_cons_of_mem _ (gGP (uw_S w h))) hown hK hP 0 (sW_get (by decide)) rfl 1 (by decide) (hG (.fieldLink R_S 15 "ValueSieve" "witnesses" "[J") (gGP gw53)) (fun _ h9 => h9) rfl d_S_join_60 ?_
          refine lv_iload_n hx hb d_S_join_63 rfl (lv_at hl 3 rfl) ?_
          refine sw_ld (P := p3.toNatClampNeg) hx hb hK hP (ie_nI (rp_ok h9)).1 (ie_nI (rp_ok h9)).2 d_S_join_64 ?_
          refine mm_v (F := f_S_write_z v w t x y g36 p1.toNatClampNeg (w p3.toNatClampNeg)) (w1 := fun g65 => (sW ad cQ cJ (g65).1 (g65).2.1 (g65).2.2 x y g36)) (va_runV (As := [.int (nI p1.toNatClampNeg), .ref (ad 5), .long (w p3.toNatClampNeg)]) (rest := []) ⟨hx, hb, hml, hown, hts⟩ (c_S_write_z l dC dI ad cQ cJ H.size v w t x y g36 p1.toNatClampNeg (w p3.toNatClampNeg) (ie_nI (rp_ok h1)).2) (cwV 3 hts (gVS gw93 gw94 gw377 gw0 gw95) rfl rfl rfl (by decide +kernel) ⟨(Nat.le_of_ble_eq_true rfl), (Nat.le_of_ble_eq_true rfl)⟩) ⟨blp, va_recv hK hP (ci := 1) (q0 := 0) rfl (sW_get (by decide)), fun U hU hW => ⟨rfl, by rw [hU], by rw [hU]; exact hP, va_K.moved hW.alike hK, hD.weaken (fun _ _ _ _ => trivial)⟩⟩ rfl rfl hl.1 (by simp only [← (ie_nI (rp_ok h1)).1]; rfl) (lv_room (Nat.le_of_ble_eq_true rfl)) d_S_join_65 ⟨(Nat.le_of_ble_eq_true rfl), (Nat.le_of_ble_eq_true rfl)⟩) hD hS hA (fun g65 eg65 H locs hP hD hS => ?_)
          have fe : f_S_join v w t x y z p1 p2 p3 p4 = (0, (g65).1, (g65).2.1, (g65).2.2, x, y, g36) := by unfold f_S_join; rw [eg22, eg36, eg65]; first | with_reducible exact (if_pos h1).trans ((if_pos h5).trans ((if_pos h9).trans (if_pos e1_59))) | exact (if_pos h1).trans ((if_pos h5).trans ((if_pos h9).trans (if_pos e1_59)))
          refine w_widen (k := 3) (n := 18) (Nat.le_of_ble_eq_true rfl) (Nat.le_of_ble_eq_true rfl) ?_
          refine vx_ret ?_
          exact W.vret hx hb hr (fun t9 ht hW => ⟨⟨(), rfl, (by rw [fe]), by rw [ht, fe]; exact hP, by rw [fe]; exact hD⟩, hS.F ht⟩) hS.2.2 d_S_join_68
        · refine lv_aload_n hx hb d_S_join_50 rfl (lv_at hl 0 rfl) ?_
          refine va_get (D := (dC, dI)) (ci := 1) (v := .ref (ad 2)) (C := R_S) (T := F_S) (N := 6) hx hb hts (fun w h => List.mem_cons_of_mem _ (gGP (uw_S w h))) hown hK hP 0 (sW_get (by decide)) rfl 1 (by decide) (hG (.fieldLink R_S 15 "ValueSieve" "witnesses" "[J") (gGP gw53)) (fun _ h9 => h9) rfl d_S_join_51 ?_
          refine lv_iload_n hx hb d_S_join_54 rfl (lv_at hl 2 rfl) ?_
          refine sw_ld (P := p2.toNatClampNeg) hx hb hK hP (ie_nI (rp_ok h5)).1 (ie_nI (rp_ok h5)).2 d_S_join_55 ?_
          refine lv_goto (tgt := 65) hx hb d_S_join_56 (by decide) ?_
          refine mm_v (F := f_S_write_z v w t x y g36 p1.toNatClampNeg (w p2.toNatClampNeg)) (w1 := fun g65a => (sW ad cQ cJ (g65a).1 (g65a).2.1 (g65a).2.2 x y g36)) (va_runV (As := [.int (nI p1.toNatClampNeg), .ref (ad 5), .long (w p2.toNatClampNeg)]) (rest := []) ⟨hx, hb, hml, hown, hts⟩ (c_S_write_z l dC dI ad cQ cJ H.size v w t x y g36 p1.toNatClampNeg (w p2.toNatClampNeg) (ie_nI (rp_ok h1)).2) (cwV 3 hts (gVS gw93 gw94 gw377 gw0 gw95) rfl rfl rfl (by decide +kernel) ⟨(Nat.le_of_ble_eq_true rfl), (Nat.le_of_ble_eq_true rfl)⟩) ⟨blp, va_recv hK hP (ci := 1) (q0 := 0) rfl (sW_get (by decide)), fun U hU hW => ⟨rfl, by rw [hU], by rw [hU]; exact hP, va_K.moved hW.alike hK, hD.weaken (fun _ _ _ _ => trivial)⟩⟩ rfl rfl hl.1 (by simp only [← (ie_nI (rp_ok h1)).1]; rfl) (lv_room (Nat.le_of_ble_eq_true rfl)) d_S_join_65 ⟨(Nat.le_of_ble_eq_true rfl), (Nat.le_of_ble_eq_true rfl)⟩) hD hS hA (fun g65a eg65a H locs hP hD hS => ?_)
          have fe : f_S_join v w t x y z p1 p2 p3 p4 = (0, (g65a).1, (g65a).2.1, (g65a).2.2, x, y, g36) := by unfold f_S_join; rw [eg22, eg36, eg65a]; first | with_reducible exact (if_pos h1).trans ((if_pos h5).trans ((if_pos h9).trans (if_neg e1_59))) | exact (if_pos h1).trans ((if_pos h5).trans ((if_pos h9).trans (if_neg e1_59)))
          refine w_widen (k := 3) (n := 18) (Nat.le_of_ble_eq_true rfl) (Nat.le_of_ble_eq_true rfl) ?_
          refine vx_ret ?_
          exact W.vret hx hb hr (fun t9 ht hW => ⟨⟨(), rfl, (by rw [fe]), by rw [ht, fe]; exact hP, by rw [fe]; exact hD⟩, hS.F ht⟩) hS.2.2 d_S_join_68
-- ValueSieve.widen
theorem d_S_widen_0 : decode b_S_widen 0 = .ok (.iload_n 1, 1) := by decide +kernel
theorem d_S_widen_1 : decode b_S_widen 1 = .ok (.invokestatic 34, 3) := by decide +kernel
theorem d_S_widen_4 : decode b_S_widen 4 = .ok (.iload_n 2, 1) := by decide +kernel
theorem d_S_widen_5 : decode b_S_widen 5 = .ok (.invokestatic 34, 3) := by decide +kernel
theorem d_S_widen_8 : decode b_S_widen 8 = .ok (.iload_n 3, 1) := by decide +kernel
theorem d_S_widen_9 : decode b_S_widen 9 = .ok (.invokestatic 34, 3) := by decide +kernel
theorem d_S_widen_12 : decode b_S_widen 12 = .ok (.aload_n 0, 1) := by decide +kernel
theorem d_S_widen_13 : decode b_S_widen 13 = .ok (.getfield 27, 3) := by decide +kernel
theorem d_S_widen_16 : decode b_S_widen 16 = .ok (.aload_n 0, 1) := by decide +kernel
theorem d_S_widen_17 : decode b_S_widen 17 = .ok (.getfield 11, 3) := by decide +kernel
theorem d_S_widen_20 : decode b_S_widen 20 = .ok (.iload_n 2, 1) := by decide +kernel
theorem d_S_widen_21 : decode b_S_widen 21 = .ok (.aaload, 1) := by decide +kernel
theorem d_S_widen_22 : decode b_S_widen 22 = .ok (.invokevirtual 77, 3) := by decide +kernel
theorem d_S_widen_25 : decode b_S_widen 25 = .ok (.aload_n 0, 1) := by decide +kernel
theorem d_S_widen_26 : decode b_S_widen 26 = .ok (.getfield 27, 3) := by decide +kernel
theorem d_S_widen_29 : decode b_S_widen 29 = .ok (.aload_n 0, 1) := by decide +kernel
theorem d_S_widen_30 : decode b_S_widen 30 = .ok (.getfield 11, 3) := by decide +kernel
theorem d_S_widen_33 : decode b_S_widen 33 = .ok (.iload_n 3, 1) := by decide +kernel
theorem d_S_widen_34 : decode b_S_widen 34 = .ok (.aaload, 1) := by decide +kernel
theorem d_S_widen_35 : decode b_S_widen 35 = .ok (.iconst 1, 1) := by decide +kernel
theorem d_S_widen_36 : decode b_S_widen 36 = .ok (.invokevirtual 116, 3) := by decide +kernel
theorem d_S_widen_39 : decode b_S_widen 39 = .ok (.aload_n 0, 1) := by decide +kernel
theorem d_S_widen_40 : decode b_S_widen 40 = .ok (.iload_n 1, 1) := by decide +kernel
theorem d_S_widen_41 : decode b_S_widen 41 = .ok (.aload_n 0, 1) := by decide +kernel
theorem d_S_widen_42 : decode b_S_widen 42 = .ok (.getfield 27, 3) := by decide +kernel
theorem d_S_widen_45 : decode b_S_widen 45 = .ok (.aload_n 0, 1) := by decide +kernel
theorem d_S_widen_46 : decode b_S_widen 46 = .ok (.getfield 15, 3) := by decide +kernel
theorem d_S_widen_49 : decode b_S_widen 49 = .ok (.iload_n 3, 1) := by decide +kernel
theorem d_S_widen_50 : decode b_S_widen 50 = .ok (.laload, 1) := by decide +kernel
theorem d_S_widen_51 : decode b_S_widen 51 = .ok (.invokevirtual 41, 3) := by decide +kernel
theorem d_S_widen_54 : decode b_S_widen 54 = .ok (.return_, 1) := by decide +kernel
def f_S_widen (v : Nat → VV) (w : Nat → Int64) (t : Int32) (x : VV) (y : VV) (z : VV) (p1 : Int32) (p2 : Int32) (p3 : Int32) : Int32 × (Nat → VV) × (Nat → Int64) × (Int32) × (VV) × (VV) × (VV) := (if f_S_requirePlace p1 = 0 then (if f_S_requirePlace p2 = 0 then (if f_S_requirePlace p3 = 0 then (0, ((f_S_write_z v w t x y (f_V_spread (f_V_take z (v p2.toNatClampNeg)) (v p3.toNatClampNeg) 1) p1.toNatClampNeg (w p3.toNatClampNeg))).1, ((f_S_write_z v w t x y (f_V_spread (f_V_take z (v p2.toNatClampNeg)) (v p3.toNatClampNeg) 1) p1.toNatClampNeg (w p3.toNatClampNeg))).2.1, ((f_S_write_z v w t x y (f_V_spread (f_V_take z (v p2.toNatClampNeg)) (v p3.toNatClampNeg) 1) p1.toNatClampNeg (w p3.toNatClampNeg))).2.2, x, y, (f_V_spread (f_V_take z (v p2.toNatClampNeg)) (v p3.toNatClampNeg) 1)) else (f_S_requirePlace p3, v, w, t, x, y, z)) else (f_S_requirePlace p2, v, w, t, x, y, z)) else (f_S_requirePlace p1, v, w, t, x, y, z))
def k_S_widen : List Cond := Cond.code y_S_widen b_S_widen 4 none :: gP
set_option maxRecDepth 100000 in
set_option maxHeartbeats 4000000 in
theorem c_S_widen (l : Launch) (hlt : l.stackTraces = false) (dC : Nat → ClassId) (dI : Nat → Nat → Nat) (ad : Nat → Nat) (cQ cJ : ClassId) (sz : Nat) (v : Nat → VV) (w : Nat → Int64) (t : Int32) (x : VV) (y : VV) (z : VV) (p1 : Int32) (p2 : Int32) (p3 : Int32) : vx_Met l y_S_widen k_S_widen ({ frames := 7, cells := 3, slots := 18, locals := 140 } : Room) (va_Pc [.ref (ad 0), .int (p1), .int (p2), .int (p3)] (sP (dC, dI) (sT cQ cJ) (sW ad cQ cJ v w t x y z) sz)) (va_Qv (fun _ : Unit => (f_S_widen v w t x y z p1 p2 p3).1 = 0) (mB (dC, dI) (va_A (sW ad cQ cJ v w t x y z) sz) (sW ad cQ cJ (f_S_widen v w t x y z p1 p2 p3).2.1 (f_S_widen v w t x y z p1 p2 p3).2.2.1 (f_S_widen v w t x y z p1 p2 p3).2.2.2.1 (f_S_widen v w t x y z p1 p2 p3).2.2.2.2.1 (f_S_widen v w t x y z p1 p2 p3).2.2.2.2.2.1 (f_S_widen v w t x y z p1 p2 p3).2.2.2.2.2.2)) (va_A (sW ad cQ cJ v w t x y z) sz)) (vx_X (fun _ : Unit => True) (fun E _ t9 => xE (f_S_widen v w t x y z p1 p2 p3).1 E ∧ mB (dC, dI) (va_A (sW ad cQ cJ v w t x y z) sz) (sW ad cQ cJ (f_S_widen v w t x y z p1 p2 p3).2.1 (f_S_widen v w t x y z p1 p2 p3).2.2.1 (f_S_widen v w t x y z p1 p2 p3).2.2.2.1 (f_S_widen v w t x y z p1 p2 p3).2.2.2.2.1 (f_S_widen v w t x y z p1 p2 p3).2.2.2.2.2.1 (f_S_widen v w t x y z p1 p2 p3).2.2.2.2.2.2) () t9) (va_A (sW ad cQ cJ v w t x y z) sz)) 3 18 (va_A (sW ad cQ cJ v w t x y z) sz) := by
  refine vx_ofW (cc := b_S_widen) (maxL := 4) (ret := none) (by decide) rfl ?_
  intro p e s m args below meth c s₁ B hml htab hv
  obtain ⟨rfl, hsz, hP, hK, hD0, hX⟩ := hv
  have hx := B.exec
  have hb := B.bytes
  have hr := B.returns
  have hts := atoms_spec (ws := k_S_widen) B.pre
  have hG : ∀ w ∈ gP, w.before _ s = true := fun w h => hts w (List.mem_cons_of_mem _ h)
  have hown : s.vm.findClass R_S = some m.cls := findClass_of_methodNamed B.named
  have hlocks := B.notSynchronized
  subst hsz
  have hD := hD0.self (sz := s.heap.size)
  generalize hAe : va_A (sW ad cQ cJ v w t x y z) s.heap.size = A at hD hX ⊢
  have hA : ∀ q : Nat, s.heap.size ≤ q → A q := fun q h => by rw [← hAe]; exact Or.inr h
  have hS : va_S A s.heap s.heap [] := va_S.rf
  have hl := lv_entry ([.ref (ad 0), .int (p1), .int (p2), .int (p3)]) (n := 4) (Nat.le_of_ble_eq_true rfl)
  rw [lg_entry_eq]
  generalize (lg_sl ([.ref (ad 0), .int (p1), .int (p2), .int (p3)]) ++ List.replicate (4 - (lg_sl ([.ref (ad 0), .int (p1), .int (p2), .int (p3)])).length) Slot.unset).toArray = ls at hl ⊢
  have hl : lv_has ls 4 [(0, .ref (ad 0)), (1, .int (p1)), (2, .int (p2)), (3, .int (p3))] := hl
  refine lv_iload_n hx hb d_S_widen_0 rfl (lv_at hl 1 rfl) ?_
  refine sx_v (F := f_S_requirePlace p1) (vx_runS (As := [.int (p1)]) (rest := []) ⟨hx, hb, hml, hown, hts⟩ (c_S_requirePlace l hlt s.heap.size p1) (va_cwS 1 hts (gSS gw70 gw71 gw0 gw72) rfl rfl rfl (by decide +kernel) ⟨(Nat.le_of_ble_eq_true rfl), (Nat.le_of_ble_eq_true rfl)⟩) ⟨blx, fun U hU hW => ⟨rfl, by rw [hU], xq_at hX hS hA hU hW⟩⟩ rfl rfl hl.1 rfl (lv_room (Nat.le_of_ble_eq_true rfl)) d_S_widen_1 ⟨(Nat.le_of_ble_eq_true rfl), (Nat.le_of_ble_eq_true rfl)⟩) hP hS hA (fun E ce q9 H locs hE hP hS hce hcv hcl => ?_) (fun h1 H locs hP hS => ?_)
  · have fe : f_S_widen v w t x y z p1 p2 p3 = (f_S_requirePlace p1, v, w, t, x, y, z) := by unfold f_S_widen; first | with_reducible exact if_neg hE.ne | exact if_neg hE.ne
    exact vx_out (fun x hx9 => (htab x hx9).elim) hlocks hce hcv hcl (fun t9 ht hal => ⟨(), trivial, ⟨by rw [fe]; exact hE, by rw [ht, fe]; exact hP, by rw [fe]; exact hD⟩, hS.F ht⟩) hS.2.2 (Nat.le_of_ble_eq_true rfl) (Nat.le_of_ble_eq_true rfl)
  · refine lv_iload_n hx hb d_S_widen_4 rfl (lv_at hl 2 rfl) ?_
    refine sx_v (F := f_S_requirePlace p2) (vx_runS (As := [.int (p2)]) (rest := []) ⟨hx, hb, hml, hown, hts⟩ (c_S_requirePlace l hlt H.size p2) (va_cwS 1 hts (gSS gw70 gw71 gw0 gw72) rfl rfl rfl (by decide +kernel) ⟨(Nat.le_of_ble_eq_true rfl), (Nat.le_of_ble_eq_true rfl)⟩) ⟨blx, fun U hU hW => ⟨rfl, by rw [hU], xq_at hX hS hA hU hW⟩⟩ rfl rfl hl.1 rfl (lv_room (Nat.le_of_ble_eq_true rfl)) d_S_widen_5 ⟨(Nat.le_of_ble_eq_true rfl), (Nat.le_of_ble_eq_true rfl)⟩) hP hS hA (fun E ce q9 H locs hE hP hS hce hcv hcl => ?_) (fun h5 H locs hP hS => ?_)
    · have fe : f_S_widen v w t x y z p1 p2 p3 = (f_S_requirePlace p2, v, w, t, x, y, z) := by unfold f_S_widen; first | with_reducible exact (if_pos h1).trans (if_neg hE.ne) | exact (if_pos h1).trans (if_neg hE.ne)
      exact vx_out (fun x hx9 => (htab x hx9).elim) hlocks hce hcv hcl (fun t9 ht hal => ⟨(), trivial, ⟨by rw [fe]; exact hE, by rw [ht, fe]; exact hP, by rw [fe]; exact hD⟩, hS.F ht⟩) hS.2.2 (Nat.le_of_ble_eq_true rfl) (Nat.le_of_ble_eq_true rfl)
    · refine lv_iload_n hx hb d_S_widen_8 rfl (lv_at hl 3 rfl) ?_
      refine sx_v (F := f_S_requirePlace p3) (vx_runS (As := [.int (p3)]) (rest := []) ⟨hx, hb, hml, hown, hts⟩ (c_S_requirePlace l hlt H.size p3) (va_cwS 1 hts (gSS gw70 gw71 gw0 gw72) rfl rfl rfl (by decide +kernel) ⟨(Nat.le_of_ble_eq_true rfl), (Nat.le_of_ble_eq_true rfl)⟩) ⟨blx, fun U hU hW => ⟨rfl, by rw [hU], xq_at hX hS hA hU hW⟩⟩ rfl rfl hl.1 rfl (lv_room (Nat.le_of_ble_eq_true rfl)) d_S_widen_9 ⟨(Nat.le_of_ble_eq_true rfl), (Nat.le_of_ble_eq_true rfl)⟩) hP hS hA (fun E ce q9 H locs hE hP hS hce hcv hcl => ?_) (fun h9 H locs hP hS => ?_)
      · have fe : f_S_widen v w t x y z p1 p2 p3 = (f_S_requirePlace p3, v, w, t, x, y, z) := by unfold f_S_widen; first | with_reducible exact (if_pos h1).trans ((if_pos h5).trans (if_neg hE.ne)) | exact (if_pos h1).trans ((if_pos h5).trans (if_neg hE.ne))
        exact vx_out (fun x hx9 => (htab x hx9).elim) hlocks hce hcv hcl (fun t9 ht hal => ⟨(), trivial, ⟨by rw [fe]; exact hE, by rw [ht, fe]; exact hP, by rw [fe]; exact hD⟩, hS.F ht⟩) hS.2.2 (Nat.le_of_ble_eq_true rfl) (Nat.le_of_ble_eq_true rfl)
      · refine lv_aload_n hx hb d_S_widen_12 rfl (lv_at hl 0 rfl) ?_
        refine va_get (D := (dC, dI)) (ci := 1) (v := .ref (ad 5)) (C := R_S) (T := F_S) (N := 6) hx hb hts (fun w h => List.mem_cons_of_mem _ (gGP (uw_S w h))) hown hK hP 0 (sW_get (by decide)) rfl 4 (by decide) (hG (.fieldLink R_S 27 "ValueSieve" "made" "LValueSieve$Value;") (gGP gw56)) (fun _ h9 => h9) rfl d_S_widen_13 ?_
        refine lv_aload_n hx hb d_S_widen_16 rfl (lv_at hl 0 rfl) ?_
        refine va_get (D := (dC, dI)) (ci := 1) (v := .ref (ad 1)) (C := R_S) (T := F_S) (N := 6) hx hb hts (fun w h => List.mem_cons_of_mem _ (gGP (uw_S w h))) hown hK hP 0 (sW_get (by decide)) rfl 0 (by decide) (hG (.fieldLink R_S 11 "ValueSieve" "values" "[LValueSieve$Value;") (gGP gw52)) (fun _ h9 => h9) rfl d_S_widen_17 ?_
        refine lv_iload_n hx hb d_S_widen_20 rfl (lv_at hl 2 rfl) ?_
        refine sq_ld (P := p2.toNatClampNeg) hx hb hK hP (ie_nI (rp_ok h5)).1 (ie_nI (rp_ok h5)).2 d_S_widen_21 ?_
        refine sc_v (T := VV) (F := f_V_take z (v p2.toNatClampNeg)) (wc := [((ad 5), vE z), ((ad (6 + p2.toNatClampNeg)), vE (v p2.toNatClampNeg))]) (w1 := fun g22 => [((ad 5), vE g22), ((ad (6 + p2.toNatClampNeg)), vE (v p2.toNatClampNeg))]) (v' := fun g22 => v) (x' := fun g22 => x) (y' := fun g22 => y) (z' := fun g22 => g22) (va_runV (As := [.ref (ad (6 + p2.toNatClampNeg))]) (rest := []) ⟨hx, hb, hml, hown, hts⟩ (c_V_take l dC dI (ad 5) (ad (6 + p2.toNatClampNeg)) H.size z (v p2.toNatClampNeg)) (cwV 1 hts (gV9 gw96 gw97 gw98 gw1 gw99) rfl rfl rfl (by decide +kernel) ⟨(Nat.le_of_ble_eq_true rfl), (Nat.le_of_ble_eq_true rfl)⟩) ⟨blm, va_recv hK hP (ci := 0) (q0 := 5) rfl (sW_get (by decide)), fun U hU hW => ⟨rfl, by rw [hU], by rw [hU]; exact hP.sub [5, 6 + p2.toNatClampNeg] (fl2 (sW_get (by decide)) (sW_v (ie_nI (rp_ok h5)).2)), kE (va_K.moved hW.alike hK), (hD.sub [5, 6 + p2.toNatClampNeg] (nd2 (by omega)) (mp2 (sW_get (by decide)) (sW_v (ie_nI (rp_ok h5)).2))).weaken (fun _ _ _ _ => trivial)⟩⟩ rfl rfl hl.1 rfl (lv_room (Nat.le_of_ble_eq_true rfl)) d_S_widen_22 ⟨(Nat.le_of_ble_eq_true rfl), (Nat.le_of_ble_eq_true rfl)⟩) hP hD hS hA [5, 6 + p2.toNatClampNeg] (mp2 (sW_get (by decide)) (sW_v (ie_nI (rp_ok h5)).2)) (fun g22 => (sN_fix (fun _ => rfl) (fun _ => rfl) (fun h => absurd (by simp) h) (in2 (Pr := fun i => sE ad cQ cJ v w t x y g22 i ∈ [((ad 5), vE g22), ((ad (6 + p2.toNatClampNeg)), vE (v p2.toNatClampNeg))]) m0 (by rw [sE_v]; exact m1)))) (fun g22 eg22 H locs hP hD hS => ?_)
        refine lv_aload_n hx hb d_S_widen_25 rfl (lv_at hl 0 rfl) ?_
        refine va_get (D := (dC, dI)) (ci := 1) (v := .ref (ad 5)) (C := R_S) (T := F_S) (N := 6) hx hb hts (fun w h => List.mem_cons_of_mem _ (gGP (uw_S w h))) hown hK hP 0 (sW_get (by decide)) rfl 4 (by decide) (hG (.fieldLink R_S 27 "ValueSieve" "made" "LValueSieve$Value;") (gGP gw56)) (fun _ h9 => h9) rfl d_S_widen_26 ?_
        refine lv_aload_n hx hb d_S_widen_29 rfl (lv_at hl 0 rfl) ?_
        refine va_get (D := (dC, dI)) (ci := 1) (v := .ref (ad 1)) (C := R_S) (T := F_S) (N := 6) hx hb hts (fun w h => List.mem_cons_of_mem _ (gGP (uw_S w h))) hown hK hP 0 (sW_get (by decide)) rfl 0 (by decide) (hG (.fieldLink R_S 11 "ValueSieve" "values" "[LValueSieve$Value;") (gGP gw52)) (fun _ h9 => h9) rfl d_S_widen_30 ?_
        refine lv_iload_n hx hb d_S_widen_33 rfl (lv_at hl 3 rfl) ?_
        refine sq_ld (P := p3.toNatClampNeg) hx hb hK hP (ie_nI (rp_ok h9)).1 (ie_nI (rp_ok h9)).2 d_S_widen_34 ?_
        refine lv_iconst (v := 1) hx hb d_S_widen_35 (by decide) ?_
        refine sc_v (T := VV) (F := f_V_spread g22 (v p3.toNatClampNeg) 1) (wc := [((ad 5), vE g22), ((ad (6 + p3.toNatClampNeg)), vE (v p3.toNatClampNeg))]) (w1 := fun g36 => [((ad 5), vE g36), ((ad (6 + p3.toNatClampNeg)), vE (v p3.toNatClampNeg))]) (v' := fun g36 => v) (x' := fun g36 => x) (y' := fun g36 => y) (z' := fun g36 => g36) (va_runV (As := [.ref (ad (6 + p3.toNatClampNeg)), .int (1)]) (rest := []) ⟨hx, hb, hml, hown, hts⟩ (c_V_spread l dC dI (ad 5) (ad (6 + p3.toNatClampNeg)) H.size g22 (v p3.toNatClampNeg) 1) (cwV 2 hts (gV9 gw283 gw284 gw285 gw1 gw286) rfl rfl rfl (by decide +kernel) ⟨(Nat.le_of_ble_eq_true rfl), (Nat.le_of_ble_eq_true rfl)⟩) ⟨blm, va_recv hK hP (ci := 0) (q0 := 5) rfl (sW_get (by decide)), fun U hU hW => ⟨rfl, by rw [hU], by rw [hU]; exact hP.sub [5, 6 + p3.toNatClampNeg] (fl2 (sW_get (by decide)) (sW_v (ie_nI (rp_ok h9)).2)), kE (va_K.moved hW.alike hK), (hD.sub [5, 6 + p3.toNatClampNeg] (nd2 (by omega)) (mp2 (sW_get (by decide)) (sW_v (ie_nI (rp_ok h9)).2))).weaken (fun _ _ _ _ => trivial)⟩⟩ rfl rfl hl.1 rfl (lv_room (Nat.le_of_ble_eq_true rfl)) d_S_widen_36 ⟨(Nat.le_of_ble_eq_true rfl), (Nat.le_of_ble_eq_true rfl)⟩) hP hD hS hA [5, 6 + p3.toNatClampNeg] (mp2 (sW_get (by decide)) (sW_v (ie_nI (rp_ok h9)).2)) (fun g36 => (sN_fix (fun _ => rfl) (fun _ => rfl) (fun h => absurd (by simp) h) (in2 (Pr := fun i => sE ad cQ cJ v w t x y g36 i ∈ [((ad 5), vE g36), ((ad (6 + p3.toNatClampNeg)), vE (v p3.toNatClampNeg))]) m0 (by rw [sE_v]; exact m1)))) (fun g36 eg36 H locs hP hD hS => ?_)
        refine lv_aload_n hx hb d_S_widen_39 rfl (lv_at hl 0 rfl) ?_
        refine lv_iload_n hx hb d_S_widen_40 rfl (lv_at hl 1 rfl) ?_
        refine lv_aload_n hx hb d_S_widen_41 rfl (lv_at hl 0 rfl) ?_
        refine va_get (D := (dC, dI)) (ci := 1) (v := .ref (ad 5)) (C := R_S) (T := F_S) (N := 6) hx hb hts (fun w h => List.mem_cons_of_mem _ (gGP (uw_S w h))) hown hK hP 0 (sW_get (by decide)) rfl 4 (by decide) (hG (.fieldLink R_S 27 "ValueSieve" "made" "LValueSieve$Value;") (gGP gw56)) (fun _ h9 => h9) rfl d_S_widen_42 ?_
        refine lv_aload_n hx hb d_S_widen_45 rfl (lv_at hl 0 rfl) ?_
        refine va_get (D := (dC, dI)) (ci := 1) (v := .ref (ad 2)) (C := R_S) (T := F_S) (N := 6) hx hb hts (fun w h => List.mem_cons_of_mem _ (gGP (uw_S w h))) hown hK hP 0 (sW_get (by decide)) rfl 1 (by decide) (hG (.fieldLink R_S 15 "ValueSieve" "witnesses" "[J") (gGP gw53)) (fun _ h9 => h9) rfl d_S_widen_46 ?_
        refine lv_iload_n hx hb d_S_widen_49 rfl (lv_at hl 3 rfl) ?_
        refine sw_ld (P := p3.toNatClampNeg) hx hb hK hP (ie_nI (rp_ok h9)).1 (ie_nI (rp_ok h9)).2 d_S_widen_50 ?_
        refine mm_v (F := f_S_write_z v w t x y g36 p1.toNatClampNeg (w p3.toNatClampNeg)) (w1 := fun g51 => (sW ad cQ cJ (g51).1 (g51).2.1 (g51).2.2 x y g36)) (va_runV (As := [.int (nI p1.toNatClampNeg), .ref (ad 5), .long (w p3.toNatClampNeg)]) (rest := []) ⟨hx, hb, hml, hown, hts⟩ (c_S_write_z l dC dI ad cQ cJ H.size v w t x y g36 p1.toNatClampNeg (w p3.toNatClampNeg) (ie_nI (rp_ok h1)).2) (cwV 3 hts (gVS gw93 gw94 gw377 gw0 gw95) rfl rfl rfl (by decide +kernel) ⟨(Nat.le_of_ble_eq_true rfl), (Nat.le_of_ble_eq_true rfl)⟩) ⟨blp, va_recv hK hP (ci := 1) (q0 := 0) rfl (sW_get (by decide)), fun U hU hW => ⟨rfl, by rw [hU], by rw [hU]; exact hP, va_K.moved hW.alike hK, hD.weaken (fun _ _ _ _ => trivial)⟩⟩ rfl rfl hl.1 (by simp only [← (ie_nI (rp_ok h1)).1]; rfl) (lv_room (Nat.le_of_ble_eq_true rfl)) d_S_widen_51 ⟨(Nat.le_of_ble_eq_true rfl), (Nat.le_of_ble_eq_true rfl)⟩) hD hS hA (fun g51 eg51 H locs hP hD hS => ?_)
        have fe : f_S_widen v w t x y z p1 p2 p3 = (0, (g51).1, (g51).2.1, (g51).2.2, x, y, g36) := by unfold f_S_widen; rw [eg22, eg36, eg51]; first | with_reducible exact (if_pos h1).trans ((if_pos h5).trans (if_pos h9)) | exact (if_pos h1).trans ((if_pos h5).trans (if_pos h9))
        refine w_widen (k := 3) (n := 18) (Nat.le_of_ble_eq_true rfl) (Nat.le_of_ble_eq_true rfl) ?_
        refine vx_ret ?_
        exact W.vret hx hb hr (fun t9 ht hW => ⟨⟨(), rfl, (by rw [fe]), by rw [ht, fe]; exact hP, by rw [fe]; exact hD⟩, hS.F ht⟩) hS.2.2 d_S_widen_54
