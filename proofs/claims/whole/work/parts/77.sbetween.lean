-- ValueSieve.between
theorem d_S_between_0 : decode b_S_between 0 = .ok (.iload_n 1, 1) := by decide +kernel
theorem d_S_between_1 : decode b_S_between 1 = .ok (.invokestatic 34, 3) := by decide +kernel
theorem d_S_between_4 : decode b_S_between 4 = .ok (.aload_n 0, 1) := by decide +kernel
theorem d_S_between_5 : decode b_S_between 5 = .ok (.getfield 27, 3) := by decide +kernel
theorem d_S_between_8 : decode b_S_between 8 = .ok (.invokevirtual 38, 3) := by decide +kernel
theorem d_S_between_11 : decode b_S_between 11 = .ok (.iload_n 2, 1) := by decide +kernel
theorem d_S_between_12 : decode b_S_between 12 = .ok (.ifCond .eq 16, 3) := by decide +kernel
theorem d_S_between_15 : decode b_S_between 15 = .ok (.aload_n 0, 1) := by decide +kernel
theorem d_S_between_16 : decode b_S_between 16 = .ok (.getfield 27, 3) := by decide +kernel
theorem d_S_between_19 : decode b_S_between 19 = .ok (.lload_n 3, 1) := by decide +kernel
theorem d_S_between_20 : decode b_S_between 20 = .ok (.lload 5, 2) := by decide +kernel
theorem d_S_between_22 : decode b_S_between 22 = .ok (.invokevirtual 52, 3) := by decide +kernel
theorem d_S_between_25 : decode b_S_between 25 = .ok (.goto 13, 3) := by decide +kernel
theorem d_S_between_28 : decode b_S_between 28 = .ok (.aload_n 0, 1) := by decide +kernel
theorem d_S_between_29 : decode b_S_between 29 = .ok (.getfield 27, 3) := by decide +kernel
theorem d_S_between_32 : decode b_S_between 32 = .ok (.lload_n 3, 1) := by decide +kernel
theorem d_S_between_33 : decode b_S_between 33 = .ok (.lload 5, 2) := by decide +kernel
theorem d_S_between_35 : decode b_S_between 35 = .ok (.invokevirtual 55, 3) := by decide +kernel
theorem d_S_between_38 : decode b_S_between 38 = .ok (.aload_n 0, 1) := by decide +kernel
theorem d_S_between_39 : decode b_S_between 39 = .ok (.getfield 27, 3) := by decide +kernel
theorem d_S_between_42 : decode b_S_between 42 = .ok (.lload 7, 2) := by decide +kernel
theorem d_S_between_44 : decode b_S_between 44 = .ok (.invokevirtual 58, 3) := by decide +kernel
theorem d_S_between_47 : decode b_S_between 47 = .ok (.ifCond .ne 13, 3) := by decide +kernel
theorem d_S_between_50 : decode b_S_between 50 = .ok (.new 62, 3) := by decide +kernel
theorem d_S_between_53 : decode b_S_between 53 = .ok (.dup, 1) := by decide +kernel
theorem d_S_between_54 : decode b_S_between 54 = .ok (.ldc 64, 2) := by decide +kernel
theorem d_S_between_56 : decode b_S_between 56 = .ok (.invokespecial 66, 3) := by decide +kernel
theorem d_S_between_59 : decode b_S_between 59 = .ok (.athrow, 1) := by decide +kernel
theorem d_S_between_60 : decode b_S_between 60 = .ok (.aload_n 0, 1) := by decide +kernel
theorem d_S_between_61 : decode b_S_between 61 = .ok (.getfield 27, 3) := by decide +kernel
theorem d_S_between_64 : decode b_S_between 64 = .ok (.invokevirtual 49, 3) := by decide +kernel
theorem d_S_between_67 : decode b_S_between 67 = .ok (.aload_n 0, 1) := by decide +kernel
theorem d_S_between_68 : decode b_S_between 68 = .ok (.iload_n 1, 1) := by decide +kernel
theorem d_S_between_69 : decode b_S_between 69 = .ok (.aload_n 0, 1) := by decide +kernel
theorem d_S_between_70 : decode b_S_between 70 = .ok (.getfield 27, 3) := by decide +kernel
theorem d_S_between_73 : decode b_S_between 73 = .ok (.lload 7, 2) := by decide +kernel
theorem d_S_between_75 : decode b_S_between 75 = .ok (.invokevirtual 41, 3) := by decide +kernel
theorem d_S_between_78 : decode b_S_between 78 = .ok (.return_, 1) := by decide +kernel
def f_S_between (v : Nat → VV) (w : Nat → Int64) (t : Int32) (x : VV) (y : VV) (z : VV) (p1 : Int32) (p2 : Int32) (p3 : Int64) (p4 : Int64) (p5 : Int64) : Int32 × (Nat → VV) × (Nat → Int64) × (Int32) × (VV) × (VV) × (VV) := (if f_S_requirePlace p1 = 0 then (if p2 = 0 then (if (f_V_holds (f_V_saySigned (f_V_sayAll z) p3 p4) p5) = 0 then (2, v, w, t, x, y, (f_V_saySigned (f_V_sayAll z) p3 p4)) else (0, ((f_S_write_z v w t x y (f_V_tighten (f_V_saySigned (f_V_sayAll z) p3 p4)) p1.toNatClampNeg p5)).1, ((f_S_write_z v w t x y (f_V_tighten (f_V_saySigned (f_V_sayAll z) p3 p4)) p1.toNatClampNeg p5)).2.1, ((f_S_write_z v w t x y (f_V_tighten (f_V_saySigned (f_V_sayAll z) p3 p4)) p1.toNatClampNeg p5)).2.2, x, y, (f_V_tighten (f_V_saySigned (f_V_sayAll z) p3 p4)))) else (if (f_V_holds (f_V_sayUnsigned (f_V_sayAll z) p3 p4) p5) = 0 then (2, v, w, t, x, y, (f_V_sayUnsigned (f_V_sayAll z) p3 p4)) else (0, ((f_S_write_z v w t x y (f_V_tighten (f_V_sayUnsigned (f_V_sayAll z) p3 p4)) p1.toNatClampNeg p5)).1, ((f_S_write_z v w t x y (f_V_tighten (f_V_sayUnsigned (f_V_sayAll z) p3 p4)) p1.toNatClampNeg p5)).2.1, ((f_S_write_z v w t x y (f_V_tighten (f_V_sayUnsigned (f_V_sayAll z) p3 p4)) p1.toNatClampNeg p5)).2.2, x, y, (f_V_tighten (f_V_sayUnsigned (f_V_sayAll z) p3 p4))))) else (f_S_requirePlace p1, v, w, t, x, y, z))
def k_S_between : List Cond := Cond.code y_S_between b_S_between 9 none :: gP
set_option maxRecDepth 100000 in
set_option maxHeartbeats 4000000 in
theorem c_S_between (l : Launch) (hlt : l.stackTraces = false) (dC : Nat → ClassId) (dI : Nat → Nat → Nat) (ad : Nat → Nat) (cQ cJ : ClassId) (sz : Nat) (v : Nat → VV) (w : Nat → Int64) (t : Int32) (x : VV) (y : VV) (z : VV) (p1 : Int32) (p2 : Int32) (p3 : Int64) (p4 : Int64) (p5 : Int64) : vx_Met l y_S_between k_S_between ({ frames := 7, cells := 2, slots := 12, locals := 120 } : Room) (va_Pc [.ref (ad 0), .int (p1), .int (p2), .long (p3), .long (p4), .long (p5)] (sP (dC, dI) (sT cQ cJ) (sW ad cQ cJ v w t x y z) sz)) (va_Qv (fun _ : Unit => (f_S_between v w t x y z p1 p2 p3 p4 p5).1 = 0) (mB (dC, dI) (va_A (sW ad cQ cJ v w t x y z) sz) (sW ad cQ cJ (f_S_between v w t x y z p1 p2 p3 p4 p5).2.1 (f_S_between v w t x y z p1 p2 p3 p4 p5).2.2.1 (f_S_between v w t x y z p1 p2 p3 p4 p5).2.2.2.1 (f_S_between v w t x y z p1 p2 p3 p4 p5).2.2.2.2.1 (f_S_between v w t x y z p1 p2 p3 p4 p5).2.2.2.2.2.1 (f_S_between v w t x y z p1 p2 p3 p4 p5).2.2.2.2.2.2)) (va_A (sW ad cQ cJ v w t x y z) sz)) (vx_X (fun _ : Unit => True) (fun E _ t9 => xE (f_S_between v w t x y z p1 p2 p3 p4 p5).1 E ∧ mB (dC, dI) (va_A (sW ad cQ cJ v w t x y z) sz) (sW ad cQ cJ (f_S_between v w t x y z p1 p2 p3 p4 p5).2.1 (f_S_between v w t x y z p1 p2 p3 p4 p5).2.2.1 (f_S_between v w t x y z p1 p2 p3 p4 p5).2.2.2.1 (f_S_between v w t x y z p1 p2 p3 p4 p5).2.2.2.2.1 (f_S_between v w t x y z p1 p2 p3 p4 p5).2.2.2.2.2.1 (f_S_between v w t x y z p1 p2 p3 p4 p5).2.2.2.2.2.2) () t9) (va_A (sW ad cQ cJ v w t x y z) sz)) 2 12 (va_A (sW ad cQ cJ v w t x y z) sz) := by
  refine vx_ofW (cc := b_S_between) (maxL := 9) (ret := none) (by decide) rfl ?_
  intro p e s m args below meth c s₁ B hml htab hv
  obtain ⟨rfl, hsz, hP, hK, hD0, hX⟩ := hv
  have hx := B.exec
  have hb := B.bytes
  have hr := B.returns
  have hts := atoms_spec (ws := k_S_between) B.pre
  have hG : ∀ w ∈ gP, w.before _ s = true := fun w h => hts w (List.mem_cons_of_mem _ h)
  have hown : s.vm.findClass R_S = some m.cls := findClass_of_methodNamed B.named
  have hlocks := B.notSynchronized
  subst hsz
  have hD := hD0.self (sz := s.heap.size)
  generalize hAe : va_A (sW ad cQ cJ v w t x y z) s.heap.size = A at hD hX ⊢
  have hA : ∀ q : Nat, s.heap.size ≤ q → A q := fun q h => by rw [← hAe]; exact Or.inr h
  have hS : va_S A s.heap s.heap [] := va_S.rf
  have hl := lv_entry ([.ref (ad 0), .int (p1), .int (p2), .long (p3), .long (p4), .long (p5)]) (n := 9) (Nat.le_of_ble_eq_true rfl)
  rw [lg_entry_eq]
  generalize (lg_sl ([.ref (ad 0), .int (p1), .int (p2), .long (p3), .long (p4), .long (p5)]) ++ List.replicate (9 - (lg_sl ([.ref (ad 0), .int (p1), .int (p2), .long (p3), .long (p4), .long (p5)])).length) Slot.unset).toArray = ls at hl ⊢
  have hl : lv_has ls 9 [(0, .ref (ad 0)), (1, .int (p1)), (2, .int (p2)), (3, .long (p3)), (5, .long (p4)), (7, .long (p5))] := hl
  refine lv_iload_n hx hb d_S_between_0 rfl (lv_at hl 1 rfl) ?_
  refine sx_v (F := f_S_requirePlace p1) (vx_runS (As := [.int (p1)]) (rest := []) ⟨hx, hb, hml, hown, hts⟩ (c_S_requirePlace l hlt s.heap.size p1) (va_cwS 1 hts (gSS gw70 gw71 gw0 gw72) rfl rfl rfl (by decide +kernel) ⟨(Nat.le_of_ble_eq_true rfl), (Nat.le_of_ble_eq_true rfl)⟩) ⟨blx, fun U hU hW => ⟨rfl, by rw [hU], xq_at hX hS hA hU hW⟩⟩ rfl rfl hl.1 rfl (lv_room (Nat.le_of_ble_eq_true rfl)) d_S_between_1 ⟨(Nat.le_of_ble_eq_true rfl), (Nat.le_of_ble_eq_true rfl)⟩) hP hS hA (fun E ce q9 H locs hE hP hS hce hcv hcl => ?_) (fun h1 H locs hP hS => ?_)
  · have fe : f_S_between v w t x y z p1 p2 p3 p4 p5 = (f_S_requirePlace p1, v, w, t, x, y, z) := by unfold f_S_between; first | with_reducible exact if_neg hE.ne | exact if_neg hE.ne
    exact vx_out (fun x hx9 => (htab x hx9).elim) hlocks hce hcv hcl (fun t9 ht hal => ⟨(), trivial, ⟨by rw [fe]; exact hE, by rw [ht, fe]; exact hP, by rw [fe]; exact hD⟩, hS.F ht⟩) hS.2.2 (Nat.le_of_ble_eq_true rfl) (Nat.le_of_ble_eq_true rfl)
  · refine lv_aload_n hx hb d_S_between_4 rfl (lv_at hl 0 rfl) ?_
    refine va_get (D := (dC, dI)) (ci := 1) (v := .ref (ad 5)) (C := R_S) (T := F_S) (N := 6) hx hb hts (fun w h => List.mem_cons_of_mem _ (gGP (uw_S w h))) hown hK hP 0 (sW_get (by decide)) rfl 4 (by decide) (hG (.fieldLink R_S 27 "ValueSieve" "made" "LValueSieve$Value;") (gGP gw56)) (fun _ h9 => h9) rfl d_S_between_5 ?_
    refine sc_v (T := VV) (F := f_V_sayAll z) (wc := [((ad 5), vE z)]) (w1 := fun g8 => [((ad 5), vE g8)]) (v' := fun g8 => v) (x' := fun g8 => x) (y' := fun g8 => y) (z' := fun g8 => g8) (va_runV (As := []) (rest := []) ⟨hx, hb, hml, hown, hts⟩ (c_V_sayAll l dC dI (ad 5) H.size z) (cwV 0 hts (gV9 gw74 gw75 gw76 gw1 gw77) rfl rfl rfl (by decide +kernel) ⟨(Nat.le_of_ble_eq_true rfl), (Nat.le_of_ble_eq_true rfl)⟩) ⟨blm, va_recv hK hP (ci := 0) (q0 := 5) rfl (sW_get (by decide)), fun U hU hW => ⟨rfl, by rw [hU], by rw [hU]; exact hP.sub [5] (fl1 (sW_get (by decide))), kE (va_K.moved hW.alike hK), (hD.sub [5] (nd1 _) (mp1 (sW_get (by decide)))).weaken (fun _ _ _ _ => trivial)⟩⟩ rfl rfl hl.1 rfl (lv_room (Nat.le_of_ble_eq_true rfl)) d_S_between_8 ⟨(Nat.le_of_ble_eq_true rfl), (Nat.le_of_ble_eq_true rfl)⟩) hP hD hS hA [5] (mp1 (sW_get (by decide))) (fun g8 => (sN_fix (fun _ => rfl) (fun _ => rfl) (fun h => absurd (by simp) h) (in1 (Pr := fun i => sE ad cQ cJ v w t x y g8 i ∈ [((ad 5), vE g8)]) m0))) (fun g8 eg8 H locs hP hD hS => ?_)
    refine lv_iload_n hx hb d_S_between_11 rfl (lv_at hl 2 rfl) ?_
    refine lv_if_eq (tgt := 28) hx hb d_S_between_12 (by decide) (fun e1_28 => ?_) (fun e1_28 => ?_)
    · refine lv_aload_n hx hb d_S_between_28 rfl (lv_at hl 0 rfl) ?_
      refine va_get (D := (dC, dI)) (ci := 1) (v := .ref (ad 5)) (C := R_S) (T := F_S) (N := 6) hx hb hts (fun w h => List.mem_cons_of_mem _ (gGP (uw_S w h))) hown hK hP 0 (sW_get (by decide)) rfl 4 (by decide) (hG (.fieldLink R_S 27 "ValueSieve" "made" "LValueSieve$Value;") (gGP gw56)) (fun _ h9 => h9) rfl d_S_between_29 ?_
      refine lv_lload_n hx hb d_S_between_32 rfl (lv_at hl 3 rfl) ?_
      refine lv_lload hx hb d_S_between_33 (lv_at hl 4 rfl) ?_
      refine sc_v (T := VV) (F := f_V_saySigned g8 p3 p4) (wc := [((ad 5), vE g8)]) (w1 := fun g35 => [((ad 5), vE g35)]) (v' := fun g35 => v) (x' := fun g35 => x) (y' := fun g35 => y) (z' := fun g35 => g35) (va_runV (As := [.long (p3), .long (p4)]) (rest := []) ⟨hx, hb, hml, hown, hts⟩ (c_V_saySigned l dC dI (ad 5) H.size g8 p3 p4) (cwV 2 hts (gV9 gw154 gw90 gw91 gw1 gw92) rfl rfl rfl (by decide +kernel) ⟨(Nat.le_of_ble_eq_true rfl), (Nat.le_of_ble_eq_true rfl)⟩) ⟨blm, va_recv hK hP (ci := 0) (q0 := 5) rfl (sW_get (by decide)), fun U hU hW => ⟨rfl, by rw [hU], by rw [hU]; exact hP.sub [5] (fl1 (sW_get (by decide))), kE (va_K.moved hW.alike hK), (hD.sub [5] (nd1 _) (mp1 (sW_get (by decide)))).weaken (fun _ _ _ _ => trivial)⟩⟩ rfl rfl hl.1 rfl (lv_room (Nat.le_of_ble_eq_true rfl)) d_S_between_35 ⟨(Nat.le_of_ble_eq_true rfl), (Nat.le_of_ble_eq_true rfl)⟩) hP hD hS hA [5] (mp1 (sW_get (by decide))) (fun g35 => (sN_fix (fun _ => rfl) (fun _ => rfl) (fun h => absurd (by simp) h) (in1 (Pr := fun i => sE ad cQ cJ v w t x y g35 i ∈ [((ad 5), vE g35)]) m0))) (fun g35 eg35 H locs hP hD hS => ?_)
      refine lv_aload_n hx hb d_S_between_38 rfl (lv_at hl 0 rfl) ?_
      refine va_get (D := (dC, dI)) (ci := 1) (v := .ref (ad 5)) (C := R_S) (T := F_S) (N := 6) hx hb hts (fun w h => List.mem_cons_of_mem _ (gGP (uw_S w h))) hown hK hP 0 (sW_get (by decide)) rfl 4 (by decide) (hG (.fieldLink R_S 27 "ValueSieve" "made" "LValueSieve$Value;") (gGP gw56)) (fun _ h9 => h9) rfl d_S_between_39 ?_
      refine lv_lload hx hb d_S_between_42 (lv_at hl 5 rfl) ?_
      refine rc_i (W.runV (As := [.long (p5)]) (rest := []) ⟨hx, hb, hml, hown, hts⟩ (c_V_holds l dC dI (ad 5) g35 p5) (cwV 1 hts (gV9 gw100 gw101 gw102 gw1 gw103) rfl rfl rfl (by decide +kernel) ⟨(Nat.le_of_ble_eq_true rfl), (Nat.le_of_ble_eq_true rfl)⟩) ⟨blr, va_recv hK hP (ci := 0) (q0 := 5) rfl (sW_get (by decide)), fun U hU hW => ⟨rfl, by rw [hU]; exact hP.sub [5] (fl1 (sW_get (by decide))), kE (va_K.moved hW.alike hK)⟩⟩ rfl rfl hl.1 rfl (lv_room (Nat.le_of_ble_eq_true rfl)) d_S_between_44 ⟨(Nat.le_of_ble_eq_true rfl), (Nat.le_of_ble_eq_true rfl)⟩) ?_
      refine lv_if_ne (tgt := 60) hx hb d_S_between_47 (by decide) (fun e2_60 => ?_) (fun e2_60 => ?_)
      · refine lv_aload_n hx hb d_S_between_60 rfl (lv_at hl 0 rfl) ?_
        refine va_get (D := (dC, dI)) (ci := 1) (v := .ref (ad 5)) (C := R_S) (T := F_S) (N := 6) hx hb hts (fun w h => List.mem_cons_of_mem _ (gGP (uw_S w h))) hown hK hP 0 (sW_get (by decide)) rfl 4 (by decide) (hG (.fieldLink R_S 27 "ValueSieve" "made" "LValueSieve$Value;") (gGP gw56)) (fun _ h9 => h9) rfl d_S_between_61 ?_
        refine sc_v (T := VV) (F := f_V_tighten g35) (wc := [((ad 5), vE g35)]) (w1 := fun g64 => [((ad 5), vE g64)]) (v' := fun g64 => v) (x' := fun g64 => x) (y' := fun g64 => y) (z' := fun g64 => g64) (va_runV (As := []) (rest := []) ⟨hx, hb, hml, hown, hts⟩ (c_V_tighten l dC dI (ad 5) H.size g35) (cwV 0 hts (gV9 gw112 gw113 gw114 gw1 gw115) rfl rfl rfl (by decide +kernel) ⟨(Nat.le_of_ble_eq_true rfl), (Nat.le_of_ble_eq_true rfl)⟩) ⟨blm, va_recv hK hP (ci := 0) (q0 := 5) rfl (sW_get (by decide)), fun U hU hW => ⟨rfl, by rw [hU], by rw [hU]; exact hP.sub [5] (fl1 (sW_get (by decide))), kE (va_K.moved hW.alike hK), (hD.sub [5] (nd1 _) (mp1 (sW_get (by decide)))).weaken (fun _ _ _ _ => trivial)⟩⟩ rfl rfl hl.1 rfl (lv_room (Nat.le_of_ble_eq_true rfl)) d_S_between_64 ⟨(Nat.le_of_ble_eq_true rfl), (Nat.le_of_ble_eq_true rfl)⟩) hP hD hS hA [5] (mp1 (sW_get (by decide))) (fun g64 => (sN_fix (fun _ => rfl) (fun _ => rfl) (fun h => absurd (by simp) h) (in1 (Pr := fun i => sE ad cQ cJ v w t x y g64 i ∈ [((ad 5), vE g64)]) m0))) (fun g64 eg64 H locs hP hD hS => ?_)
        refine lv_aload_n hx hb d_S_between_67 rfl (lv_at hl 0 rfl) ?_
        refine lv_iload_n hx hb d_S_between_68 rfl (lv_at hl 1 rfl) ?_
        refine lv_aload_n hx hb d_S_between_69 rfl (lv_at hl 0 rfl) ?_
        refine va_get (D := (dC, dI)) (ci := 1) (v := .ref (ad 5)) (C := R_S) (T := F_S) (N := 6) hx hb hts (fun w h => List.mem_cons_of_mem _ (gGP (uw_S w h))) hown hK hP 0 (sW_get (by decide)) rfl 4 (by decide) (hG (.fieldLink R_S 27 "ValueSieve" "made" "LValueSieve$Value;") (gGP gw56)) (fun _ h9 => h9) rfl d_S_between_70 ?_
        refine lv_lload hx hb d_S_between_73 (lv_at hl 5 rfl) ?_
        refine mm_v (F := f_S_write_z v w t x y g64 p1.toNatClampNeg p5) (w1 := fun g75 => (sW ad cQ cJ (g75).1 (g75).2.1 (g75).2.2 x y g64)) (va_runV (As := [.int (nI p1.toNatClampNeg), .ref (ad 5), .long (p5)]) (rest := []) ⟨hx, hb, hml, hown, hts⟩ (c_S_write_z l dC dI ad cQ cJ H.size v w t x y g64 p1.toNatClampNeg p5 (ie_nI (rp_ok h1)).2) (cwV 3 hts (gVS gw93 gw94 gw377 gw0 gw95) rfl rfl rfl (by decide +kernel) ⟨(Nat.le_of_ble_eq_true rfl), (Nat.le_of_ble_eq_true rfl)⟩) ⟨blp, va_recv hK hP (ci := 1) (q0 := 0) rfl (sW_get (by decide)), fun U hU hW => ⟨rfl, by rw [hU], by rw [hU]; exact hP, va_K.moved hW.alike hK, hD.weaken (fun _ _ _ _ => trivial)⟩⟩ rfl rfl hl.1 (by simp only [← (ie_nI (rp_ok h1)).1]; rfl) (lv_room (Nat.le_of_ble_eq_true rfl)) d_S_between_75 ⟨(Nat.le_of_ble_eq_true rfl), (Nat.le_of_ble_eq_true rfl)⟩) hD hS hA (fun g75 eg75 H locs hP hD hS => ?_)
        have fe : f_S_between v w t x y z p1 p2 p3 p4 p5 = (0, (g75).1, (g75).2.1, (g75).2.2, x, y, g64) := by unfold f_S_between; rw [eg8, eg35, eg64, eg75]; first | with_reducible exact (if_pos h1).trans ((if_pos e1_28).trans (if_neg e2_60)) | exact (if_pos h1).trans ((if_pos e1_28).trans (if_neg e2_60))
        refine w_widen (k := 2) (n := 12) (Nat.le_of_ble_eq_true rfl) (Nat.le_of_ble_eq_true rfl) ?_
        refine vx_ret ?_
        exact W.vret hx hb hr (fun t9 ht hW => ⟨⟨(), rfl, (by rw [fe]), by rw [ht, fe]; exact hP, by rw [fe]; exact hD⟩, hS.F ht⟩) hS.2.2 d_S_between_78
      · have fe : f_S_between v w t x y z p1 p2 p3 p4 p5 = (2, v, w, t, x, y, g35) := by unfold f_S_between; rw [eg8, eg35]; first | with_reducible exact (if_pos h1).trans ((if_pos e1_28).trans (if_pos e2_60)) | exact (if_pos h1).trans ((if_pos e1_28).trans (if_pos e2_60))
        obtain ⟨sa, hsa⟩ := hX.2.2.1 (64, "the witness is not between the two numbers") (by decide)
        refine vx_throwS hx hb hlt hown (cls := eA) (names := eN) (by decide +kernel) (by decide +kernel) (hG _ (List.mem_append_right _ (by decide +kernel))) (hG _ (List.mem_append_right _ (by decide +kernel))) hsa (hat_A hG hX) ot_A hX.1 hX.2.1 hS (hl.1.trans hml.symm) d_S_between_50 d_S_between_53 d_S_between_54 d_S_between_56 d_S_between_59 (fun x hx9 => (htab x hx9).elim) (Nat.le_of_ble_eq_true rfl) (by show _ ≤ _; decide) (Nat.le_of_ble_eq_true rfl) (Nat.le_of_ble_eq_true rfl) hlocks (fun t9 hal hsz9 hk9 => ?_) ?_ (Nat.le_of_ble_eq_true rfl) (Nat.le_of_ble_eq_true rfl)
        · have hP9 := va_P.kept hP (fun k9 q hq => hk9 q.1 (hP k9 q hq).lt)
          exact ⟨(), trivial, ⟨(by rw [fe]; exact Or.inr ⟨rfl, rfl⟩), (by rw [fe]; exact hP9), (by rw [fe]; exact hD)⟩, ⟨Nat.le_trans hS.1 hsz9, fun q h1 h2 => (hk9 q (Nat.lt_of_lt_of_le h1 hS.1)).trans (hS.2.1 q h1 h2)⟩⟩
        · exact hS.2.2
    · refine lv_aload_n hx hb d_S_between_15 rfl (lv_at hl 0 rfl) ?_
      refine va_get (D := (dC, dI)) (ci := 1) (v := .ref (ad 5)) (C := R_S) (T := F_S) (N := 6) hx hb hts (fun w h => List.mem_cons_of_mem _ (gGP (uw_S w h))) hown hK hP 0 (sW_get (by decide)) rfl 4 (by decide) (hG (.fieldLink R_S 27 "ValueSieve" "made" "LValueSieve$Value;") (gGP gw56)) (fun _ h9 => h9) rfl d_S_between_16 ?_
      refine lv_lload_n hx hb d_S_between_19 rfl (lv_at hl 3 rfl) ?_
      refine lv_lload hx hb d_S_between_20 (lv_at hl 4 rfl) ?_
      refine sc_v (T := VV) (F := f_V_sayUnsigned g8 p3 p4) (wc := [((ad 5), vE g8)]) (w1 := fun g22 => [((ad 5), vE g22)]) (v' := fun g22 => v) (x' := fun g22 => x) (y' := fun g22 => y) (z' := fun g22 => g22) (va_runV (As := [.long (p3), .long (p4)]) (rest := []) ⟨hx, hb, hml, hown, hts⟩ (c_V_sayUnsigned l dC dI (ad 5) H.size g8 p3 p4) (cwV 2 hts (gV9 gw153 gw84 gw85 gw1 gw86) rfl rfl rfl (by decide +kernel) ⟨(Nat.le_of_ble_eq_true rfl), (Nat.le_of_ble_eq_true rfl)⟩) ⟨blm, va_recv hK hP (ci := 0) (q0 := 5) rfl (sW_get (by decide)), fun U hU hW => ⟨rfl, by rw [hU], by rw [hU]; exact hP.sub [5] (fl1 (sW_get (by decide))), kE (va_K.moved hW.alike hK), (hD.sub [5] (nd1 _) (mp1 (sW_get (by decide)))).weaken (fun _ _ _ _ => trivial)⟩⟩ rfl rfl hl.1 rfl (lv_room (Nat.le_of_ble_eq_true rfl)) d_S_between_22 ⟨(Nat.le_of_ble_eq_true rfl), (Nat.le_of_ble_eq_true rfl)⟩) hP hD hS hA [5] (mp1 (sW_get (by decide))) (fun g22 => (sN_fix (fun _ => rfl) (fun _ => rfl) (fun h => absurd (by simp) h) (in1 (Pr := fun i => sE ad cQ cJ v w t x y g22 i ∈ [((ad 5), vE g22)]) m0))) (fun g22 eg22 H locs hP hD hS => ?_)
      refine lv_goto (tgt := 38) hx hb d_S_between_25 (by decide) ?_
      refine lv_aload_n hx hb d_S_between_38 rfl (lv_at hl 0 rfl) ?_
      refine va_get (D := (dC, dI)) (ci := 1) (v := .ref (ad 5)) (C := R_S) (T := F_S) (N := 6) hx hb hts (fun w h => List.mem_cons_of_mem _ (gGP (uw_S w h))) hown hK hP 0 (sW_get (by decide)) rfl 4 (by decide) (hG (.fieldLink R_S 27 "ValueSieve" "made" "LValueSieve$Value;") (gGP gw56)) (fun _ h9 => h9) rfl d_S_between_39 ?_
      refine lv_lload hx hb d_S_between_42 (lv_at hl 5 rfl) ?_
      refine rc_i (W.runV (As := [.long (p5)]) (rest := []) ⟨hx, hb, hml, hown, hts⟩ (c_V_holds l dC dI (ad 5) g22 p5) (cwV 1 hts (gV9 gw100 gw101 gw102 gw1 gw103) rfl rfl rfl (by decide +kernel) ⟨(Nat.le_of_ble_eq_true rfl), (Nat.le_of_ble_eq_true rfl)⟩) ⟨blr, va_recv hK hP (ci := 0) (q0 := 5) rfl (sW_get (by decide)), fun U hU hW => ⟨rfl, by rw [hU]; exact hP.sub [5] (fl1 (sW_get (by decide))), kE (va_K.moved hW.alike hK)⟩⟩ rfl rfl hl.1 rfl (lv_room (Nat.le_of_ble_eq_true rfl)) d_S_between_44 ⟨(Nat.le_of_ble_eq_true rfl), (Nat.le_of_ble_eq_true rfl)⟩) ?_
      refine lv_if_ne (tgt := 60) hx hb d_S_between_47 (by decide) (fun e3_60 => ?_) (fun e3_60 => ?_)
      · refine lv_aload_n hx hb d_S_between_60 rfl (lv_at hl 0 rfl) ?_
        refine va_get (D := (dC, dI)) (ci := 1) (v := .ref (ad 5)) (C := R_S) (T := F_S) (N := 6) hx hb hts (fun w h => List.mem_cons_of_mem _ (gGP (uw_S w h))) hown hK hP 0 (sW_get (by decide)) rfl 4 (by decide) (hG (.fieldLink R_S 27 "ValueSieve" "made" "LValueSieve$Value;") (gGP gw56)) (fun _ h9 => h9) rfl d_S_between_61 ?_
        refine sc_v (T := VV) (F := f_V_tighten g22) (wc := [((ad 5), vE g22)]) (w1 := fun g64a => [((ad 5), vE g64a)]) (v' := fun g64a => v) (x' := fun g64a => x) (y' := fun g64a => y) (z' := fun g64a => g64a) (va_runV (As := []) (rest := []) ⟨hx, hb, hml, hown, hts⟩ (c_V_tighten l dC dI (ad 5) H.size g22) (cwV 0 hts (gV9 gw112 gw113 gw114 gw1 gw115) rfl rfl rfl (by decide +kernel) ⟨(Nat.le_of_ble_eq_true rfl), (Nat.le_of_ble_eq_true rfl)⟩) ⟨blm, va_recv hK hP (ci := 0) (q0 := 5) rfl (sW_get (by decide)), fun U hU hW => ⟨rfl, by rw [hU], by rw [hU]; exact hP.sub [5] (fl1 (sW_get (by decide))), kE (va_K.moved hW.alike hK), (hD.sub [5] (nd1 _) (mp1 (sW_get (by decide)))).weaken (fun _ _ _ _ => trivial)⟩⟩ rfl rfl hl.1 rfl (lv_room (Nat.le_of_ble_eq_true rfl)) d_S_between_64 ⟨(Nat.le_of_ble_eq_true rfl), (Nat.le_of_ble_eq_true rfl)⟩) hP hD hS hA [5] (mp1 (sW_get (by decide))) (fun g64a => (sN_fix (fun _ => rfl) (fun _ => rfl) (fun h => absurd (by simp) h) (in1 (Pr := fun i => sE ad cQ cJ v w t x y g64a i ∈ [((ad 5), vE g64a)]) m0))) (fun g64a eg64a H locs hP hD hS => ?_)
        refine lv_aload_n hx hb d_S_between_67 rfl (lv_at hl 0 rfl) ?_
        refine lv_iload_n hx hb d_S_between_68 rfl (lv_at hl 1 rfl) ?_
        refine lv_aload_n hx hb d_S_between_69 rfl (lv_at hl 0 rfl) ?_
        refine va_get (D := (dC, dI)) (ci := 1) (v := .ref (ad 5)) (C := R_S) (T := F_S) (N := 6) hx hb hts (fun w h => List.mem_cons_of_mem _ (gGP (uw_S w h))) hown hK hP 0 (sW_get (by decide)) rfl 4 (by decide) (hG (.fieldLink R_S 27 "ValueSieve" "made" "LValueSieve$Value;") (gGP gw56)) (fun _ h9 => h9) rfl d_S_between_70 ?_
        refine lv_lload hx hb d_S_between_73 (lv_at hl 5 rfl) ?_
        refine mm_v (F := f_S_write_z v w t x y g64a p1.toNatClampNeg p5) (w1 := fun g75a => (sW ad cQ cJ (g75a).1 (g75a).2.1 (g75a).2.2 x y g64a)) (va_runV (As := [.int (nI p1.toNatClampNeg), .ref (ad 5), .long (p5)]) (rest := []) ⟨hx, hb, hml, hown, hts⟩ (c_S_write_z l dC dI ad cQ cJ H.size v w t x y g64a p1.toNatClampNeg p5 (ie_nI (rp_ok h1)).2) (cwV 3 hts (gVS gw93 gw94 gw377 gw0 gw95) rfl rfl rfl (by decide +kernel) ⟨(Nat.le_of_ble_eq_true rfl), (Nat.le_of_ble_eq_true rfl)⟩) ⟨blp, va_recv hK hP (ci := 1) (q0 := 0) rfl (sW_get (by decide)), fun U hU hW => ⟨rfl, by rw [hU], by rw [hU]; exact hP, va_K.moved hW.alike hK, hD.weaken (fun _ _ _ _ => trivial)⟩⟩ rfl rfl hl.1 (by simp only [← (ie_nI (rp_ok h1)).1]; rfl) (lv_room (Nat.le_of_ble_eq_true rfl)) d_S_between_75 ⟨(Nat.le_of_ble_eq_true rfl), (Nat.le_of_ble_eq_true rfl)⟩) hD hS hA (fun g75a eg75a H locs hP hD hS => ?_)
        have fe : f_S_between v w t x y z p1 p2 p3 p4 p5 = (0, (g75a).1, (g75a).2.1, (g75a).2.2, x, y, g64a) := by unfold f_S_between; rw [eg8, eg22, eg64a, eg75a]; first | with_reducible exact (if_pos h1).trans ((if_neg e1_28).trans (if_neg e3_60)) | exact (if_pos h1).trans ((if_neg e1_28).trans (if_neg e3_60))
        refine w_widen (k := 2) (n := 12) (Nat.le_of_ble_eq_true rfl) (Nat.le_of_ble_eq_true rfl) ?_
        refine vx_ret ?_
        exact W.vret hx hb hr (fun t9 ht hW => ⟨⟨(), rfl, (by rw [fe]), by rw [ht, fe]; exact hP, by rw [fe]; exact hD⟩, hS.F ht⟩) hS.2.2 d_S_between_78
      · have fe : f_S_between v w t x y z p1 p2 p3 p4 p5 = (2, v, w, t, x, y, g22) := by unfold f_S_between; rw [eg8, eg22]; first | with_reducible exact (if_pos h1).trans ((if_neg e1_28).trans (if_pos e3_60)) | exact (if_pos h1).trans ((if_neg e1_28).trans (if_pos e3_60))
        obtain ⟨sa, hsa⟩ := hX.2.2.1 (64, "the witness is not between the two numbers") (by decide)
        refine vx_throwS hx hb hlt hown (cls := eA) (names := eN) (by decide +kernel) (by decide +kernel) (hG _ (List.mem_append_right _ (by decide +kernel))) (hG _ (List.mem_append_right _ (by decide +kernel))) hsa (hat_A hG hX) ot_A hX.1 hX.2.1 hS (hl.1.trans hml.symm) d_S_between_50 d_S_between_53 d_S_between_54 d_S_between_56 d_S_between_59 (fun x hx9 => (htab x hx9).elim) (Nat.le_of_ble_eq_true rfl) (by show _ ≤ _; decide) (Nat.le_of_ble_eq_true rfl) (Nat.le_of_ble_eq_true rfl) hlocks (fun t9 hal hsz9 hk9 => ?_) ?_ (Nat.le_of_ble_eq_true rfl) (Nat.le_of_ble_eq_true rfl)
        · have hP9 := va_P.kept hP (fun k9 q hq => hk9 q.1 (hP k9 q hq).lt)
          exact ⟨(), trivial, ⟨(by rw [fe]; exact Or.inr ⟨rfl, rfl⟩), (by rw [fe]; exact hP9), (by rw [fe]; exact hD)⟩, ⟨Nat.le_trans hS.1 hsz9, fun q h1 h2 => (hk9 q (Nat.lt_of_lt_of_le h1 hS.1)).trans (hS.2.1 q h1 h2)⟩⟩
        · exact hS.2.2
-- ValueSieve.pattern
theorem d_S_pattern_0 : decode b_S_pattern 0 = .ok (.iload_n 1, 1) := by decide +kernel
theorem d_S_pattern_1 : decode b_S_pattern 1 = .ok (.invokestatic 34, 3) := by decide +kernel
theorem d_S_pattern_4 : decode b_S_pattern 4 = .ok (.aload_n 0, 1) := by decide +kernel
theorem d_S_pattern_5 : decode b_S_pattern 5 = .ok (.getfield 27, 3) := by decide +kernel
theorem d_S_pattern_8 : decode b_S_pattern 8 = .ok (.invokevirtual 38, 3) := by decide +kernel
theorem d_S_pattern_11 : decode b_S_pattern 11 = .ok (.aload_n 0, 1) := by decide +kernel
theorem d_S_pattern_12 : decode b_S_pattern 12 = .ok (.getfield 27, 3) := by decide +kernel
theorem d_S_pattern_15 : decode b_S_pattern 15 = .ok (.lload_n 2, 1) := by decide +kernel
theorem d_S_pattern_16 : decode b_S_pattern 16 = .ok (.lload 4, 2) := by decide +kernel
theorem d_S_pattern_18 : decode b_S_pattern 18 = .ok (.invokevirtual 45, 3) := by decide +kernel
theorem d_S_pattern_21 : decode b_S_pattern 21 = .ok (.aload_n 0, 1) := by decide +kernel
theorem d_S_pattern_22 : decode b_S_pattern 22 = .ok (.getfield 27, 3) := by decide +kernel
theorem d_S_pattern_25 : decode b_S_pattern 25 = .ok (.lload 6, 2) := by decide +kernel
theorem d_S_pattern_27 : decode b_S_pattern 27 = .ok (.invokevirtual 58, 3) := by decide +kernel
theorem d_S_pattern_30 : decode b_S_pattern 30 = .ok (.ifCond .ne 13, 3) := by decide +kernel
theorem d_S_pattern_33 : decode b_S_pattern 33 = .ok (.new 62, 3) := by decide +kernel
theorem d_S_pattern_36 : decode b_S_pattern 36 = .ok (.dup, 1) := by decide +kernel
theorem d_S_pattern_37 : decode b_S_pattern 37 = .ok (.ldc 69, 2) := by decide +kernel
theorem d_S_pattern_39 : decode b_S_pattern 39 = .ok (.invokespecial 66, 3) := by decide +kernel
theorem d_S_pattern_42 : decode b_S_pattern 42 = .ok (.athrow, 1) := by decide +kernel
theorem d_S_pattern_43 : decode b_S_pattern 43 = .ok (.aload_n 0, 1) := by decide +kernel
theorem d_S_pattern_44 : decode b_S_pattern 44 = .ok (.getfield 27, 3) := by decide +kernel
theorem d_S_pattern_47 : decode b_S_pattern 47 = .ok (.invokevirtual 49, 3) := by decide +kernel
theorem d_S_pattern_50 : decode b_S_pattern 50 = .ok (.aload_n 0, 1) := by decide +kernel
theorem d_S_pattern_51 : decode b_S_pattern 51 = .ok (.iload_n 1, 1) := by decide +kernel
theorem d_S_pattern_52 : decode b_S_pattern 52 = .ok (.aload_n 0, 1) := by decide +kernel
theorem d_S_pattern_53 : decode b_S_pattern 53 = .ok (.getfield 27, 3) := by decide +kernel
theorem d_S_pattern_56 : decode b_S_pattern 56 = .ok (.lload 6, 2) := by decide +kernel
theorem d_S_pattern_58 : decode b_S_pattern 58 = .ok (.invokevirtual 41, 3) := by decide +kernel
theorem d_S_pattern_61 : decode b_S_pattern 61 = .ok (.return_, 1) := by decide +kernel
def f_S_pattern (v : Nat → VV) (w : Nat → Int64) (t : Int32) (x : VV) (y : VV) (z : VV) (p1 : Int32) (p2 : Int64) (p3 : Int64) (p4 : Int64) : Int32 × (Nat → VV) × (Nat → Int64) × (Int32) × (VV) × (VV) × (VV) := (if f_S_requirePlace p1 = 0 then (if (f_V_holds (f_V_sayBits (f_V_sayAll z) p2 p3) p4) = 0 then (2, v, w, t, x, y, (f_V_sayBits (f_V_sayAll z) p2 p3)) else (0, ((f_S_write_z v w t x y (f_V_tighten (f_V_sayBits (f_V_sayAll z) p2 p3)) p1.toNatClampNeg p4)).1, ((f_S_write_z v w t x y (f_V_tighten (f_V_sayBits (f_V_sayAll z) p2 p3)) p1.toNatClampNeg p4)).2.1, ((f_S_write_z v w t x y (f_V_tighten (f_V_sayBits (f_V_sayAll z) p2 p3)) p1.toNatClampNeg p4)).2.2, x, y, (f_V_tighten (f_V_sayBits (f_V_sayAll z) p2 p3)))) else (f_S_requirePlace p1, v, w, t, x, y, z))
def k_S_pattern : List Cond := Cond.code y_S_pattern b_S_pattern 8 none :: gP
set_option maxRecDepth 100000 in
set_option maxHeartbeats 4000000 in
theorem c_S_pattern (l : Launch) (hlt : l.stackTraces = false) (dC : Nat → ClassId) (dI : Nat → Nat → Nat) (ad : Nat → Nat) (cQ cJ : ClassId) (sz : Nat) (v : Nat → VV) (w : Nat → Int64) (t : Int32) (x : VV) (y : VV) (z : VV) (p1 : Int32) (p2 : Int64) (p3 : Int64) (p4 : Int64) : vx_Met l y_S_pattern k_S_pattern ({ frames := 7, cells := 2, slots := 12, locals := 120 } : Room) (va_Pc [.ref (ad 0), .int (p1), .long (p2), .long (p3), .long (p4)] (sP (dC, dI) (sT cQ cJ) (sW ad cQ cJ v w t x y z) sz)) (va_Qv (fun _ : Unit => (f_S_pattern v w t x y z p1 p2 p3 p4).1 = 0) (mB (dC, dI) (va_A (sW ad cQ cJ v w t x y z) sz) (sW ad cQ cJ (f_S_pattern v w t x y z p1 p2 p3 p4).2.1 (f_S_pattern v w t x y z p1 p2 p3 p4).2.2.1 (f_S_pattern v w t x y z p1 p2 p3 p4).2.2.2.1 (f_S_pattern v w t x y z p1 p2 p3 p4).2.2.2.2.1 (f_S_pattern v w t x y z p1 p2 p3 p4).2.2.2.2.2.1 (f_S_pattern v w t x y z p1 p2 p3 p4).2.2.2.2.2.2)) (va_A (sW ad cQ cJ v w t x y z) sz)) (vx_X (fun _ : Unit => True) (fun E _ t9 => xE (f_S_pattern v w t x y z p1 p2 p3 p4).1 E ∧ mB (dC, dI) (va_A (sW ad cQ cJ v w t x y z) sz) (sW ad cQ cJ (f_S_pattern v w t x y z p1 p2 p3 p4).2.1 (f_S_pattern v w t x y z p1 p2 p3 p4).2.2.1 (f_S_pattern v w t x y z p1 p2 p3 p4).2.2.2.1 (f_S_pattern v w t x y z p1 p2 p3 p4).2.2.2.2.1 (f_S_pattern v w t x y z p1 p2 p3 p4).2.2.2.2.2.1 (f_S_pattern v w t x y z p1 p2 p3 p4).2.2.2.2.2.2) () t9) (va_A (sW ad cQ cJ v w t x y z) sz)) 2 12 (va_A (sW ad cQ cJ v w t x y z) sz) := by
  refine vx_ofW (cc := b_S_pattern) (maxL := 8) (ret := none) (by decide) rfl ?_
  intro p e s m args below meth c s₁ B hml htab hv
  obtain ⟨rfl, hsz, hP, hK, hD0, hX⟩ := hv
  have hx := B.exec
  have hb := B.bytes
  have hr := B.returns
  have hts := atoms_spec (ws := k_S_pattern) B.pre
  have hG : ∀ w ∈ gP, w.before _ s = true := fun w h => hts w (List.mem_cons_of_mem _ h)
  have hown : s.vm.findClass R_S = some m.cls := findClass_of_methodNamed B.named
  have hlocks := B.notSynchronized
  subst hsz
  have hD := hD0.self (sz := s.heap.size)
  generalize hAe : va_A (sW ad cQ cJ v w t x y z) s.heap.size = A at hD hX ⊢
  have hA : ∀ q : Nat, s.heap.size ≤ q → A q := fun q h => by rw [← hAe]; exact Or.inr h
  have hS : va_S A s.heap s.heap [] := va_S.rf
  have hl := lv_entry ([.ref (ad 0), .int (p1), .long (p2), .long (p3), .long (p4)]) (n := 8) (Nat.le_of_ble_eq_true rfl)
  rw [lg_entry_eq]
  generalize (lg_sl ([.ref (ad 0), .int (p1), .long (p2), .long (p3), .long (p4)]) ++ List.replicate (8 - (lg_sl ([.ref (ad 0), .int (p1), .long (p2), .long (p3), .long (p4)])).length) Slot.unset).toArray = ls at hl ⊢
  have hl : lv_has ls 8 [(0, .ref (ad 0)), (1, .int (p1)), (2, .long (p2)), (4, .long (p3)), (6, .long (p4))] := hl
  refine lv_iload_n hx hb d_S_pattern_0 rfl (lv_at hl 1 rfl) ?_
  refine sx_v (F := f_S_requirePlace p1) (vx_runS (As := [.int (p1)]) (rest := []) ⟨hx, hb, hml, hown, hts⟩ (c_S_requirePlace l hlt s.heap.size p1) (va_cwS 1 hts (gSS gw70 gw71 gw0 gw72) rfl rfl rfl (by decide +kernel) ⟨(Nat.le_of_ble_eq_true rfl), (Nat.le_of_ble_eq_true rfl)⟩) ⟨blx, fun U hU hW => ⟨rfl, by rw [hU], xq_at hX hS hA hU hW⟩⟩ rfl rfl hl.1 rfl (lv_room (Nat.le_of_ble_eq_true rfl)) d_S_pattern_1 ⟨(Nat.le_of_ble_eq_true rfl), (Nat.le_of_ble_eq_true rfl)⟩) hP hS hA (fun E ce q9 H locs hE hP hS hce hcv hcl => ?_) (fun h1 H locs hP hS => ?_)
  · have fe : f_S_pattern v w t x y z p1 p2 p3 p4 = (f_S_requirePlace p1, v, w, t, x, y, z) := by unfold f_S_pattern; first | with_reducible exact if_neg hE.ne | exact if_neg hE.ne
    exact vx_out (fun x hx9 => (htab x hx9).elim) hlocks hce hcv hcl (fun t9 ht hal => ⟨(), trivial, ⟨by rw [fe]; exact hE, by rw [ht, fe]; exact hP, by rw [fe]; exact hD⟩, hS.F ht⟩) hS.2.2 (Nat.le_of_ble_eq_true rfl) (Nat.le_of_ble_eq_true rfl)
  · refine lv_aload_n hx hb d_S_pattern_4 rfl (lv_at hl 0 rfl) ?_
    refine va_get (D := (dC, dI)) (ci := 1) (v := .ref (ad 5)) (C := R_S) (T := F_S) (N := 6) hx hb hts (fun w h => List.mem_cons_of_mem _ (gGP (uw_S w h))) hown hK hP 0 (sW_get (by decide)) rfl 4 (by decide) (hG (.fieldLink R_S 27 "ValueSieve" "made" "LValueSieve$Value;") (gGP gw56)) (fun _ h9 => h9) rfl d_S_pattern_5 ?_
    refine sc_v (T := VV) (F := f_V_sayAll z) (wc := [((ad 5), vE z)]) (w1 := fun g8 => [((ad 5), vE g8)]) (v' := fun g8 => v) (x' := fun g8 => x) (y' := fun g8 => y) (z' := fun g8 => g8) (va_runV (As := []) (rest := []) ⟨hx, hb, hml, hown, hts⟩ (c_V_sayAll l dC dI (ad 5) H.size z) (cwV 0 hts (gV9 gw74 gw75 gw76 gw1 gw77) rfl rfl rfl (by decide +kernel) ⟨(Nat.le_of_ble_eq_true rfl), (Nat.le_of_ble_eq_true rfl)⟩) ⟨blm, va_recv hK hP (ci := 0) (q0 := 5) rfl (sW_get (by decide)), fun U hU hW => ⟨rfl, by rw [hU], by rw [hU]; exact hP.sub [5] (fl1 (sW_get (by decide))), kE (va_K.moved hW.alike hK), (hD.sub [5] (nd1 _) (mp1 (sW_get (by decide)))).weaken (fun _ _ _ _ => trivial)⟩⟩ rfl rfl hl.1 rfl (lv_room (Nat.le_of_ble_eq_true rfl)) d_S_pattern_8 ⟨(Nat.le_of_ble_eq_true rfl), (Nat.le_of_ble_eq_true rfl)⟩) hP hD hS hA [5] (mp1 (sW_get (by decide))) (fun g8 => (sN_fix (fun _ => rfl) (fun _ => rfl) (fun h => absurd (by simp) h) (in1 (Pr := fun i => sE ad cQ cJ v w t x y g8 i ∈ [((ad 5), vE g8)]) m0))) (fun g8 eg8 H locs hP hD hS => ?_)
    refine lv_aload_n hx hb d_S_pattern_11 rfl (lv_at hl 0 rfl) ?_
    refine va_get (D := (dC, dI)) (ci := 1) (v := .ref (ad 5)) (C := R_S) (T := F_S) (N := 6) hx hb hts (fun w h => List.mem_cons_of_mem _ (gGP (uw_S w h))) hown hK hP 0 (sW_get (by decide)) rfl 4 (by decide) (hG (.fieldLink R_S 27 "ValueSieve" "made" "LValueSieve$Value;") (gGP gw56)) (fun _ h9 => h9) rfl d_S_pattern_12 ?_
    refine lv_lload_n hx hb d_S_pattern_15 rfl (lv_at hl 2 rfl) ?_
    refine lv_lload hx hb d_S_pattern_16 (lv_at hl 3 rfl) ?_
    refine sc_v (T := VV) (F := f_V_sayBits g8 p2 p3) (wc := [((ad 5), vE g8)]) (w1 := fun g18 => [((ad 5), vE g18)]) (v' := fun g18 => v) (x' := fun g18 => x) (y' := fun g18 => y) (z' := fun g18 => g18) (va_runV (As := [.long (p2), .long (p3)]) (rest := []) ⟨hx, hb, hml, hown, hts⟩ (c_V_sayBits l dC dI (ad 5) H.size g8 p2 p3) (cwV 2 hts (gV9 gw111 gw80 gw81 gw1 gw82) rfl rfl rfl (by decide +kernel) ⟨(Nat.le_of_ble_eq_true rfl), (Nat.le_of_ble_eq_true rfl)⟩) ⟨blm, va_recv hK hP (ci := 0) (q0 := 5) rfl (sW_get (by decide)), fun U hU hW => ⟨rfl, by rw [hU], by rw [hU]; exact hP.sub [5] (fl1 (sW_get (by decide))), kE (va_K.moved hW.alike hK), (hD.sub [5] (nd1 _) (mp1 (sW_get (by decide)))).weaken (fun _ _ _ _ => trivial)⟩⟩ rfl rfl hl.1 rfl (lv_room (Nat.le_of_ble_eq_true rfl)) d_S_pattern_18 ⟨(Nat.le_of_ble_eq_true rfl), (Nat.le_of_ble_eq_true rfl)⟩) hP hD hS hA [5] (mp1 (sW_get (by decide))) (fun g18 => (sN_fix (fun _ => rfl) (fun _ => rfl) (fun h => absurd (by simp) h) (in1 (Pr := fun i => sE ad cQ cJ v w t x y g18 i ∈ [((ad 5), vE g18)]) m0))) (fun g18 eg18 H locs hP hD hS => ?_)
    refine lv_aload_n hx hb d_S_pattern_21 rfl (lv_at hl 0 rfl) ?_
    refine va_get (D := (dC, dI)) (ci := 1) (v := .ref (ad 5)) (C := R_S) (T := F_S) (N := 6) hx hb hts (fun w h => List.mem_cons_of_mem _ (gGP (uw_S w h))) hown hK hP 0 (sW_get (by decide)) rfl 4 (by decide) (hG (.fieldLink R_S 27 "ValueSieve" "made" "LValueSieve$Value;") (gGP gw56)) (fun _ h9 => h9) rfl d_S_pattern_22 ?_
    refine lv_lload hx hb d_S_pattern_25 (lv_at hl 4 rfl) ?_
    refine rc_i (W.runV (As := [.long (p4)]) (rest := []) ⟨hx, hb, hml, hown, hts⟩ (c_V_holds l dC dI (ad 5) g18 p4) (cwV 1 hts (gV9 gw100 gw101 gw102 gw1 gw103) rfl rfl rfl (by decide +kernel) ⟨(Nat.le_of_ble_eq_true rfl), (Nat.le_of_ble_eq_true rfl)⟩) ⟨blr, va_recv hK hP (ci := 0) (q0 := 5) rfl (sW_get (by decide)), fun U hU hW => ⟨rfl, by rw [hU]; exact hP.sub [5] (fl1 (sW_get (by decide))), kE (va_K.moved hW.alike hK)⟩⟩ rfl rfl hl.1 rfl (lv_room (Nat.le_of_ble_eq_true rfl)) d_S_pattern_27 ⟨(Nat.le_of_ble_eq_true rfl), (Nat.le_of_ble_eq_true rfl)⟩) ?_
    refine lv_if_ne (tgt := 43) hx hb d_S_pattern_30 (by decide) (fun e1_43 => ?_) (fun e1_43 => ?_)
    · refine lv_aload_n hx hb d_S_pattern_43 rfl (lv_at hl 0 rfl) ?_
      refine va_get (D := (dC, dI)) (ci := 1) (v := .ref (ad 5)) (C := R_S) (T := F_S) (N := 6) hx hb hts (fun w h => List.mem_cons_of_mem _ (gGP (uw_S w h))) hown hK hP 0 (sW_get (by decide)) rfl 4 (by decide) (hG (.fieldLink R_S 27 "ValueSieve" "made" "LValueSieve$Value;") (gGP gw56)) (fun _ h9 => h9) rfl d_S_pattern_44 ?_
      refine sc_v (T := VV) (F := f_V_tighten g18) (wc := [((ad 5), vE g18)]) (w1 := fun g47 => [((ad 5), vE g47)]) (v' := fun g47 => v) (x' := fun g47 => x) (y' := fun g47 => y) (z' := fun g47 => g47) (va_runV (As := []) (rest := []) ⟨hx, hb, hml, hown, hts⟩ (c_V_tighten l dC dI (ad 5) H.size g18) (cwV 0 hts (gV9 gw112 gw113 gw114 gw1 gw115) rfl rfl rfl (by decide +kernel) ⟨(Nat.le_of_ble_eq_true rfl), (Nat.le_of_ble_eq_true rfl)⟩) ⟨blm, va_recv hK hP (ci := 0) (q0 := 5) rfl (sW_get (by decide)), fun U hU hW => ⟨rfl, by rw [hU], by rw [hU]; exact hP.sub [5] (fl1 (sW_get (by decide))), kE (va_K.moved hW.alike hK), (hD.sub [5] (nd1 _) (mp1 (sW_get (by decide)))).weaken (fun _ _ _ _ => trivial)⟩⟩ rfl rfl hl.1 rfl (lv_room (Nat.le_of_ble_eq_true rfl)) d_S_pattern_47 ⟨(Nat.le_of_ble_eq_true rfl), (Nat.le_of_ble_eq_true rfl)⟩) hP hD hS hA [5] (mp1 (sW_get (by decide))) (fun g47 => (sN_fix (fun _ => rfl) (fun _ => rfl) (fun h => absurd (by simp) h) (in1 (Pr := fun i => sE ad cQ cJ v w t x y g47 i ∈ [((ad 5), vE g47)]) m0))) (fun g47 eg47 H locs hP hD hS => ?_)
      refine lv_aload_n hx hb d_S_pattern_50 rfl (lv_at hl 0 rfl) ?_
      refine lv_iload_n hx hb d_S_pattern_51 rfl (lv_at hl 1 rfl) ?_
      refine lv_aload_n hx hb d_S_pattern_52 rfl (lv_at hl 0 rfl) ?_
      refine va_get (D := (dC, dI)) (ci := 1) (v := .ref (ad 5)) (C := R_S) (T := F_S) (N := 6) hx hb hts (fun w h => List.mem_cons_of_mem _ (gGP (uw_S w h))) hown hK hP 0 (sW_get (by decide)) rfl 4 (by decide) (hG (.fieldLink R_S 27 "ValueSieve" "made" "LValueSieve$Value;") (gGP gw56)) (fun _ h9 => h9) rfl d_S_pattern_53 ?_
      refine lv_lload hx hb d_S_pattern_56 (lv_at hl 4 rfl) ?_
      refine mm_v (F := f_S_write_z v w t x y g47 p1.toNatClampNeg p4) (w1 := fun g58 => (sW ad cQ cJ (g58).1 (g58).2.1 (g58).2.2 x y g47)) (va_runV (As := [.int (nI p1.toNatClampNeg), .ref (ad 5), .long (p4)]) (rest := []) ⟨hx, hb, hml, hown, hts⟩ (c_S_write_z l dC dI ad cQ cJ H.size v w t x y g47 p1.toNatClampNeg p4 (ie_nI (rp_ok h1)).2) (cwV 3 hts (gVS gw93 gw94 gw377 gw0 gw95) rfl rfl rfl (by decide +kernel) ⟨(Nat.le_of_ble_eq_true rfl), (Nat.le_of_ble_eq_true rfl)⟩) ⟨blp, va_recv hK hP (ci := 1) (q0 := 0) rfl (sW_get (by decide)), fun U hU hW => ⟨rfl, by rw [hU], by rw [hU]; exact hP, va_K.moved hW.alike hK, hD.weaken (fun _ _ _ _ => trivial)⟩⟩ rfl rfl hl.1 (by simp only [← (ie_nI (rp_ok h1)).1]; rfl) (lv_room (Nat.le_of_ble_eq_true rfl)) d_S_pattern_58 ⟨(Nat.le_of_ble_eq_true rfl), (Nat.le_of_ble_eq_true rfl)⟩) hD hS hA (fun g58 eg58 H locs hP hD hS => ?_)
      have fe : f_S_pattern v w t x y z p1 p2 p3 p4 = (0, (g58).1, (g58).2.1, (g58).2.2, x, y, g47) := by unfold f_S_pattern; rw [eg8, eg18, eg47, eg58]; first | with_reducible exact (if_pos h1).trans (if_neg e1_43) | exact (if_pos h1).trans (if_neg e1_43)
      refine w_widen (k := 2) (n := 12) (Nat.le_of_ble_eq_true rfl) (Nat.le_of_ble_eq_true rfl) ?_
      refine vx_ret ?_
      exact W.vret hx hb hr (fun t9 ht hW => ⟨⟨(), rfl, (by rw [fe]), by rw [ht, fe]; exact hP, by rw [fe]; exact hD⟩, hS.F ht⟩) hS.2.2 d_S_pattern_61
    · have fe : f_S_pattern v w t x y z p1 p2 p3 p4 = (2, v, w, t, x, y, g18) := by unfold f_S_pattern; rw [eg8, eg18]; first | with_reducible exact (if_pos h1).trans (if_pos e1_43) | exact (if_pos h1).trans (if_pos e1_43)
      obtain ⟨sa, hsa⟩ := hX.2.2.1 (69, "the witness does not have the known bits") (by decide)
      refine vx_throwS hx hb hlt hown (cls := eA) (names := eN) (by decide +kernel) (by decide +kernel) (hG _ (List.mem_append_right _ (by decide +kernel))) (hG _ (List.mem_append_right _ (by decide +kernel))) hsa (hat_A hG hX) ot_A hX.1 hX.2.1 hS (hl.1.trans hml.symm) d_S_pattern_33 d_S_pattern_36 d_S_pattern_37 d_S_pattern_39 d_S_pattern_42 (fun x hx9 => (htab x hx9).elim) (Nat.le_of_ble_eq_true rfl) (by show _ ≤ _; decide) (Nat.le_of_ble_eq_true rfl) (Nat.le_of_ble_eq_true rfl) hlocks (fun t9 hal hsz9 hk9 => ?_) ?_ (Nat.le_of_ble_eq_true rfl) (Nat.le_of_ble_eq_true rfl)
      · have hP9 := va_P.kept hP (fun k9 q hq => hk9 q.1 (hP k9 q hq).lt)
        exact ⟨(), trivial, ⟨(by rw [fe]; exact Or.inr ⟨rfl, rfl⟩), (by rw [fe]; exact hP9), (by rw [fe]; exact hD)⟩, ⟨Nat.le_trans hS.1 hsz9, fun q h1 h2 => (hk9 q (Nat.lt_of_lt_of_le h1 hS.1)).trans (hS.2.1 q h1 h2)⟩⟩
      · exact hS.2.2
