-- decided
theorem d_M_decided_0 : decode b_M_decided 0 = .ok (.aload_n 0, 1) := by decide +kernel
theorem d_M_decided_1 : decode b_M_decided 1 = .ok (.iload_n 1, 1) := by decide +kernel
theorem d_M_decided_2 : decode b_M_decided 2 = .ok (.iload_n 2, 1) := by decide +kernel
theorem d_M_decided_3 : decode b_M_decided 3 = .ok (.iload_n 3, 1) := by decide +kernel
theorem d_M_decided_4 : decode b_M_decided 4 = .ok (.invokevirtual 236, 3) := by decide +kernel
theorem d_M_decided_7 : decode b_M_decided 7 = .ok (.ifCond .eq 5, 3) := by decide +kernel
theorem d_M_decided_10 : decode b_M_decided 10 = .ok (.iconst 0, 1) := by decide +kernel
theorem d_M_decided_11 : decode b_M_decided 11 = .ok (.ireturn, 1) := by decide +kernel
theorem d_M_decided_12 : decode b_M_decided 12 = .ok (.aload_n 0, 1) := by decide +kernel
theorem d_M_decided_13 : decode b_M_decided 13 = .ok (.iload_n 1, 1) := by decide +kernel
theorem d_M_decided_14 : decode b_M_decided 14 = .ok (.iload_n 2, 1) := by decide +kernel
theorem d_M_decided_15 : decode b_M_decided 15 = .ok (.iload_n 3, 1) := by decide +kernel
theorem d_M_decided_16 : decode b_M_decided 16 = .ok (.invokevirtual 246, 3) := by decide +kernel
theorem d_M_decided_19 : decode b_M_decided 19 = .ok (.ifCond .ne 7, 3) := by decide +kernel
theorem d_M_decided_22 : decode b_M_decided 22 = .ok (.iconst 0, 1) := by decide +kernel
theorem d_M_decided_23 : decode b_M_decided 23 = .ok (.goto 21, 3) := by decide +kernel
theorem d_M_decided_26 : decode b_M_decided 26 = .ok (.aload_n 0, 1) := by decide +kernel
theorem d_M_decided_27 : decode b_M_decided 27 = .ok (.iload_n 1, 1) := by decide +kernel
theorem d_M_decided_28 : decode b_M_decided 28 = .ok (.invokestatic 242, 3) := by decide +kernel
theorem d_M_decided_31 : decode b_M_decided 31 = .ok (.iload_n 2, 1) := by decide +kernel
theorem d_M_decided_32 : decode b_M_decided 32 = .ok (.iload_n 3, 1) := by decide +kernel
theorem d_M_decided_33 : decode b_M_decided 33 = .ok (.invokevirtual 246, 3) := by decide +kernel
theorem d_M_decided_36 : decode b_M_decided 36 = .ok (.ifCond .ne 7, 3) := by decide +kernel
theorem d_M_decided_39 : decode b_M_decided 39 = .ok (.iconst 1, 1) := by decide +kernel
theorem d_M_decided_40 : decode b_M_decided 40 = .ok (.goto 4, 3) := by decide +kernel
theorem d_M_decided_43 : decode b_M_decided 43 = .ok (.iconst (-1), 1) := by decide +kernel
theorem d_M_decided_44 : decode b_M_decided 44 = .ok (.ireturn, 1) := by decide +kernel
def f_M_decided_33g (r0 : (Nat → VV)) (p1 : Int32) (p2 : Int32) (p3 : Int32) (c16g : Int32) (g33 : Bool × (Nat → VV)) : Int32 × Int32 × (Nat → VV) := (if g33.1 = true then (-1, c16g, g33.2) else (1, c16g, g33.2))
def f_M_decided_16g (r0 : (Nat → VV)) (p1 : Int32) (p2 : Int32) (p3 : Int32) (c16g : Int32) (g16 : Bool × (Nat → VV)) : Int32 × Int32 × (Nat → VV) := (if g16.1 = true then f_M_decided_33g r0 p1 p2 p3 c16g (f_M_canBe g16.2 (f_M_opposite p1) p2.toNatClampNeg p3.toNatClampNeg) else (0, c16g, g16.2))
def f_M_decided_4g (r0 : (Nat → VV)) (p1 : Int32) (p2 : Int32) (p3 : Int32) (g4 : Bool × Int32) : Int32 × Int32 × (Nat → VV) := (if g4.1 = true then (0, g4.2, r0) else f_M_decided_16g r0 p1 p2 p3 g4.2 (f_M_canBe r0 p1 p2.toNatClampNeg p3.toNatClampNeg))
def f_M_decided (r0 : (Nat → VV)) (p1 : Int32) (p2 : Int32) (p3 : Int32) : Int32 × Int32 × (Nat → VV) := f_M_decided_4g r0 p1 p2 p3 (f_M_noComparison p1 p2 p3)
set_option maxRecDepth 100000 in
set_option maxHeartbeats 4000000 in
theorem c_M_decided (l : Launch) (dC : Nat → ClassId) (dI : Nat → Nat → Nat) (ad : Nat → Nat) (cJ cZ : ClassId) (sz : Nat) (c0 : Int32) (r0 : (Nat → VV)) (w0 : (Nat → Int64)) (s0 : Int32) (p1 : Int32) (p2 : Int32) (p3 : Int32) : Met l y_M_decided w_M_decided ({ frames := 8, cells := 0, slots := 0, locals := 227 } : Room) (va_Pc [.ref (ad 0), .int (p1), .int (p2), .int (p3)] (nP (dC, dI) (mT cJ cZ) (mW ad cJ cZ c0 r0 w0 s0) sz)) (va_Qi (fun r (_ : Unit) => r = (f_M_decided r0 p1 p2 p3).1) (mB (dC, dI) (va_A (mW ad cJ cZ c0 r0 w0 s0) sz) (mW ad cJ cZ (f_M_decided r0 p1 p2 p3).2.1 (f_M_decided r0 p1 p2 p3).2.2 w0 s0)) (va_A (mW ad cJ cZ c0 r0 w0 s0) sz)) 0 0 (va_A (mW ad cJ cZ c0 r0 w0 s0) sz) := by
  refine Met.ofW (cc := b_M_decided) (maxL := 4) (ret := (some .int)) (by decide) rfl ?_
  intro p e s m args below meth c s₁ B hml hv
  obtain ⟨rfl, hsz, hP, hK, hD0⟩ := hv
  have hx := B.exec
  have hb := B.bytes
  have hr := B.returns
  have hts := atoms_spec (ws := w_M_decided) B.pre
  have hG : ∀ w ∈ gM, w.before _ s = true := fun w h => hts w (List.mem_cons_of_mem _ h)
  have hown : s.vm.findClass R_M = some m.cls := findClass_of_methodNamed B.named
  have hlocks := B.notSynchronized
  subst hsz
  have hD := hD0.self (sz := s.heap.size)
  generalize hAe : va_A (mW ad cJ cZ c0 r0 w0 s0) s.heap.size = A at hD ⊢
  have hA : ∀ q : Nat, s.heap.size ≤ q → A q := fun q h => by rw [← hAe]; exact Or.inr h
  have hS : va_S A s.heap s.heap [] := va_S.rf
  have hl := lv_entry ([.ref (ad 0), .int (p1), .int (p2), .int (p3)]) (n := 4) (Nat.le_of_ble_eq_true rfl)
  rw [lg_entry_eq]
  generalize (lg_sl ([.ref (ad 0), .int (p1), .int (p2), .int (p3)]) ++ List.replicate (4 - (lg_sl ([.ref (ad 0), .int (p1), .int (p2), .int (p3)])).length) Slot.unset).toArray = ls at hl ⊢
  have hl : lv_has ls 4 [(0, .ref (ad 0)), (1, .int (p1)), (2, .int (p2)), (3, .int (p3))] := hl
  have K33g : ∀ (c16g : Int32) (g33 : Bool × (Nat → VV)) (hj : f_M_decided r0 p1 p2 p3 = f_M_decided_33g r0 p1 p2 p3 c16g g33) (hf0 : p2 = nI p2.toNatClampNeg) (hf1 : p2.toNatClampNeg < 16) (hf2 : p3 = nI p3.toNatClampNeg) (hf3 : p3.toNatClampNeg < 16) (H : Heap) (locs : List Loc) (hP : va_P (dC, dI) classes (mW ad cJ cZ c16g g33.2 w0 s0) H) (hD : va_D A (mW ad cJ cZ c16g g33.2 w0 s0)) (hS : va_S A s.heap H locs) (ls : Array Slot) (hl : lv_has ls 4 []), W p l e (headSpec w_M_decided ({ frames := 8, cells := 0, slots := 0, locals := 227 } : Room)).room s m ([.ref (ad 0), .int (p1), .int (p2), .int (p3)] : List Value).toArray below meth c H locs 0 0 (MQ below (va_Qi (fun r (_ : Unit) => r = (f_M_decided r0 p1 p2 p3).1) (mB (dC, dI) A (mW ad cJ cZ (f_M_decided r0 p1 p2 p3).2.1 (f_M_decided r0 p1 p2 p3).2.2 w0 s0)) A) ([.ref (ad 0), .int (p1), .int (p2), .int (p3)] : List Value).toArray s 0 0 A) (F0 m 36 ls [.int (bI g33.1)]) := by
    intro c16g g33 hj hf0 hf1 hf2 hf3 H locs hP hD hS ls hl
    refine wz_ne (tgt := 43) hx hb d_M_decided_36 (by decide) (fun e1_43 => ?_) (fun e1_43 => ?_)
    · refine lv_iconst (v := -1) hx hb d_M_decided_43 (by decide) ?_
      have fe : f_M_decided r0 p1 p2 p3 = (-1, c16g, g33.2) := hj.trans (by unfold f_M_decided_33g; first | with_reducible exact if_pos e1_43 | exact if_pos e1_43)
      exact W.iret (v := -1) hx hb hr (fun t ht hW => ⟨⟨_, (), rfl, by rw [fe], by rw [ht, fe]; exact hP, by rw [fe]; exact hD⟩, hS.F ht⟩) hS.2.2 d_M_decided_44
    · refine lv_iconst (v := 1) hx hb d_M_decided_39 (by decide) ?_
      refine lv_goto (tgt := 44) hx hb d_M_decided_40 (by decide) ?_
      have fe : f_M_decided r0 p1 p2 p3 = (1, c16g, g33.2) := hj.trans (by unfold f_M_decided_33g; first | with_reducible exact if_neg e1_43 | exact if_neg e1_43)
      exact W.iret (v := 1) hx hb hr (fun t ht hW => ⟨⟨_, (), rfl, by rw [fe], by rw [ht, fe]; exact hP, by rw [fe]; exact hD⟩, hS.F ht⟩) hS.2.2 d_M_decided_44
  have K16g : ∀ (c16g : Int32) (g16 : Bool × (Nat → VV)) (hj : f_M_decided r0 p1 p2 p3 = f_M_decided_16g r0 p1 p2 p3 c16g g16) (hf0 : p2 = nI p2.toNatClampNeg) (hf1 : p2.toNatClampNeg < 16) (hf2 : p3 = nI p3.toNatClampNeg) (hf3 : p3.toNatClampNeg < 16) (H : Heap) (locs : List Loc) (hP : va_P (dC, dI) classes (mW ad cJ cZ c16g g16.2 w0 s0) H) (hD : va_D A (mW ad cJ cZ c16g g16.2 w0 s0)) (hS : va_S A s.heap H locs) (ls : Array Slot) (hl : lv_has ls 4 [(0, .ref (ad 0)), (1, .int (p1)), (2, .int (p2)), (3, .int (p3))]), W p l e (headSpec w_M_decided ({ frames := 8, cells := 0, slots := 0, locals := 227 } : Room)).room s m ([.ref (ad 0), .int (p1), .int (p2), .int (p3)] : List Value).toArray below meth c H locs 0 0 (MQ below (va_Qi (fun r (_ : Unit) => r = (f_M_decided r0 p1 p2 p3).1) (mB (dC, dI) A (mW ad cJ cZ (f_M_decided r0 p1 p2 p3).2.1 (f_M_decided r0 p1 p2 p3).2.2 w0 s0)) A) ([.ref (ad 0), .int (p1), .int (p2), .int (p3)] : List Value).toArray s 0 0 A) (F0 m 19 ls [.int (bI g16.1)]) := by
    intro c16g g16 hj hf0 hf1 hf2 hf3 H locs hP hD hS ls hl
    refine wz_ne (tgt := 26) hx hb d_M_decided_19 (by decide) (fun e1_26 => ?_) (fun e1_26 => ?_)
    · refine lv_aload_n hx hb d_M_decided_26 rfl (lv_at hl 0 rfl) ?_
      refine lv_iload_n hx hb d_M_decided_27 rfl (lv_at hl 1 rfl) ?_
      refine rc_i (W.runS (As := [.int (p1)]) (rest := [.ref (ad 0)]) ⟨hx, hb, hml, hown, hts⟩ (c_M_opposite l p1) (va_cwS 1 hts (gxS gx216 gx217 gx0 gx218) rfl rfl rfl (by decide +kernel) ⟨(Nat.le_of_ble_eq_true rfl), (Nat.le_of_ble_eq_true rfl)⟩) ⟨bl0, fun U hU hW => ⟨rfl, trivial⟩⟩ rfl rfl hl.1 rfl (lv_room (Nat.le_of_ble_eq_true rfl)) d_M_decided_28 ⟨Nat.zero_le _, Nat.zero_le _⟩) ?_
      refine lv_iload_n hx hb d_M_decided_31 rfl (lv_at hl 2 rfl) ?_
      refine top_i hf0 ?_
      refine lv_iload_n hx hb d_M_decided_32 rfl (lv_at hl 3 rfl) ?_
      refine top_i hf2 ?_
      refine mm_z (F := f_M_canBe g16.2 (f_M_opposite p1) p2.toNatClampNeg p3.toNatClampNeg) (w1 := fun g33 => (mW ad cJ cZ c16g g33.2 w0 s0)) (va_runV (As := [.int (f_M_opposite p1), .int (nI p2.toNatClampNeg), .int (nI p3.toNatClampNeg)]) (rest := []) ⟨hx, hb, hml, hown, hts⟩ (c_M_canBe l dC dI ad cJ cZ H.size c16g g16.2 w0 s0 (f_M_opposite p1) p2.toNatClampNeg p3.toNatClampNeg (Nat.lt_of_lt_of_le hf1 (by decide)) (Nat.lt_of_lt_of_le hf3 (by decide))) (cwV 3 hts (gxV gx219 gx220 gx305 gx0 gx221) rfl rfl rfl (by decide +kernel) ⟨(Nat.le_of_ble_eq_true rfl), (Nat.le_of_ble_eq_true rfl)⟩) ⟨blp, va_recv hK hP (ci := 2) (q0 := 0) rfl rfl, fun U hU hW => ⟨rfl, by rw [hU], by rw [hU]; exact hP, va_K.moved hW.alike hK, hD.weaken (fun _ _ _ _ => trivial)⟩⟩ rfl rfl hl.1 rfl (lv_room (Nat.le_of_ble_eq_true rfl)) d_M_decided_33 ⟨Nat.zero_le _, Nat.zero_le _⟩) hD hS hA (fun g33 eg33 H locs hP hD hS => ?_)
      refine K33g c16g g33 (Eq.trans (hj.trans (by unfold f_M_decided_16g; first | with_reducible exact if_pos e1_26 | exact if_pos e1_26)) (congrArg (fun g33 => f_M_decided_33g r0 p1 p2 p3 c16g g33) eg33)) hf0 hf1 hf2 hf3 H locs ?_ ?_ hS ls (lv_sub hl [] rfl)
      · with_reducible exact hP
      · with_reducible exact hD
    · refine lv_iconst (v := 0) hx hb d_M_decided_22 (by decide) ?_
      refine lv_goto (tgt := 44) hx hb d_M_decided_23 (by decide) ?_
      have fe : f_M_decided r0 p1 p2 p3 = (0, c16g, g16.2) := hj.trans (by unfold f_M_decided_16g; first | with_reducible exact if_neg e1_26 | exact if_neg e1_26)
      exact W.iret (v := 0) hx hb hr (fun t ht hW => ⟨⟨_, (), rfl, by rw [fe], by rw [ht, fe]; exact hP, by rw [fe]; exact hD⟩, hS.F ht⟩) hS.2.2 d_M_decided_44
  have K4g : ∀ (g4 : Bool × Int32) (hj : f_M_decided r0 p1 p2 p3 = f_M_decided_4g r0 p1 p2 p3 g4) (hf0 : npF g4.1 0 p2 p3) (H : Heap) (locs : List Loc) (hP : va_P (dC, dI) classes (mW ad cJ cZ g4.2 r0 w0 s0) H) (hD : va_D A (mW ad cJ cZ g4.2 r0 w0 s0)) (hS : va_S A s.heap H locs) (ls : Array Slot) (hl : lv_has ls 4 [(0, .ref (ad 0)), (1, .int (p1)), (2, .int (p2)), (3, .int (p3))]), W p l e (headSpec w_M_decided ({ frames := 8, cells := 0, slots := 0, locals := 227 } : Room)).room s m ([.ref (ad 0), .int (p1), .int (p2), .int (p3)] : List Value).toArray below meth c H locs 0 0 (MQ below (va_Qi (fun r (_ : Unit) => r = (f_M_decided r0 p1 p2 p3).1) (mB (dC, dI) A (mW ad cJ cZ (f_M_decided r0 p1 p2 p3).2.1 (f_M_decided r0 p1 p2 p3).2.2 w0 s0)) A) ([.ref (ad 0), .int (p1), .int (p2), .int (p3)] : List Value).toArray s 0 0 A) (F0 m 7 ls [.int (bI g4.1)]) := by
    intro g4 hj hf0 H locs hP hD hS ls hl
    refine wz_eq (tgt := 12) hx hb d_M_decided_7 (by decide) (fun e1_12 => ?_) (fun e1_12 => ?_)
    · obtain ⟨⟨i1, j1⟩, ⟨i2, j2⟩, ⟨i3, j3⟩⟩ := npF_of hf0 e1_12
      refine lv_aload_n hx hb d_M_decided_12 rfl (lv_at hl 0 rfl) ?_
      refine lv_iload_n hx hb d_M_decided_13 rfl (lv_at hl 1 rfl) ?_
      refine lv_iload_n hx hb d_M_decided_14 rfl (lv_at hl 2 rfl) ?_
      refine top_i i2 ?_
      refine lv_iload_n hx hb d_M_decided_15 rfl (lv_at hl 3 rfl) ?_
      refine top_i i3 ?_
      refine mm_z (F := f_M_canBe r0 p1 p2.toNatClampNeg p3.toNatClampNeg) (w1 := fun g16 => (mW ad cJ cZ g4.2 g16.2 w0 s0)) (va_runV (As := [.int (p1), .int (nI p2.toNatClampNeg), .int (nI p3.toNatClampNeg)]) (rest := []) ⟨hx, hb, hml, hown, hts⟩ (c_M_canBe l dC dI ad cJ cZ H.size g4.2 r0 w0 s0 p1 p2.toNatClampNeg p3.toNatClampNeg (Nat.lt_of_lt_of_le j2 (by decide)) (Nat.lt_of_lt_of_le j3 (by decide))) (cwV 3 hts (gxV gx219 gx220 gx305 gx0 gx221) rfl rfl rfl (by decide +kernel) ⟨(Nat.le_of_ble_eq_true rfl), (Nat.le_of_ble_eq_true rfl)⟩) ⟨blp, va_recv hK hP (ci := 2) (q0 := 0) rfl rfl, fun U hU hW => ⟨rfl, by rw [hU], by rw [hU]; exact hP, va_K.moved hW.alike hK, hD.weaken (fun _ _ _ _ => trivial)⟩⟩ rfl rfl hl.1 rfl (lv_room (Nat.le_of_ble_eq_true rfl)) d_M_decided_16 ⟨Nat.zero_le _, Nat.zero_le _⟩) hD hS hA (fun g16 eg16 H locs hP hD hS => ?_)
      refine K16g g4.2 g16 (Eq.trans (hj.trans (by unfold f_M_decided_4g; first | with_reducible exact if_neg e1_12 | exact if_neg e1_12)) (congrArg (fun g16 => f_M_decided_16g r0 p1 p2 p3 g4.2 g16) eg16)) i2 j2 i3 j3 H locs ?_ ?_ hS ls (lv_sub hl [0, 1, 2, 3] rfl)
      · with_reducible exact hP
      · with_reducible exact hD
    · refine lv_iconst (v := 0) hx hb d_M_decided_10 (by decide) ?_
      have fe : f_M_decided r0 p1 p2 p3 = (0, g4.2, r0) := hj.trans (by unfold f_M_decided_4g; first | with_reducible exact if_pos e1_12 | exact if_pos e1_12)
      exact W.iret (v := 0) hx hb hr (fun t ht hW => ⟨⟨_, (), rfl, by rw [fe], by rw [ht, fe]; exact hP, by rw [fe]; exact hD⟩, hS.F ht⟩) hS.2.2 d_M_decided_11
  refine lv_aload_n hx hb d_M_decided_0 rfl (lv_at hl 0 rfl) ?_
  refine lv_iload_n hx hb d_M_decided_1 rfl (lv_at hl 1 rfl) ?_
  refine lv_iload_n hx hb d_M_decided_2 rfl (lv_at hl 2 rfl) ?_
  refine lv_iload_n hx hb d_M_decided_3 rfl (lv_at hl 3 rfl) ?_
  refine mm_z (F := f_M_noComparison p1 p2 p3) (w1 := fun g4 => (mW ad cJ cZ g4.2 r0 w0 s0)) (va_runV (As := [.int (p1), .int (p2), .int (p3)]) (rest := []) ⟨hx, hb, hml, hown, hts⟩ (c_M_noComparison l dC dI ad cJ cZ s.heap.size c0 r0 w0 s0 p1 p2 p3) (cwV 3 hts (gxV gx210 gx211 gx306 gx0 gx212) rfl rfl rfl (by decide +kernel) ⟨(Nat.le_of_ble_eq_true rfl), (Nat.le_of_ble_eq_true rfl)⟩) ⟨blp, va_recv hK hP (ci := 2) (q0 := 0) rfl rfl, fun U hU hW => ⟨rfl, by rw [hU], by rw [hU]; exact hP, va_K.moved hW.alike hK, hD.weaken (fun _ _ _ _ => trivial)⟩⟩ rfl rfl hl.1 rfl (lv_room (Nat.le_of_ble_eq_true rfl)) d_M_decided_4 ⟨Nat.zero_le _, Nat.zero_le _⟩) hD hS hA (fun g4 eg4 H locs hP hD hS => ?_)
  have hpg4 := nc_ok eg4
  refine K4g g4 (Eq.trans (rfl) (congrArg (fun g4 => f_M_decided_4g r0 p1 p2 p3 g4) eg4)) hpg4 H locs ?_ ?_ hS ls (lv_sub hl [0, 1, 2, 3] rfl)
  · with_reducible exact hP
  · with_reducible exact hD
-- within
theorem d_M_within_0 : decode b_M_within 0 = .ok (.aload_n 0, 1) := by decide +kernel
theorem d_M_within_1 : decode b_M_within 1 = .ok (.iload_n 1, 1) := by decide +kernel
theorem d_M_within_2 : decode b_M_within 2 = .ok (.iload_n 2, 1) := by decide +kernel
theorem d_M_within_3 : decode b_M_within 3 = .ok (.iconst 0, 1) := by decide +kernel
theorem d_M_within_4 : decode b_M_within 4 = .ok (.invokevirtual 98, 3) := by decide +kernel
theorem d_M_within_7 : decode b_M_within 7 = .ok (.ifCond .eq 5, 3) := by decide +kernel
theorem d_M_within_10 : decode b_M_within 10 = .ok (.iconst 0, 1) := by decide +kernel
theorem d_M_within_11 : decode b_M_within 11 = .ok (.ireturn, 1) := by decide +kernel
theorem d_M_within_12 : decode b_M_within 12 = .ok (.aload_n 0, 1) := by decide +kernel
theorem d_M_within_13 : decode b_M_within 13 = .ok (.getfield 13, 3) := by decide +kernel
theorem d_M_within_16 : decode b_M_within 16 = .ok (.iload_n 1, 1) := by decide +kernel
theorem d_M_within_17 : decode b_M_within 17 = .ok (.laload, 1) := by decide +kernel
theorem d_M_within_18 : decode b_M_within 18 = .ok (.aload_n 0, 1) := by decide +kernel
theorem d_M_within_19 : decode b_M_within 19 = .ok (.getfield 13, 3) := by decide +kernel
theorem d_M_within_22 : decode b_M_within 22 = .ok (.iload_n 2, 1) := by decide +kernel
theorem d_M_within_23 : decode b_M_within 23 = .ok (.laload, 1) := by decide +kernel
theorem d_M_within_24 : decode b_M_within 24 = .ok (.ldc2_w 49, 3) := by decide +kernel
theorem d_M_within_27 : decode b_M_within 27 = .ok (.lxor, 1) := by decide +kernel
theorem d_M_within_28 : decode b_M_within 28 = .ok (.land, 1) := by decide +kernel
theorem d_M_within_29 : decode b_M_within 29 = .ok (.lconst 0, 1) := by decide +kernel
theorem d_M_within_30 : decode b_M_within 30 = .ok (.lcmp, 1) := by decide +kernel
theorem d_M_within_31 : decode b_M_within 31 = .ok (.ifCond .ne 36, 3) := by decide +kernel
theorem d_M_within_34 : decode b_M_within 34 = .ok (.aload_n 0, 1) := by decide +kernel
theorem d_M_within_35 : decode b_M_within 35 = .ok (.getfield 7, 3) := by decide +kernel
theorem d_M_within_38 : decode b_M_within 38 = .ok (.iload_n 1, 1) := by decide +kernel
theorem d_M_within_39 : decode b_M_within 39 = .ok (.laload, 1) := by decide +kernel
theorem d_M_within_40 : decode b_M_within 40 = .ok (.aload_n 0, 1) := by decide +kernel
theorem d_M_within_41 : decode b_M_within 41 = .ok (.getfield 7, 3) := by decide +kernel
theorem d_M_within_44 : decode b_M_within 44 = .ok (.iload_n 2, 1) := by decide +kernel
theorem d_M_within_45 : decode b_M_within 45 = .ok (.laload, 1) := by decide +kernel
theorem d_M_within_46 : decode b_M_within 46 = .ok (.lxor, 1) := by decide +kernel
theorem d_M_within_47 : decode b_M_within 47 = .ok (.aload_n 0, 1) := by decide +kernel
theorem d_M_within_48 : decode b_M_within 48 = .ok (.getfield 13, 3) := by decide +kernel
theorem d_M_within_51 : decode b_M_within 51 = .ok (.iload_n 2, 1) := by decide +kernel
theorem d_M_within_52 : decode b_M_within 52 = .ok (.laload, 1) := by decide +kernel
theorem d_M_within_53 : decode b_M_within 53 = .ok (.ldc2_w 49, 3) := by decide +kernel
theorem d_M_within_56 : decode b_M_within 56 = .ok (.lxor, 1) := by decide +kernel
theorem d_M_within_57 : decode b_M_within 57 = .ok (.land, 1) := by decide +kernel
theorem d_M_within_58 : decode b_M_within 58 = .ok (.lconst 0, 1) := by decide +kernel
theorem d_M_within_59 : decode b_M_within 59 = .ok (.lcmp, 1) := by decide +kernel
theorem d_M_within_60 : decode b_M_within 60 = .ok (.ifCond .ne 7, 3) := by decide +kernel
theorem d_M_within_63 : decode b_M_within 63 = .ok (.iconst 1, 1) := by decide +kernel
theorem d_M_within_64 : decode b_M_within 64 = .ok (.goto 4, 3) := by decide +kernel
theorem d_M_within_67 : decode b_M_within 67 = .ok (.iconst 0, 1) := by decide +kernel
theorem d_M_within_68 : decode b_M_within 68 = .ok (.istore_n 3, 1) := by decide +kernel
theorem d_M_within_69 : decode b_M_within 69 = .ok (.iload_n 3, 1) := by decide +kernel
theorem d_M_within_70 : decode b_M_within 70 = .ok (.ifCond .eq 75, 3) := by decide +kernel
theorem d_M_within_73 : decode b_M_within 73 = .ok (.aload_n 0, 1) := by decide +kernel
theorem d_M_within_74 : decode b_M_within 74 = .ok (.getfield 16, 3) := by decide +kernel
theorem d_M_within_77 : decode b_M_within 77 = .ok (.iload_n 1, 1) := by decide +kernel
theorem d_M_within_78 : decode b_M_within 78 = .ok (.laload, 1) := by decide +kernel
theorem d_M_within_79 : decode b_M_within 79 = .ok (.aload_n 0, 1) := by decide +kernel
theorem d_M_within_80 : decode b_M_within 80 = .ok (.getfield 16, 3) := by decide +kernel
theorem d_M_within_83 : decode b_M_within 83 = .ok (.iload_n 2, 1) := by decide +kernel
theorem d_M_within_84 : decode b_M_within 84 = .ok (.laload, 1) := by decide +kernel
theorem d_M_within_85 : decode b_M_within 85 = .ok (.invokestatic 39, 3) := by decide +kernel
theorem d_M_within_88 : decode b_M_within 88 = .ok (.ifCond .ne 57, 3) := by decide +kernel
theorem d_M_within_91 : decode b_M_within 91 = .ok (.aload_n 0, 1) := by decide +kernel
theorem d_M_within_92 : decode b_M_within 92 = .ok (.getfield 19, 3) := by decide +kernel
theorem d_M_within_95 : decode b_M_within 95 = .ok (.iload_n 2, 1) := by decide +kernel
theorem d_M_within_96 : decode b_M_within 96 = .ok (.laload, 1) := by decide +kernel
theorem d_M_within_97 : decode b_M_within 97 = .ok (.aload_n 0, 1) := by decide +kernel
theorem d_M_within_98 : decode b_M_within 98 = .ok (.getfield 19, 3) := by decide +kernel
theorem d_M_within_101 : decode b_M_within 101 = .ok (.iload_n 1, 1) := by decide +kernel
theorem d_M_within_102 : decode b_M_within 102 = .ok (.laload, 1) := by decide +kernel
theorem d_M_within_103 : decode b_M_within 103 = .ok (.invokestatic 39, 3) := by decide +kernel
theorem d_M_within_106 : decode b_M_within 106 = .ok (.ifCond .ne 39, 3) := by decide +kernel
theorem d_M_within_109 : decode b_M_within 109 = .ok (.aload_n 0, 1) := by decide +kernel
theorem d_M_within_110 : decode b_M_within 110 = .ok (.getfield 22, 3) := by decide +kernel
theorem d_M_within_113 : decode b_M_within 113 = .ok (.iload_n 1, 1) := by decide +kernel
theorem d_M_within_114 : decode b_M_within 114 = .ok (.laload, 1) := by decide +kernel
theorem d_M_within_115 : decode b_M_within 115 = .ok (.aload_n 0, 1) := by decide +kernel
theorem d_M_within_116 : decode b_M_within 116 = .ok (.getfield 22, 3) := by decide +kernel
theorem d_M_within_119 : decode b_M_within 119 = .ok (.iload_n 2, 1) := by decide +kernel
theorem d_M_within_120 : decode b_M_within 120 = .ok (.laload, 1) := by decide +kernel
theorem d_M_within_121 : decode b_M_within 121 = .ok (.lcmp, 1) := by decide +kernel
theorem d_M_within_122 : decode b_M_within 122 = .ok (.ifCond .lt 23, 3) := by decide +kernel
theorem d_M_within_125 : decode b_M_within 125 = .ok (.aload_n 0, 1) := by decide +kernel
theorem d_M_within_126 : decode b_M_within 126 = .ok (.getfield 25, 3) := by decide +kernel
theorem d_M_within_129 : decode b_M_within 129 = .ok (.iload_n 1, 1) := by decide +kernel
theorem d_M_within_130 : decode b_M_within 130 = .ok (.laload, 1) := by decide +kernel
theorem d_M_within_131 : decode b_M_within 131 = .ok (.aload_n 0, 1) := by decide +kernel
theorem d_M_within_132 : decode b_M_within 132 = .ok (.getfield 25, 3) := by decide +kernel
theorem d_M_within_135 : decode b_M_within 135 = .ok (.iload_n 2, 1) := by decide +kernel
theorem d_M_within_136 : decode b_M_within 136 = .ok (.laload, 1) := by decide +kernel
theorem d_M_within_137 : decode b_M_within 137 = .ok (.lcmp, 1) := by decide +kernel
theorem d_M_within_138 : decode b_M_within 138 = .ok (.ifCond .gt 7, 3) := by decide +kernel
theorem d_M_within_141 : decode b_M_within 141 = .ok (.iconst 1, 1) := by decide +kernel
theorem d_M_within_142 : decode b_M_within 142 = .ok (.goto 4, 3) := by decide +kernel
theorem d_M_within_145 : decode b_M_within 145 = .ok (.iconst 0, 1) := by decide +kernel
theorem d_M_within_146 : decode b_M_within 146 = .ok (.ireturn, 1) := by decide +kernel
def f_M_within_145 (r0 : (Nat → VV)) (p1 : Int32) (p2 : Int32) (c68 : Int32) : Bool × Int32 := (false, c68)
def f_M_within_68 (r0 : (Nat → VV)) (p1 : Int32) (p2 : Int32) (s68_0 : Bool) (c68 : Int32) : Bool × Int32 := (if s68_0 = true then (if (f_M_below ((r0 p1.toNatClampNeg).2.2.1) ((r0 p2.toNatClampNeg).2.2.1)) = true then f_M_within_145 r0 p1 p2 c68 else (if (f_M_below ((r0 p2.toNatClampNeg).2.2.2.1) ((r0 p1.toNatClampNeg).2.2.2.1)) = true then f_M_within_145 r0 p1 p2 c68 else (if ((r0 p1.toNatClampNeg).2.2.2.2.1) < ((r0 p2.toNatClampNeg).2.2.2.2.1) then f_M_within_145 r0 p1 p2 c68 else (if ((r0 p2.toNatClampNeg).2.2.2.2.2.1) < ((r0 p1.toNatClampNeg).2.2.2.2.2.1) then f_M_within_145 r0 p1 p2 c68 else (true, c68))))) else f_M_within_145 r0 p1 p2 c68)
def f_M_within_67 (r0 : (Nat → VV)) (p1 : Int32) (p2 : Int32) (c67 : Int32) : Bool × Int32 := f_M_within_68 r0 p1 p2 false c67
def f_M_within_4g (r0 : (Nat → VV)) (p1 : Int32) (p2 : Int32) (g4 : Bool × Int32) : Bool × Int32 := (if g4.1 = true then (false, g4.2) else (if (((r0 p1.toNatClampNeg).2.1) &&& (((r0 p2.toNatClampNeg).2.1) ^^^ (-1 : Int64))) = 0 then (if ((((r0 p1.toNatClampNeg).1) ^^^ ((r0 p2.toNatClampNeg).1)) &&& (((r0 p2.toNatClampNeg).2.1) ^^^ (-1 : Int64))) = 0 then f_M_within_68 r0 p1 p2 true g4.2 else f_M_within_67 r0 p1 p2 g4.2) else f_M_within_67 r0 p1 p2 g4.2))
def f_M_within (r0 : (Nat → VV)) (p1 : Int32) (p2 : Int32) : Bool × Int32 := f_M_within_4g r0 p1 p2 (f_M_noPlace p1 p2 0)
set_option maxRecDepth 100000 in
set_option maxHeartbeats 4000000 in
theorem c_M_within (l : Launch) (dC : Nat → ClassId) (dI : Nat → Nat → Nat) (ad : Nat → Nat) (cJ cZ : ClassId) (sz : Nat) (c0 : Int32) (r0 : (Nat → VV)) (w0 : (Nat → Int64)) (s0 : Int32) (p1 : Int32) (p2 : Int32) : Met l y_M_within w_M_within ({ frames := 1, cells := 0, slots := 0, locals := 23 } : Room) (va_Pc [.ref (ad 0), .int (p1), .int (p2)] (nP (dC, dI) (mT cJ cZ) (mW ad cJ cZ c0 r0 w0 s0) sz)) (va_Qi (fun r (_ : Unit) => r = bI (f_M_within r0 p1 p2).1) (mB (dC, dI) (va_A (mW ad cJ cZ c0 r0 w0 s0) sz) (mW ad cJ cZ (f_M_within r0 p1 p2).2 r0 w0 s0)) (va_A (mW ad cJ cZ c0 r0 w0 s0) sz)) 0 0 (va_A (mW ad cJ cZ c0 r0 w0 s0) sz) := by
  refine Met.ofW (cc := b_M_within) (maxL := 4) (ret := (some .boolean)) (by decide) rfl ?_
  intro p e s m args below meth c s₁ B hml hv
  obtain ⟨rfl, hsz, hP, hK, hD0⟩ := hv
  have hx := B.exec
  have hb := B.bytes
  have hr := B.returns
  have hts := atoms_spec (ws := w_M_within) B.pre
  have hG : ∀ w ∈ gM, w.before _ s = true := fun w h => hts w (List.mem_cons_of_mem _ h)
  have hown : s.vm.findClass R_M = some m.cls := findClass_of_methodNamed B.named
  have hlocks := B.notSynchronized
  subst hsz
  have hD := hD0.self (sz := s.heap.size)
  generalize hAe : va_A (mW ad cJ cZ c0 r0 w0 s0) s.heap.size = A at hD ⊢
  have hA : ∀ q : Nat, s.heap.size ≤ q → A q := fun q h => by rw [← hAe]; exact Or.inr h
  have hS : va_S A s.heap s.heap [] := va_S.rf
  have hl := lv_entry ([.ref (ad 0), .int (p1), .int (p2)]) (n := 4) (Nat.le_of_ble_eq_true rfl)
  rw [lg_entry_eq]
  generalize (lg_sl ([.ref (ad 0), .int (p1), .int (p2)]) ++ List.replicate (4 - (lg_sl ([.ref (ad 0), .int (p1), .int (p2)])).length) Slot.unset).toArray = ls at hl ⊢
  have hl : lv_has ls 4 [(0, .ref (ad 0)), (1, .int (p1)), (2, .int (p2))] := hl
  have K145 : ∀ (c68 : Int32) (hj : f_M_within r0 p1 p2 = f_M_within_145 r0 p1 p2 c68) (hf0 : p1 = nI p1.toNatClampNeg) (hf1 : p1.toNatClampNeg < 16) (hf2 : p2 = nI p2.toNatClampNeg) (hf3 : p2.toNatClampNeg < 16) (H : Heap) (locs : List Loc) (hP : va_P (dC, dI) classes (mW ad cJ cZ c68 r0 w0 s0) H) (hD : va_D A (mW ad cJ cZ c68 r0 w0 s0)) (hS : va_S A s.heap H locs) (ls : Array Slot) (hl : lv_has ls 4 []), W p l e (headSpec w_M_within ({ frames := 1, cells := 0, slots := 0, locals := 23 } : Room)).room s m ([.ref (ad 0), .int (p1), .int (p2)] : List Value).toArray below meth c H locs 0 0 (MQ below (va_Qi (fun r (_ : Unit) => r = bI (f_M_within r0 p1 p2).1) (mB (dC, dI) A (mW ad cJ cZ (f_M_within r0 p1 p2).2 r0 w0 s0)) A) ([.ref (ad 0), .int (p1), .int (p2)] : List Value).toArray s 0 0 A) (F0 m 145 ls []) := by
    intro c68 hj hf0 hf1 hf2 hf3 H locs hP hD hS ls hl
    refine lv_iconst (v := 0) hx hb d_M_within_145 (by decide) ?_
    have fe : f_M_within r0 p1 p2 = (false, c68) := hj.trans rfl
    exact W.zret (v := bI false) hx hb hr (bI_n false) (fun t ht hW => ⟨⟨_, (), rfl, by rw [fe], by rw [ht, fe]; exact hP, by rw [fe]; exact hD⟩, hS.F ht⟩) hS.2.2 d_M_within_146
  have K68 : ∀ (s68_0 : Bool) (c68 : Int32) (hj : f_M_within r0 p1 p2 = f_M_within_68 r0 p1 p2 s68_0 c68) (hf0 : p1 = nI p1.toNatClampNeg) (hf1 : p1.toNatClampNeg < 16) (hf2 : p2 = nI p2.toNatClampNeg) (hf3 : p2.toNatClampNeg < 16) (H : Heap) (locs : List Loc) (hP : va_P (dC, dI) classes (mW ad cJ cZ c68 r0 w0 s0) H) (hD : va_D A (mW ad cJ cZ c68 r0 w0 s0)) (hS : va_S A s.heap H locs) (ls : Array Slot) (hl : lv_has ls 4 [(0, .ref (ad 0)), (1, .int (p1)), (2, .int (p2))]), W p l e (headSpec w_M_within ({ frames := 1, cells := 0, slots := 0, locals := 23 } : Room)).room s m ([.ref (ad 0), .int (p1), .int (p2)] : List Value).toArray below meth c H locs 0 0 (MQ below (va_Qi (fun r (_ : Unit) => r = bI (f_M_within r0 p1 p2).1) (mB (dC, dI) A (mW ad cJ cZ (f_M_within r0 p1 p2).2 r0 w0 s0)) A) ([.ref (ad 0), .int (p1), .int (p2)] : List Value).toArray s 0 0 A) (F0 m 68 ls [.int (bI s68_0)]) := by
    intro s68_0 c68 hj hf0 hf1 hf2 hf3 H locs hP hD hS ls hl
    refine lv_istore_n (lv' := [(3, .int (bI s68_0)), (0, .ref (ad 0)), (1, .int (p1)), (2, .int (p2))]) hx hb d_M_within_68 rfl hl (by decide) rfl (fun ls hl => ?_)
    refine lv_iload_n hx hb d_M_within_69 rfl (lv_at hl 0 rfl) ?_
    refine wz_eq (tgt := 145) hx hb d_M_within_70 (by decide) (fun e1_145 => ?_) (fun e1_145 => ?_)
    · refine K145 c68 (hj.trans (by unfold f_M_within_68; first | with_reducible exact if_neg e1_145 | exact if_neg e1_145)) hf0 hf1 hf2 hf3 H locs ?_ ?_ hS ls (lv_sub hl [] rfl)
      · with_reducible exact hP
      · with_reducible exact hD
    · refine lv_aload_n hx hb d_M_within_73 rfl (lv_at hl 1 rfl) ?_
      refine va_get (D := (dC, dI)) (ci := 2) (v := .ref (ad 3)) (C := R_M) (T := F_M) (N := 10) hx hb hts (fun w h => List.mem_cons_of_mem _ (uw_M w h)) hown hK hP 0 rfl rfl 3 (by decide) (hG (.fieldLink R_M 16 "ValueSieveModel" "low" "[J") gx12) (fun _ h9 => h9) rfl d_M_within_74 ?_
      refine lv_iload_n hx hb d_M_within_77 rfl (lv_at hl 2 rfl) ?_
      refine top_i hf0 ?_
      refine ml_3 (P := p1.toNatClampNeg) hx hb hK hP rfl (Nat.lt_of_lt_of_le hf1 (by decide)) d_M_within_78 ?_
      refine lv_aload_n hx hb d_M_within_79 rfl (lv_at hl 1 rfl) ?_
      refine va_get (D := (dC, dI)) (ci := 2) (v := .ref (ad 3)) (C := R_M) (T := F_M) (N := 10) hx hb hts (fun w h => List.mem_cons_of_mem _ (uw_M w h)) hown hK hP 0 rfl rfl 3 (by decide) (hG (.fieldLink R_M 16 "ValueSieveModel" "low" "[J") gx12) (fun _ h9 => h9) rfl d_M_within_80 ?_
      refine lv_iload_n hx hb d_M_within_83 rfl (lv_at hl 3 rfl) ?_
      refine top_i hf2 ?_
      refine ml_3 (P := p2.toNatClampNeg) hx hb hK hP rfl (Nat.lt_of_lt_of_le hf3 (by decide)) d_M_within_84 ?_
      refine rc_i (W.runS (As := [.long ((r0 p1.toNatClampNeg).2.2.1), .long ((r0 p2.toNatClampNeg).2.2.1)]) (rest := []) ⟨hx, hb, hml, hown, hts⟩ (c_M_below l ((r0 p1.toNatClampNeg).2.2.1) ((r0 p2.toNatClampNeg).2.2.1)) (va_cwS 2 hts (gxS gx57 gx58 gx0 gx59) rfl rfl rfl (by decide +kernel) ⟨(Nat.le_of_ble_eq_true rfl), (Nat.le_of_ble_eq_true rfl)⟩) ⟨bl0, fun U hU hW => ⟨rfl, trivial⟩⟩ rfl rfl hl.1 rfl (lv_room (Nat.le_of_ble_eq_true rfl)) d_M_within_85 ⟨Nat.zero_le _, Nat.zero_le _⟩) ?_
      refine wz_ne (tgt := 145) hx hb d_M_within_88 (by decide) (fun e2_145 => ?_) (fun e2_145 => ?_)
      · refine K145 c68 (hj.trans (by unfold f_M_within_68; first | with_reducible exact (if_pos e1_145).trans (if_pos e2_145) | exact (if_pos e1_145).trans (if_pos e2_145))) hf0 hf1 hf2 hf3 H locs ?_ ?_ hS ls (lv_sub hl [] rfl)
        · with_reducible exact hP
        · with_reducible exact hD
      · refine lv_aload_n hx hb d_M_within_91 rfl (lv_at hl 1 rfl) ?_
        refine va_get (D := (dC, dI)) (ci := 2) (v := .ref (ad 4)) (C := R_M) (T := F_M) (N := 10) hx hb hts (fun w h => List.mem_cons_of_mem _ (uw_M w h)) hown hK hP 0 rfl rfl 4 (by decide) (hG (.fieldLink R_M 19 "ValueSieveModel" "high" "[J") gx13) (fun _ h9 => h9) rfl d_M_within_92 ?_
        refine lv_iload_n hx hb d_M_within_95 rfl (lv_at hl 3 rfl) ?_
        refine top_i hf2 ?_
        refine ml_4 (P := p2.toNatClampNeg) hx hb hK hP rfl (Nat.lt_of_lt_of_le hf3 (by decide)) d_M_within_96 ?_
        refine lv_aload_n hx hb d_M_within_97 rfl (lv_at hl 1 rfl) ?_
        refine va_get (D := (dC, dI)) (ci := 2) (v := .ref (ad 4)) (C := R_M) (T := F_M) (N := 10) hx hb hts (fun w h => List.mem_cons_of_mem _ (uw_M w h)) hown hK hP 0 rfl rfl 4 (by decide) (hG (.fieldLink R_M 19 "ValueSieveModel" "high" "[J") gx13) (fun _ h9 => h9) rfl d_M_within_98 ?_
        refine lv_iload_n hx hb d_M_within_101 rfl (lv_at hl 2 rfl) ?_
        refine top_i hf0 ?_
        refine ml_4 (P := p1.toNatClampNeg) hx hb hK hP rfl (Nat.lt_of_lt_of_le hf1 (by decide)) d_M_within_102 ?_
        refine rc_i (W.runS (As := [.long ((r0 p2.toNatClampNeg).2.2.2.1), .long ((r0 p1.toNatClampNeg).2.2.2.1)]) (rest := []) ⟨hx, hb, hml, hown, hts⟩ (c_M_below l ((r0 p2.toNatClampNeg).2.2.2.1) ((r0 p1.toNatClampNeg).2.2.2.1)) (va_cwS 2 hts (gxS gx57 gx58 gx0 gx59) rfl rfl rfl (by decide +kernel) ⟨(Nat.le_of_ble_eq_true rfl), (Nat.le_of_ble_eq_true rfl)⟩) ⟨bl0, fun U hU hW => ⟨rfl, trivial⟩⟩ rfl rfl hl.1 rfl (lv_room (Nat.le_of_ble_eq_true rfl)) d_M_within_103 ⟨Nat.zero_le _, Nat.zero_le _⟩) ?_
        refine wz_ne (tgt := 145) hx hb d_M_within_106 (by decide) (fun e3_145 => ?_) (fun e3_145 => ?_)
        · refine K145 c68 (hj.trans (by unfold f_M_within_68; first | with_reducible exact (if_pos e1_145).trans ((if_neg e2_145).trans (if_pos e3_145)) | exact (if_pos e1_145).trans ((if_neg e2_145).trans (if_pos e3_145)))) hf0 hf1 hf2 hf3 H locs ?_ ?_ hS ls (lv_sub hl [] rfl)
          · with_reducible exact hP
          · with_reducible exact hD
        · refine lv_aload_n hx hb d_M_within_109 rfl (lv_at hl 1 rfl) ?_
          refine va_get (D := (dC, dI)) (ci := 2) (v := .ref (ad 5)) (C := R_M) (T := F_M) (N := 10) hx hb hts (fun w h => List.mem_cons_of_mem _ (uw_M w h)) hown hK hP 0 rfl rfl 5 (by decide) (hG (.fieldLink R_M 22 "ValueSieveModel" "least" "[J") gx14) (fun _ h9 => h9) rfl d_M_within_110 ?_
          refine lv_iload_n hx hb d_M_within_113 rfl (lv_at hl 2 rfl) ?_
          refine top_i hf0 ?_
          refine ml_5 (P := p1.toNatClampNeg) hx hb hK hP rfl (Nat.lt_of_lt_of_le hf1 (by decide)) d_M_within_114 ?_
          refine lv_aload_n hx hb d_M_within_115 rfl (lv_at hl 1 rfl) ?_
          refine va_get (D := (dC, dI)) (ci := 2) (v := .ref (ad 5)) (C := R_M) (T := F_M) (N := 10) hx hb hts (fun w h => List.mem_cons_of_mem _ (uw_M w h)) hown hK hP 0 rfl rfl 5 (by decide) (hG (.fieldLink R_M 22 "ValueSieveModel" "least" "[J") gx14) (fun _ h9 => h9) rfl d_M_within_116 ?_
          refine lv_iload_n hx hb d_M_within_119 rfl (lv_at hl 3 rfl) ?_
          refine top_i hf2 ?_
          refine ml_5 (P := p2.toNatClampNeg) hx hb hK hP rfl (Nat.lt_of_lt_of_le hf3 (by decide)) d_M_within_120 ?_
          refine wl_lt (tgt := 145) hx hb d_M_within_121 d_M_within_122 (by decide) (fun e4_145 => ?_) (fun e4_145 => ?_)
          · refine K145 c68 (hj.trans (by unfold f_M_within_68; first | with_reducible exact (if_pos e1_145).trans ((if_neg e2_145).trans ((if_neg e3_145).trans (if_pos e4_145))) | exact (if_pos e1_145).trans ((if_neg e2_145).trans ((if_neg e3_145).trans (if_pos e4_145))))) hf0 hf1 hf2 hf3 H locs ?_ ?_ hS ls (lv_sub hl [] rfl)
            · with_reducible exact hP
            · with_reducible exact hD
          · refine lv_aload_n hx hb d_M_within_125 rfl (lv_at hl 1 rfl) ?_
            refine va_get (D := (dC, dI)) (ci := 2) (v := .ref (ad 6)) (C := R_M) (T := F_M) (N := 10) hx hb hts (fun w h => List.mem_cons_of_mem _ (uw_M w h)) hown hK hP 0 rfl rfl 6 (by decide) (hG (.fieldLink R_M 25 "ValueSieveModel" "greatest" "[J") gx15) (fun _ h9 => h9) rfl d_M_within_126 ?_
            refine lv_iload_n hx hb d_M_within_129 rfl (lv_at hl 2 rfl) ?_
            refine top_i hf0 ?_
            refine ml_6 (P := p1.toNatClampNeg) hx hb hK hP rfl (Nat.lt_of_lt_of_le hf1 (by decide)) d_M_within_130 ?_
            refine lv_aload_n hx hb d_M_within_131 rfl (lv_at hl 1 rfl) ?_
            refine va_get (D := (dC, dI)) (ci := 2) (v := .ref (ad 6)) (C := R_M) (T := F_M) (N := 10) hx hb hts (fun w h => List.mem_cons_of_mem _ (uw_M w h)) hown hK hP 0 rfl rfl 6 (by decide) (hG (.fieldLink R_M 25 "ValueSieveModel" "greatest" "[J") gx15) (fun _ h9 => h9) rfl d_M_within_132 ?_
            refine lv_iload_n hx hb d_M_within_135 rfl (lv_at hl 3 rfl) ?_
            refine top_i hf2 ?_
            refine ml_6 (P := p2.toNatClampNeg) hx hb hK hP rfl (Nat.lt_of_lt_of_le hf3 (by decide)) d_M_within_136 ?_
            refine wl_gt (tgt := 145) hx hb d_M_within_137 d_M_within_138 (by decide) (fun e5_145 => ?_) (fun e5_145 => ?_)
            · refine K145 c68 (hj.trans (by unfold f_M_within_68; first | with_reducible exact (if_pos e1_145).trans ((if_neg e2_145).trans ((if_neg e3_145).trans ((if_neg e4_145).trans (if_pos e5_145)))) | exact (if_pos e1_145).trans ((if_neg e2_145).trans ((if_neg e3_145).trans ((if_neg e4_145).trans (if_pos e5_145)))))) hf0 hf1 hf2 hf3 H locs ?_ ?_ hS ls (lv_sub hl [] rfl)
              · with_reducible exact hP
              · with_reducible exact hD
            · refine lv_iconst (v := 1) hx hb d_M_within_141 (by decide) ?_
              refine lv_goto (tgt := 146) hx hb d_M_within_142 (by decide) ?_
              have fe : f_M_within r0 p1 p2 = (true, c68) := hj.trans (by unfold f_M_within_68; first | with_reducible exact (if_pos e1_145).trans ((if_neg e2_145).trans ((if_neg e3_145).trans ((if_neg e4_145).trans (if_neg e5_145)))) | exact (if_pos e1_145).trans ((if_neg e2_145).trans ((if_neg e3_145).trans ((if_neg e4_145).trans (if_neg e5_145)))))
              exact W.zret (v := bI true) hx hb hr (bI_n true) (fun t ht hW => ⟨⟨_, (), rfl, by rw [fe], by rw [ht, fe]; exact hP, by rw [fe]; exact hD⟩, hS.F ht⟩) hS.2.2 d_M_within_146
  have K67 : ∀ (c67 : Int32) (hj : f_M_within r0 p1 p2 = f_M_within_67 r0 p1 p2 c67) (hf0 : p1 = nI p1.toNatClampNeg) (hf1 : p1.toNatClampNeg < 16) (hf2 : p2 = nI p2.toNatClampNeg) (hf3 : p2.toNatClampNeg < 16) (H : Heap) (locs : List Loc) (hP : va_P (dC, dI) classes (mW ad cJ cZ c67 r0 w0 s0) H) (hD : va_D A (mW ad cJ cZ c67 r0 w0 s0)) (hS : va_S A s.heap H locs) (ls : Array Slot) (hl : lv_has ls 4 [(0, .ref (ad 0)), (1, .int (p1)), (2, .int (p2))]), W p l e (headSpec w_M_within ({ frames := 1, cells := 0, slots := 0, locals := 23 } : Room)).room s m ([.ref (ad 0), .int (p1), .int (p2)] : List Value).toArray below meth c H locs 0 0 (MQ below (va_Qi (fun r (_ : Unit) => r = bI (f_M_within r0 p1 p2).1) (mB (dC, dI) A (mW ad cJ cZ (f_M_within r0 p1 p2).2 r0 w0 s0)) A) ([.ref (ad 0), .int (p1), .int (p2)] : List Value).toArray s 0 0 A) (F0 m 67 ls []) := by
    intro c67 hj hf0 hf1 hf2 hf3 H locs hP hD hS ls hl
    refine lv_iconst (v := 0) hx hb d_M_within_67 (by decide) ?_
    refine K68 false c67 (hj.trans rfl) hf0 hf1 hf2 hf3 H locs ?_ ?_ hS ls (lv_sub hl [0, 1, 2] rfl)
    · with_reducible exact hP
    · with_reducible exact hD
  have K4g : ∀ (g4 : Bool × Int32) (hj : f_M_within r0 p1 p2 = f_M_within_4g r0 p1 p2 g4) (hf0 : npF g4.1 p1 p2 0) (H : Heap) (locs : List Loc) (hP : va_P (dC, dI) classes (mW ad cJ cZ g4.2 r0 w0 s0) H) (hD : va_D A (mW ad cJ cZ g4.2 r0 w0 s0)) (hS : va_S A s.heap H locs) (ls : Array Slot) (hl : lv_has ls 4 [(0, .ref (ad 0)), (1, .int (p1)), (2, .int (p2))]), W p l e (headSpec w_M_within ({ frames := 1, cells := 0, slots := 0, locals := 23 } : Room)).room s m ([.ref (ad 0), .int (p1), .int (p2)] : List Value).toArray below meth c H locs 0 0 (MQ below (va_Qi (fun r (_ : Unit) => r = bI (f_M_within r0 p1 p2).1) (mB (dC, dI) A (mW ad cJ cZ (f_M_within r0 p1 p2).2 r0 w0 s0)) A) ([.ref (ad 0), .int (p1), .int (p2)] : List Value).toArray s 0 0 A) (F0 m 7 ls [.int (bI g4.1)]) := by
    intro g4 hj hf0 H locs hP hD hS ls hl
    refine wz_eq (tgt := 12) hx hb d_M_within_7 (by decide) (fun e1_12 => ?_) (fun e1_12 => ?_)
    · obtain ⟨⟨i1, j1⟩, ⟨i2, j2⟩, ⟨i3, j3⟩⟩ := npF_of hf0 e1_12
      refine lv_aload_n hx hb d_M_within_12 rfl (lv_at hl 0 rfl) ?_
      refine va_get (D := (dC, dI)) (ci := 2) (v := .ref (ad 2)) (C := R_M) (T := F_M) (N := 10) hx hb hts (fun w h => List.mem_cons_of_mem _ (uw_M w h)) hown hK hP 0 rfl rfl 2 (by decide) (hG (.fieldLink R_M 13 "ValueSieveModel" "open" "[J") gx11) (fun _ h9 => h9) rfl d_M_within_13 ?_
      refine lv_iload_n hx hb d_M_within_16 rfl (lv_at hl 1 rfl) ?_
      refine top_i i1 ?_
      refine ml_2 (P := p1.toNatClampNeg) hx hb hK hP rfl (Nat.lt_of_lt_of_le j1 (by decide)) d_M_within_17 ?_
      refine lv_aload_n hx hb d_M_within_18 rfl (lv_at hl 0 rfl) ?_
      refine va_get (D := (dC, dI)) (ci := 2) (v := .ref (ad 2)) (C := R_M) (T := F_M) (N := 10) hx hb hts (fun w h => List.mem_cons_of_mem _ (uw_M w h)) hown hK hP 0 rfl rfl 2 (by decide) (hG (.fieldLink R_M 13 "ValueSieveModel" "open" "[J") gx11) (fun _ h9 => h9) rfl d_M_within_19 ?_
      refine lv_iload_n hx hb d_M_within_22 rfl (lv_at hl 2 rfl) ?_
      refine top_i i2 ?_
      refine ml_2 (P := p2.toNatClampNeg) hx hb hK hP rfl (Nat.lt_of_lt_of_le j2 (by decide)) d_M_within_23 ?_
      refine lv_ldc2 (v := -1) hx hb hown (hG (.constantLong R_M 49 (-1)) gx42) d_M_within_24 ?_
      refine lv_lxor hx hb d_M_within_27 ?_
      refine lv_land hx hb d_M_within_28 ?_
      refine lv_lconst (v := 0) hx hb d_M_within_29 (by decide) ?_
      refine wl_ne (tgt := 67) hx hb d_M_within_30 d_M_within_31 (by decide) (fun e2_67 => ?_) (fun e2_67 => ?_)
      · refine K67 g4.2 (hj.trans (by unfold f_M_within_4g; first | with_reducible exact (if_neg e1_12).trans (if_neg e2_67) | exact (if_neg e1_12).trans (if_neg e2_67))) i1 j1 i2 j2 H locs ?_ ?_ hS ls (lv_sub hl [0, 1, 2] rfl)
        · with_reducible exact hP
        · with_reducible exact hD
      · refine lv_aload_n hx hb d_M_within_34 rfl (lv_at hl 0 rfl) ?_
        refine va_get (D := (dC, dI)) (ci := 2) (v := .ref (ad 1)) (C := R_M) (T := F_M) (N := 10) hx hb hts (fun w h => List.mem_cons_of_mem _ (uw_M w h)) hown hK hP 0 rfl rfl 1 (by decide) (hG (.fieldLink R_M 7 "ValueSieveModel" "bits" "[J") gx10) (fun _ h9 => h9) rfl d_M_within_35 ?_
        refine lv_iload_n hx hb d_M_within_38 rfl (lv_at hl 1 rfl) ?_
        refine top_i i1 ?_
        refine ml_1 (P := p1.toNatClampNeg) hx hb hK hP rfl (Nat.lt_of_lt_of_le j1 (by decide)) d_M_within_39 ?_
        refine lv_aload_n hx hb d_M_within_40 rfl (lv_at hl 0 rfl) ?_
        refine va_get (D := (dC, dI)) (ci := 2) (v := .ref (ad 1)) (C := R_M) (T := F_M) (N := 10) hx hb hts (fun w h => List.mem_cons_of_mem _ (uw_M w h)) hown hK hP 0 rfl rfl 1 (by decide) (hG (.fieldLink R_M 7 "ValueSieveModel" "bits" "[J") gx10) (fun _ h9 => h9) rfl d_M_within_41 ?_
        refine lv_iload_n hx hb d_M_within_44 rfl (lv_at hl 2 rfl) ?_
        refine top_i i2 ?_
        refine ml_1 (P := p2.toNatClampNeg) hx hb hK hP rfl (Nat.lt_of_lt_of_le j2 (by decide)) d_M_within_45 ?_
        refine lv_lxor hx hb d_M_within_46 ?_
        refine lv_aload_n hx hb d_M_within_47 rfl (lv_at hl 0 rfl) ?_
        refine va_get (D := (dC, dI)) (ci := 2) (v := .ref (ad 2)) (C := R_M) (T := F_M) (N := 10) hx hb hts (fun w h => List.mem_cons_of_mem _ (uw_M w h)) hown hK hP 0 rfl rfl 2 (by decide) (hG (.fieldLink R_M 13 "ValueSieveModel" "open" "[J") gx11) (fun _ h9 => h9) rfl d_M_within_48 ?_
        refine lv_iload_n hx hb d_M_within_51 rfl (lv_at hl 2 rfl) ?_
        refine top_i i2 ?_
        refine ml_2 (P := p2.toNatClampNeg) hx hb hK hP rfl (Nat.lt_of_lt_of_le j2 (by decide)) d_M_within_52 ?_
        refine lv_ldc2 (v := -1) hx hb hown (hG (.constantLong R_M 49 (-1)) gx42) d_M_within_53 ?_
        refine lv_lxor hx hb d_M_within_56 ?_
        refine lv_land hx hb d_M_within_57 ?_
        refine lv_lconst (v := 0) hx hb d_M_within_58 (by decide) ?_
        refine wl_ne (tgt := 67) hx hb d_M_within_59 d_M_within_60 (by decide) (fun e3_67 => ?_) (fun e3_67 => ?_)
        · refine K67 g4.2 (hj.trans (by unfold f_M_within_4g; first | with_reducible exact (if_neg e1_12).trans ((if_pos e2_67).trans (if_neg e3_67)) | exact (if_neg e1_12).trans ((if_pos e2_67).trans (if_neg e3_67)))) i1 j1 i2 j2 H locs ?_ ?_ hS ls (lv_sub hl [0, 1, 2] rfl)
          · with_reducible exact hP
          · with_reducible exact hD
        · refine lv_iconst (v := 1) hx hb d_M_within_63 (by decide) ?_
          refine lv_goto (tgt := 68) hx hb d_M_within_64 (by decide) ?_
          refine K68 true g4.2 (hj.trans (by unfold f_M_within_4g; first | with_reducible exact (if_neg e1_12).trans ((if_pos e2_67).trans (if_pos e3_67)) | exact (if_neg e1_12).trans ((if_pos e2_67).trans (if_pos e3_67)))) i1 j1 i2 j2 H locs ?_ ?_ hS ls (lv_sub hl [0, 1, 2] rfl)
          · with_reducible exact hP
          · with_reducible exact hD
    · refine lv_iconst (v := 0) hx hb d_M_within_10 (by decide) ?_
      have fe : f_M_within r0 p1 p2 = (false, g4.2) := hj.trans (by unfold f_M_within_4g; first | with_reducible exact if_pos e1_12 | exact if_pos e1_12)
      exact W.zret (v := bI false) hx hb hr (bI_n false) (fun t ht hW => ⟨⟨_, (), rfl, by rw [fe], by rw [ht, fe]; exact hP, by rw [fe]; exact hD⟩, hS.F ht⟩) hS.2.2 d_M_within_11
  refine lv_aload_n hx hb d_M_within_0 rfl (lv_at hl 0 rfl) ?_
  refine lv_iload_n hx hb d_M_within_1 rfl (lv_at hl 1 rfl) ?_
  refine lv_iload_n hx hb d_M_within_2 rfl (lv_at hl 2 rfl) ?_
  refine lv_iconst (v := 0) hx hb d_M_within_3 (by decide) ?_
  refine mm_z (F := f_M_noPlace p1 p2 0) (w1 := fun g4 => (mW ad cJ cZ g4.2 r0 w0 s0)) (va_runV (As := [.int (p1), .int (p2), .int (0)]) (rest := []) ⟨hx, hb, hml, hown, hts⟩ (c_M_noPlace l dC dI ad cJ cZ s.heap.size c0 r0 w0 s0 p1 p2 0) (cwV 3 hts (gxV gx36 gx37 gx276 gx0 gx38) rfl rfl rfl (by decide +kernel) ⟨(Nat.le_of_ble_eq_true rfl), (Nat.le_of_ble_eq_true rfl)⟩) ⟨blp, va_recv hK hP (ci := 2) (q0 := 0) rfl rfl, fun U hU hW => ⟨rfl, by rw [hU], by rw [hU]; exact hP, va_K.moved hW.alike hK, hD.weaken (fun _ _ _ _ => trivial)⟩⟩ rfl rfl hl.1 rfl (lv_room (Nat.le_of_ble_eq_true rfl)) d_M_within_4 ⟨Nat.zero_le _, Nat.zero_le _⟩) hD hS hA (fun g4 eg4 H locs hP hD hS => ?_)
  have hpg4 := np_ok eg4
  refine K4g g4 (Eq.trans (rfl) (congrArg (fun g4 => f_M_within_4g r0 p1 p2 g4) eg4)) hpg4 H locs ?_ ?_ hS ls (lv_sub hl [0, 1, 2] rfl)
  · with_reducible exact hP
  · with_reducible exact hD
-- has
theorem d_M_has0_0 : decode b_M_has0 0 = .ok (.aload_n 0, 1) := by decide +kernel
theorem d_M_has0_1 : decode b_M_has0 1 = .ok (.iload_n 1, 1) := by decide +kernel
theorem d_M_has0_2 : decode b_M_has0 2 = .ok (.iconst 0, 1) := by decide +kernel
theorem d_M_has0_3 : decode b_M_has0 3 = .ok (.iconst 0, 1) := by decide +kernel
theorem d_M_has0_4 : decode b_M_has0 4 = .ok (.invokevirtual 98, 3) := by decide +kernel
theorem d_M_has0_7 : decode b_M_has0 7 = .ok (.ifCond .ne 16, 3) := by decide +kernel
theorem d_M_has0_10 : decode b_M_has0 10 = .ok (.aload_n 0, 1) := by decide +kernel
theorem d_M_has0_11 : decode b_M_has0 11 = .ok (.iload_n 1, 1) := by decide +kernel
theorem d_M_has0_12 : decode b_M_has0 12 = .ok (.lload_n 2, 1) := by decide +kernel
theorem d_M_has0_13 : decode b_M_has0 13 = .ok (.invokevirtual 83, 3) := by decide +kernel
theorem d_M_has0_16 : decode b_M_has0 16 = .ok (.ifCond .eq 7, 3) := by decide +kernel
theorem d_M_has0_19 : decode b_M_has0 19 = .ok (.iconst 1, 1) := by decide +kernel
theorem d_M_has0_20 : decode b_M_has0 20 = .ok (.goto 4, 3) := by decide +kernel
theorem d_M_has0_23 : decode b_M_has0 23 = .ok (.iconst 0, 1) := by decide +kernel
theorem d_M_has0_24 : decode b_M_has0 24 = .ok (.ireturn, 1) := by decide +kernel
def f_M_has0_23 (r0 : (Nat → VV)) (p1 : Int32) (p2 : Int64) (c23 : Int32) : Bool × Int32 := (false, c23)
def f_M_has0_4g (r0 : (Nat → VV)) (p1 : Int32) (p2 : Int64) (g4 : Bool × Int32) : Bool × Int32 := (if g4.1 = true then f_M_has0_23 r0 p1 p2 g4.2 else (if (f_M_isNumber r0 p1.toNatClampNeg p2) = true then (true, g4.2) else f_M_has0_23 r0 p1 p2 g4.2))
def f_M_has0 (r0 : (Nat → VV)) (p1 : Int32) (p2 : Int64) : Bool × Int32 := f_M_has0_4g r0 p1 p2 (f_M_noPlace p1 0 0)
set_option maxRecDepth 100000 in
set_option maxHeartbeats 4000000 in
theorem c_M_has0 (l : Launch) (dC : Nat → ClassId) (dI : Nat → Nat → Nat) (ad : Nat → Nat) (cJ cZ : ClassId) (sz : Nat) (c0 : Int32) (r0 : (Nat → VV)) (w0 : (Nat → Int64)) (s0 : Int32) (p1 : Int32) (p2 : Int64) : Met l y_M_has0 w_M_has0 ({ frames := 2, cells := 0, slots := 0, locals := 46 } : Room) (va_Pc [.ref (ad 0), .int (p1), .long (p2)] (nP (dC, dI) (mT cJ cZ) (mW ad cJ cZ c0 r0 w0 s0) sz)) (va_Qi (fun r (_ : Unit) => r = bI (f_M_has0 r0 p1 p2).1) (mB (dC, dI) (va_A (mW ad cJ cZ c0 r0 w0 s0) sz) (mW ad cJ cZ (f_M_has0 r0 p1 p2).2 r0 w0 s0)) (va_A (mW ad cJ cZ c0 r0 w0 s0) sz)) 0 0 (va_A (mW ad cJ cZ c0 r0 w0 s0) sz) := by
  refine Met.ofW (cc := b_M_has0) (maxL := 4) (ret := (some .boolean)) (by decide) rfl ?_
  intro p e s m args below meth c s₁ B hml hv
  obtain ⟨rfl, hsz, hP, hK, hD0⟩ := hv
  have hx := B.exec
  have hb := B.bytes
  have hr := B.returns
  have hts := atoms_spec (ws := w_M_has0) B.pre
  have hG : ∀ w ∈ gM, w.before _ s = true := fun w h => hts w (List.mem_cons_of_mem _ h)
  have hown : s.vm.findClass R_M = some m.cls := findClass_of_methodNamed B.named
  have hlocks := B.notSynchronized
  subst hsz
  have hD := hD0.self (sz := s.heap.size)
  generalize hAe : va_A (mW ad cJ cZ c0 r0 w0 s0) s.heap.size = A at hD ⊢
  have hA : ∀ q : Nat, s.heap.size ≤ q → A q := fun q h => by rw [← hAe]; exact Or.inr h
  have hS : va_S A s.heap s.heap [] := va_S.rf
  have hl := lv_entry ([.ref (ad 0), .int (p1), .long (p2)]) (n := 4) (Nat.le_of_ble_eq_true rfl)
  rw [lg_entry_eq]
  generalize (lg_sl ([.ref (ad 0), .int (p1), .long (p2)]) ++ List.replicate (4 - (lg_sl ([.ref (ad 0), .int (p1), .long (p2)])).length) Slot.unset).toArray = ls at hl ⊢
  have hl : lv_has ls 4 [(0, .ref (ad 0)), (1, .int (p1)), (2, .long (p2))] := hl
  have K23 : ∀ (c23 : Int32) (hj : f_M_has0 r0 p1 p2 = f_M_has0_23 r0 p1 p2 c23) (H : Heap) (locs : List Loc) (hP : va_P (dC, dI) classes (mW ad cJ cZ c23 r0 w0 s0) H) (hD : va_D A (mW ad cJ cZ c23 r0 w0 s0)) (hS : va_S A s.heap H locs) (ls : Array Slot) (hl : lv_has ls 4 []), W p l e (headSpec w_M_has0 ({ frames := 2, cells := 0, slots := 0, locals := 46 } : Room)).room s m ([.ref (ad 0), .int (p1), .long (p2)] : List Value).toArray below meth c H locs 0 0 (MQ below (va_Qi (fun r (_ : Unit) => r = bI (f_M_has0 r0 p1 p2).1) (mB (dC, dI) A (mW ad cJ cZ (f_M_has0 r0 p1 p2).2 r0 w0 s0)) A) ([.ref (ad 0), .int (p1), .long (p2)] : List Value).toArray s 0 0 A) (F0 m 23 ls []) := by
    intro c23 hj H locs hP hD hS ls hl
    refine lv_iconst (v := 0) hx hb d_M_has0_23 (by decide) ?_
    have fe : f_M_has0 r0 p1 p2 = (false, c23) := hj.trans rfl
    exact W.zret (v := bI false) hx hb hr (bI_n false) (fun t ht hW => ⟨⟨_, (), rfl, by rw [fe], by rw [ht, fe]; exact hP, by rw [fe]; exact hD⟩, hS.F ht⟩) hS.2.2 d_M_has0_24
  have K4g : ∀ (g4 : Bool × Int32) (hj : f_M_has0 r0 p1 p2 = f_M_has0_4g r0 p1 p2 g4) (hf0 : npF g4.1 p1 0 0) (H : Heap) (locs : List Loc) (hP : va_P (dC, dI) classes (mW ad cJ cZ g4.2 r0 w0 s0) H) (hD : va_D A (mW ad cJ cZ g4.2 r0 w0 s0)) (hS : va_S A s.heap H locs) (ls : Array Slot) (hl : lv_has ls 4 [(0, .ref (ad 0)), (1, .int (p1)), (2, .long (p2))]), W p l e (headSpec w_M_has0 ({ frames := 2, cells := 0, slots := 0, locals := 46 } : Room)).room s m ([.ref (ad 0), .int (p1), .long (p2)] : List Value).toArray below meth c H locs 0 0 (MQ below (va_Qi (fun r (_ : Unit) => r = bI (f_M_has0 r0 p1 p2).1) (mB (dC, dI) A (mW ad cJ cZ (f_M_has0 r0 p1 p2).2 r0 w0 s0)) A) ([.ref (ad 0), .int (p1), .long (p2)] : List Value).toArray s 0 0 A) (F0 m 7 ls [.int (bI g4.1)]) := by
    intro g4 hj hf0 H locs hP hD hS ls hl
    refine wz_ne (tgt := 23) hx hb d_M_has0_7 (by decide) (fun e1_23 => ?_) (fun e1_23 => ?_)
    · refine K23 g4.2 (hj.trans (by unfold f_M_has0_4g; first | with_reducible exact if_pos e1_23 | exact if_pos e1_23)) H locs ?_ ?_ hS ls (lv_sub hl [] rfl)
      · with_reducible exact hP
      · with_reducible exact hD
    · obtain ⟨⟨i1, j1⟩, ⟨i2, j2⟩, ⟨i3, j3⟩⟩ := npF_of hf0 e1_23
      refine lv_aload_n hx hb d_M_has0_10 rfl (lv_at hl 0 rfl) ?_
      refine lv_iload_n hx hb d_M_has0_11 rfl (lv_at hl 1 rfl) ?_
      refine top_i i1 ?_
      refine lv_lload_n hx hb d_M_has0_12 rfl (lv_at hl 2 rfl) ?_
      refine rc_i (W.runV (As := [.int (nI p1.toNatClampNeg), .long (p2)]) (rest := []) ⟨hx, hb, hml, hown, hts⟩ (c_M_isNumber l dC dI ad cJ cZ g4.2 r0 w0 s0 p1.toNatClampNeg p2 (Nat.lt_of_lt_of_le j1 (by decide))) (cwV 2 hts (gxV gx54 gx55 gx269 gx0 gx56) rfl rfl rfl (by decide +kernel) ⟨(Nat.le_of_ble_eq_true rfl), (Nat.le_of_ble_eq_true rfl)⟩) ⟨bln, va_recv hK hP (ci := 2) (q0 := 0) rfl rfl, fun U hU hW => ⟨rfl, by rw [hU]; exact hP, va_K.moved hW.alike hK⟩⟩ rfl rfl hl.1 rfl (lv_room (Nat.le_of_ble_eq_true rfl)) d_M_has0_13 ⟨Nat.zero_le _, Nat.zero_le _⟩) ?_
      refine wz_eq (tgt := 23) hx hb d_M_has0_16 (by decide) (fun e2_23 => ?_) (fun e2_23 => ?_)
      · refine K23 g4.2 (hj.trans (by unfold f_M_has0_4g; first | with_reducible exact (if_neg e1_23).trans (if_neg e2_23) | exact (if_neg e1_23).trans (if_neg e2_23))) H locs ?_ ?_ hS ls (lv_sub hl [] rfl)
        · with_reducible exact hP
        · with_reducible exact hD
      · refine lv_iconst (v := 1) hx hb d_M_has0_19 (by decide) ?_
        refine lv_goto (tgt := 24) hx hb d_M_has0_20 (by decide) ?_
        have fe : f_M_has0 r0 p1 p2 = (true, g4.2) := hj.trans (by unfold f_M_has0_4g; first | with_reducible exact (if_neg e1_23).trans (if_pos e2_23) | exact (if_neg e1_23).trans (if_pos e2_23))
        exact W.zret (v := bI true) hx hb hr (bI_n true) (fun t ht hW => ⟨⟨_, (), rfl, by rw [fe], by rw [ht, fe]; exact hP, by rw [fe]; exact hD⟩, hS.F ht⟩) hS.2.2 d_M_has0_24
  refine lv_aload_n hx hb d_M_has0_0 rfl (lv_at hl 0 rfl) ?_
  refine lv_iload_n hx hb d_M_has0_1 rfl (lv_at hl 1 rfl) ?_
  refine lv_iconst (v := 0) hx hb d_M_has0_2 (by decide) ?_
  refine lv_iconst (v := 0) hx hb d_M_has0_3 (by decide) ?_
  refine mm_z (F := f_M_noPlace p1 0 0) (w1 := fun g4 => (mW ad cJ cZ g4.2 r0 w0 s0)) (va_runV (As := [.int (p1), .int (0), .int (0)]) (rest := []) ⟨hx, hb, hml, hown, hts⟩ (c_M_noPlace l dC dI ad cJ cZ s.heap.size c0 r0 w0 s0 p1 0 0) (cwV 3 hts (gxV gx36 gx37 gx276 gx0 gx38) rfl rfl rfl (by decide +kernel) ⟨(Nat.le_of_ble_eq_true rfl), (Nat.le_of_ble_eq_true rfl)⟩) ⟨blp, va_recv hK hP (ci := 2) (q0 := 0) rfl rfl, fun U hU hW => ⟨rfl, by rw [hU], by rw [hU]; exact hP, va_K.moved hW.alike hK, hD.weaken (fun _ _ _ _ => trivial)⟩⟩ rfl rfl hl.1 rfl (lv_room (Nat.le_of_ble_eq_true rfl)) d_M_has0_4 ⟨Nat.zero_le _, Nat.zero_le _⟩) hD hS hA (fun g4 eg4 H locs hP hD hS => ?_)
  have hpg4 := np_ok eg4
  refine K4g g4 (Eq.trans (rfl) (congrArg (fun g4 => f_M_has0_4g r0 p1 p2 g4) eg4)) hpg4 H locs ?_ ?_ hS ls (lv_sub hl [0, 1, 2] rfl)
  · with_reducible exact hP
  · with_reducible exact hD
-- least
theorem d_M_least_0 : decode b_M_least 0 = .ok (.aload_n 0, 1) := by decide +kernel
theorem d_M_least_1 : decode b_M_least 1 = .ok (.iload_n 1, 1) := by decide +kernel
theorem d_M_least_2 : decode b_M_least 2 = .ok (.iconst 0, 1) := by decide +kernel
theorem d_M_least_3 : decode b_M_least 3 = .ok (.iconst 0, 1) := by decide +kernel
theorem d_M_least_4 : decode b_M_least 4 = .ok (.invokevirtual 98, 3) := by decide +kernel
theorem d_M_least_7 : decode b_M_least 7 = .ok (.ifCond .eq 7, 3) := by decide +kernel
theorem d_M_least_10 : decode b_M_least 10 = .ok (.lconst 0, 1) := by decide +kernel
theorem d_M_least_11 : decode b_M_least 11 = .ok (.goto 22, 3) := by decide +kernel
theorem d_M_least_14 : decode b_M_least 14 = .ok (.iload_n 2, 1) := by decide +kernel
theorem d_M_least_15 : decode b_M_least 15 = .ok (.ifCond .eq 12, 3) := by decide +kernel
theorem d_M_least_18 : decode b_M_least 18 = .ok (.aload_n 0, 1) := by decide +kernel
theorem d_M_least_19 : decode b_M_least 19 = .ok (.getfield 16, 3) := by decide +kernel
theorem d_M_least_22 : decode b_M_least 22 = .ok (.iload_n 1, 1) := by decide +kernel
theorem d_M_least_23 : decode b_M_least 23 = .ok (.laload, 1) := by decide +kernel
theorem d_M_least_24 : decode b_M_least 24 = .ok (.goto 9, 3) := by decide +kernel
theorem d_M_least_27 : decode b_M_least 27 = .ok (.aload_n 0, 1) := by decide +kernel
theorem d_M_least_28 : decode b_M_least 28 = .ok (.getfield 22, 3) := by decide +kernel
theorem d_M_least_31 : decode b_M_least 31 = .ok (.iload_n 1, 1) := by decide +kernel
theorem d_M_least_32 : decode b_M_least 32 = .ok (.laload, 1) := by decide +kernel
theorem d_M_least_33 : decode b_M_least 33 = .ok (.lreturn, 1) := by decide +kernel
def f_M_least_4g (r0 : (Nat → VV)) (p1 : Int32) (p2 : Bool) (g4 : Bool × Int32) : Int64 × Int32 := (if g4.1 = true then (0, g4.2) else (if p2 = true then ((r0 p1.toNatClampNeg).2.2.1, g4.2) else ((r0 p1.toNatClampNeg).2.2.2.2.1, g4.2)))
def f_M_least (r0 : (Nat → VV)) (p1 : Int32) (p2 : Bool) : Int64 × Int32 := f_M_least_4g r0 p1 p2 (f_M_noPlace p1 0 0)
set_option maxRecDepth 100000 in
set_option maxHeartbeats 4000000 in
theorem c_M_least (l : Launch) (dC : Nat → ClassId) (dI : Nat → Nat → Nat) (ad : Nat → Nat) (cJ cZ : ClassId) (sz : Nat) (c0 : Int32) (r0 : (Nat → VV)) (w0 : (Nat → Int64)) (s0 : Int32) (p1 : Int32) (p2 : Bool) : Met l y_M_least w_M_least ({ frames := 1, cells := 0, slots := 0, locals := 23 } : Room) (va_Pc [.ref (ad 0), .int (p1), .int (bI p2)] (nP (dC, dI) (mT cJ cZ) (mW ad cJ cZ c0 r0 w0 s0) sz)) (va_Ql (fun r (_ : Unit) => r = (f_M_least r0 p1 p2).1) (mB (dC, dI) (va_A (mW ad cJ cZ c0 r0 w0 s0) sz) (mW ad cJ cZ (f_M_least r0 p1 p2).2 r0 w0 s0)) (va_A (mW ad cJ cZ c0 r0 w0 s0) sz)) 0 0 (va_A (mW ad cJ cZ c0 r0 w0 s0) sz) := by
  refine Met.ofW (cc := b_M_least) (maxL := 3) (ret := (some .long)) (by decide) rfl ?_
  intro p e s m args below meth c s₁ B hml hv
  obtain ⟨rfl, hsz, hP, hK, hD0⟩ := hv
  have hx := B.exec
  have hb := B.bytes
  have hr := B.returns
  have hts := atoms_spec (ws := w_M_least) B.pre
  have hG : ∀ w ∈ gM, w.before _ s = true := fun w h => hts w (List.mem_cons_of_mem _ h)
  have hown : s.vm.findClass R_M = some m.cls := findClass_of_methodNamed B.named
  have hlocks := B.notSynchronized
  subst hsz
  have hD := hD0.self (sz := s.heap.size)
  generalize hAe : va_A (mW ad cJ cZ c0 r0 w0 s0) s.heap.size = A at hD ⊢
  have hA : ∀ q : Nat, s.heap.size ≤ q → A q := fun q h => by rw [← hAe]; exact Or.inr h
  have hS : va_S A s.heap s.heap [] := va_S.rf
  have hl := lv_entry ([.ref (ad 0), .int (p1), .int (bI p2)]) (n := 3) (Nat.le_of_ble_eq_true rfl)
  rw [lg_entry_eq]
  generalize (lg_sl ([.ref (ad 0), .int (p1), .int (bI p2)]) ++ List.replicate (3 - (lg_sl ([.ref (ad 0), .int (p1), .int (bI p2)])).length) Slot.unset).toArray = ls at hl ⊢
  have hl : lv_has ls 3 [(0, .ref (ad 0)), (1, .int (p1)), (2, .int (bI p2))] := hl
  have K4g : ∀ (g4 : Bool × Int32) (hj : f_M_least r0 p1 p2 = f_M_least_4g r0 p1 p2 g4) (hf0 : npF g4.1 p1 0 0) (H : Heap) (locs : List Loc) (hP : va_P (dC, dI) classes (mW ad cJ cZ g4.2 r0 w0 s0) H) (hD : va_D A (mW ad cJ cZ g4.2 r0 w0 s0)) (hS : va_S A s.heap H locs) (ls : Array Slot) (hl : lv_has ls 3 [(0, .ref (ad 0)), (1, .int (p1)), (2, .int (bI p2))]), W p l e (headSpec w_M_least ({ frames := 1, cells := 0, slots := 0, locals := 23 } : Room)).room s m ([.ref (ad 0), .int (p1), .int (bI p2)] : List Value).toArray below meth c H locs 0 0 (MQ below (va_Ql (fun r (_ : Unit) => r = (f_M_least r0 p1 p2).1) (mB (dC, dI) A (mW ad cJ cZ (f_M_least r0 p1 p2).2 r0 w0 s0)) A) ([.ref (ad 0), .int (p1), .int (bI p2)] : List Value).toArray s 0 0 A) (F0 m 7 ls [.int (bI g4.1)]) := by
    intro g4 hj hf0 H locs hP hD hS ls hl
    refine wz_eq (tgt := 14) hx hb d_M_least_7 (by decide) (fun e1_14 => ?_) (fun e1_14 => ?_)
    · obtain ⟨⟨i1, j1⟩, ⟨i2, j2⟩, ⟨i3, j3⟩⟩ := npF_of hf0 e1_14
      refine lv_iload_n hx hb d_M_least_14 rfl (lv_at hl 2 rfl) ?_
      refine wz_eq (tgt := 27) hx hb d_M_least_15 (by decide) (fun e2_27 => ?_) (fun e2_27 => ?_)
      · refine lv_aload_n hx hb d_M_least_27 rfl (lv_at hl 0 rfl) ?_
        refine va_get (D := (dC, dI)) (ci := 2) (v := .ref (ad 5)) (C := R_M) (T := F_M) (N := 10) hx hb hts (fun w h => List.mem_cons_of_mem _ (uw_M w h)) hown hK hP 0 rfl rfl 5 (by decide) (hG (.fieldLink R_M 22 "ValueSieveModel" "least" "[J") gx14) (fun _ h9 => h9) rfl d_M_least_28 ?_
        refine lv_iload_n hx hb d_M_least_31 rfl (lv_at hl 1 rfl) ?_
        refine top_i i1 ?_
        refine ml_5 (P := p1.toNatClampNeg) hx hb hK hP rfl (Nat.lt_of_lt_of_le j1 (by decide)) d_M_least_32 ?_
        have fe : f_M_least r0 p1 p2 = ((r0 p1.toNatClampNeg).2.2.2.2.1, g4.2) := hj.trans (by unfold f_M_least_4g; first | with_reducible exact (if_neg e1_14).trans (if_neg e2_27) | exact (if_neg e1_14).trans (if_neg e2_27))
        exact W.lret (v := (r0 p1.toNatClampNeg).2.2.2.2.1) hx hb hr (fun t ht hW => ⟨⟨_, (), rfl, by rw [fe], by rw [ht, fe]; exact hP, by rw [fe]; exact hD⟩, hS.F ht⟩) hS.2.2 d_M_least_33
      · refine lv_aload_n hx hb d_M_least_18 rfl (lv_at hl 0 rfl) ?_
        refine va_get (D := (dC, dI)) (ci := 2) (v := .ref (ad 3)) (C := R_M) (T := F_M) (N := 10) hx hb hts (fun w h => List.mem_cons_of_mem _ (uw_M w h)) hown hK hP 0 rfl rfl 3 (by decide) (hG (.fieldLink R_M 16 "ValueSieveModel" "low" "[J") gx12) (fun _ h9 => h9) rfl d_M_least_19 ?_
        refine lv_iload_n hx hb d_M_least_22 rfl (lv_at hl 1 rfl) ?_
        refine top_i i1 ?_
        refine ml_3 (P := p1.toNatClampNeg) hx hb hK hP rfl (Nat.lt_of_lt_of_le j1 (by decide)) d_M_least_23 ?_
        refine lv_goto (tgt := 33) hx hb d_M_least_24 (by decide) ?_
        have fe : f_M_least r0 p1 p2 = ((r0 p1.toNatClampNeg).2.2.1, g4.2) := hj.trans (by unfold f_M_least_4g; first | with_reducible exact (if_neg e1_14).trans (if_pos e2_27) | exact (if_neg e1_14).trans (if_pos e2_27))
        exact W.lret (v := (r0 p1.toNatClampNeg).2.2.1) hx hb hr (fun t ht hW => ⟨⟨_, (), rfl, by rw [fe], by rw [ht, fe]; exact hP, by rw [fe]; exact hD⟩, hS.F ht⟩) hS.2.2 d_M_least_33
    · refine lv_lconst (v := 0) hx hb d_M_least_10 (by decide) ?_
      refine lv_goto (tgt := 33) hx hb d_M_least_11 (by decide) ?_
      have fe : f_M_least r0 p1 p2 = (0, g4.2) := hj.trans (by unfold f_M_least_4g; first | with_reducible exact if_pos e1_14 | exact if_pos e1_14)
      exact W.lret (v := 0) hx hb hr (fun t ht hW => ⟨⟨_, (), rfl, by rw [fe], by rw [ht, fe]; exact hP, by rw [fe]; exact hD⟩, hS.F ht⟩) hS.2.2 d_M_least_33
  refine lv_aload_n hx hb d_M_least_0 rfl (lv_at hl 0 rfl) ?_
  refine lv_iload_n hx hb d_M_least_1 rfl (lv_at hl 1 rfl) ?_
  refine lv_iconst (v := 0) hx hb d_M_least_2 (by decide) ?_
  refine lv_iconst (v := 0) hx hb d_M_least_3 (by decide) ?_
  refine mm_z (F := f_M_noPlace p1 0 0) (w1 := fun g4 => (mW ad cJ cZ g4.2 r0 w0 s0)) (va_runV (As := [.int (p1), .int (0), .int (0)]) (rest := []) ⟨hx, hb, hml, hown, hts⟩ (c_M_noPlace l dC dI ad cJ cZ s.heap.size c0 r0 w0 s0 p1 0 0) (cwV 3 hts (gxV gx36 gx37 gx276 gx0 gx38) rfl rfl rfl (by decide +kernel) ⟨(Nat.le_of_ble_eq_true rfl), (Nat.le_of_ble_eq_true rfl)⟩) ⟨blp, va_recv hK hP (ci := 2) (q0 := 0) rfl rfl, fun U hU hW => ⟨rfl, by rw [hU], by rw [hU]; exact hP, va_K.moved hW.alike hK, hD.weaken (fun _ _ _ _ => trivial)⟩⟩ rfl rfl hl.1 rfl (lv_room (Nat.le_of_ble_eq_true rfl)) d_M_least_4 ⟨Nat.zero_le _, Nat.zero_le _⟩) hD hS hA (fun g4 eg4 H locs hP hD hS => ?_)
  have hpg4 := np_ok eg4
  refine K4g g4 (Eq.trans (rfl) (congrArg (fun g4 => f_M_least_4g r0 p1 p2 g4) eg4)) hpg4 H locs ?_ ?_ hS ls (lv_sub hl [0, 1, 2] rfl)
  · with_reducible exact hP
  · with_reducible exact hD
-- greatest
theorem d_M_greatest_0 : decode b_M_greatest 0 = .ok (.aload_n 0, 1) := by decide +kernel
theorem d_M_greatest_1 : decode b_M_greatest 1 = .ok (.iload_n 1, 1) := by decide +kernel
theorem d_M_greatest_2 : decode b_M_greatest 2 = .ok (.iconst 0, 1) := by decide +kernel
theorem d_M_greatest_3 : decode b_M_greatest 3 = .ok (.iconst 0, 1) := by decide +kernel
theorem d_M_greatest_4 : decode b_M_greatest 4 = .ok (.invokevirtual 98, 3) := by decide +kernel
theorem d_M_greatest_7 : decode b_M_greatest 7 = .ok (.ifCond .eq 7, 3) := by decide +kernel
theorem d_M_greatest_10 : decode b_M_greatest 10 = .ok (.lconst 0, 1) := by decide +kernel
theorem d_M_greatest_11 : decode b_M_greatest 11 = .ok (.goto 22, 3) := by decide +kernel
theorem d_M_greatest_14 : decode b_M_greatest 14 = .ok (.iload_n 2, 1) := by decide +kernel
theorem d_M_greatest_15 : decode b_M_greatest 15 = .ok (.ifCond .eq 12, 3) := by decide +kernel
theorem d_M_greatest_18 : decode b_M_greatest 18 = .ok (.aload_n 0, 1) := by decide +kernel
theorem d_M_greatest_19 : decode b_M_greatest 19 = .ok (.getfield 19, 3) := by decide +kernel
theorem d_M_greatest_22 : decode b_M_greatest 22 = .ok (.iload_n 1, 1) := by decide +kernel
theorem d_M_greatest_23 : decode b_M_greatest 23 = .ok (.laload, 1) := by decide +kernel
theorem d_M_greatest_24 : decode b_M_greatest 24 = .ok (.goto 9, 3) := by decide +kernel
theorem d_M_greatest_27 : decode b_M_greatest 27 = .ok (.aload_n 0, 1) := by decide +kernel
theorem d_M_greatest_28 : decode b_M_greatest 28 = .ok (.getfield 25, 3) := by decide +kernel
theorem d_M_greatest_31 : decode b_M_greatest 31 = .ok (.iload_n 1, 1) := by decide +kernel
theorem d_M_greatest_32 : decode b_M_greatest 32 = .ok (.laload, 1) := by decide +kernel
theorem d_M_greatest_33 : decode b_M_greatest 33 = .ok (.lreturn, 1) := by decide +kernel
def f_M_greatest_4g (r0 : (Nat → VV)) (p1 : Int32) (p2 : Bool) (g4 : Bool × Int32) : Int64 × Int32 := (if g4.1 = true then (0, g4.2) else (if p2 = true then ((r0 p1.toNatClampNeg).2.2.2.1, g4.2) else ((r0 p1.toNatClampNeg).2.2.2.2.2.1, g4.2)))
def f_M_greatest (r0 : (Nat → VV)) (p1 : Int32) (p2 : Bool) : Int64 × Int32 := f_M_greatest_4g r0 p1 p2 (f_M_noPlace p1 0 0)
set_option maxRecDepth 100000 in
set_option maxHeartbeats 4000000 in
theorem c_M_greatest (l : Launch) (dC : Nat → ClassId) (dI : Nat → Nat → Nat) (ad : Nat → Nat) (cJ cZ : ClassId) (sz : Nat) (c0 : Int32) (r0 : (Nat → VV)) (w0 : (Nat → Int64)) (s0 : Int32) (p1 : Int32) (p2 : Bool) : Met l y_M_greatest w_M_greatest ({ frames := 1, cells := 0, slots := 0, locals := 23 } : Room) (va_Pc [.ref (ad 0), .int (p1), .int (bI p2)] (nP (dC, dI) (mT cJ cZ) (mW ad cJ cZ c0 r0 w0 s0) sz)) (va_Ql (fun r (_ : Unit) => r = (f_M_greatest r0 p1 p2).1) (mB (dC, dI) (va_A (mW ad cJ cZ c0 r0 w0 s0) sz) (mW ad cJ cZ (f_M_greatest r0 p1 p2).2 r0 w0 s0)) (va_A (mW ad cJ cZ c0 r0 w0 s0) sz)) 0 0 (va_A (mW ad cJ cZ c0 r0 w0 s0) sz) := by
  refine Met.ofW (cc := b_M_greatest) (maxL := 3) (ret := (some .long)) (by decide) rfl ?_
  intro p e s m args below meth c s₁ B hml hv
  obtain ⟨rfl, hsz, hP, hK, hD0⟩ := hv
  have hx := B.exec
  have hb := B.bytes
  have hr := B.returns
  have hts := atoms_spec (ws := w_M_greatest) B.pre
  have hG : ∀ w ∈ gM, w.before _ s = true := fun w h => hts w (List.mem_cons_of_mem _ h)
  have hown : s.vm.findClass R_M = some m.cls := findClass_of_methodNamed B.named
  have hlocks := B.notSynchronized
  subst hsz
  have hD := hD0.self (sz := s.heap.size)
  generalize hAe : va_A (mW ad cJ cZ c0 r0 w0 s0) s.heap.size = A at hD ⊢
  have hA : ∀ q : Nat, s.heap.size ≤ q → A q := fun q h => by rw [← hAe]; exact Or.inr h
  have hS : va_S A s.heap s.heap [] := va_S.rf
  have hl := lv_entry ([.ref (ad 0), .int (p1), .int (bI p2)]) (n := 3) (Nat.le_of_ble_eq_true rfl)
  rw [lg_entry_eq]
  generalize (lg_sl ([.ref (ad 0), .int (p1), .int (bI p2)]) ++ List.replicate (3 - (lg_sl ([.ref (ad 0), .int (p1), .int (bI p2)])).length) Slot.unset).toArray = ls at hl ⊢
  have hl : lv_has ls 3 [(0, .ref (ad 0)), (1, .int (p1)), (2, .int (bI p2))] := hl
  have K4g : ∀ (g4 : Bool × Int32) (hj : f_M_greatest r0 p1 p2 = f_M_greatest_4g r0 p1 p2 g4) (hf0 : npF g4.1 p1 0 0) (H : Heap) (locs : List Loc) (hP : va_P (dC, dI) classes (mW ad cJ cZ g4.2 r0 w0 s0) H) (hD : va_D A (mW ad cJ cZ g4.2 r0 w0 s0)) (hS : va_S A s.heap H locs) (ls : Array Slot) (hl : lv_has ls 3 [(0, .ref (ad 0)), (1, .int (p1)), (2, .int (bI p2))]), W p l e (headSpec w_M_greatest ({ frames := 1, cells := 0, slots := 0, locals := 23 } : Room)).room s m ([.ref (ad 0), .int (p1), .int (bI p2)] : List Value).toArray below meth c H locs 0 0 (MQ below (va_Ql (fun r (_ : Unit) => r = (f_M_greatest r0 p1 p2).1) (mB (dC, dI) A (mW ad cJ cZ (f_M_greatest r0 p1 p2).2 r0 w0 s0)) A) ([.ref (ad 0), .int (p1), .int (bI p2)] : List Value).toArray s 0 0 A) (F0 m 7 ls [.int (bI g4.1)]) := by
    intro g4 hj hf0 H locs hP hD hS ls hl
    refine wz_eq (tgt := 14) hx hb d_M_greatest_7 (by decide) (fun e1_14 => ?_) (fun e1_14 => ?_)
    · obtain ⟨⟨i1, j1⟩, ⟨i2, j2⟩, ⟨i3, j3⟩⟩ := npF_of hf0 e1_14
      refine lv_iload_n hx hb d_M_greatest_14 rfl (lv_at hl 2 rfl) ?_
      refine wz_eq (tgt := 27) hx hb d_M_greatest_15 (by decide) (fun e2_27 => ?_) (fun e2_27 => ?_)
      · refine lv_aload_n hx hb d_M_greatest_27 rfl (lv_at hl 0 rfl) ?_
        refine va_get (D := (dC, dI)) (ci := 2) (v := .ref (ad 6)) (C := R_M) (T := F_M) (N := 10) hx hb hts (fun w h => List.mem_cons_of_mem _ (uw_M w h)) hown hK hP 0 rfl rfl 6 (by decide) (hG (.fieldLink R_M 25 "ValueSieveModel" "greatest" "[J") gx15) (fun _ h9 => h9) rfl d_M_greatest_28 ?_
        refine lv_iload_n hx hb d_M_greatest_31 rfl (lv_at hl 1 rfl) ?_
        refine top_i i1 ?_
        refine ml_6 (P := p1.toNatClampNeg) hx hb hK hP rfl (Nat.lt_of_lt_of_le j1 (by decide)) d_M_greatest_32 ?_
        have fe : f_M_greatest r0 p1 p2 = ((r0 p1.toNatClampNeg).2.2.2.2.2.1, g4.2) := hj.trans (by unfold f_M_greatest_4g; first | with_reducible exact (if_neg e1_14).trans (if_neg e2_27) | exact (if_neg e1_14).trans (if_neg e2_27))
        exact W.lret (v := (r0 p1.toNatClampNeg).2.2.2.2.2.1) hx hb hr (fun t ht hW => ⟨⟨_, (), rfl, by rw [fe], by rw [ht, fe]; exact hP, by rw [fe]; exact hD⟩, hS.F ht⟩) hS.2.2 d_M_greatest_33
      · refine lv_aload_n hx hb d_M_greatest_18 rfl (lv_at hl 0 rfl) ?_
        refine va_get (D := (dC, dI)) (ci := 2) (v := .ref (ad 4)) (C := R_M) (T := F_M) (N := 10) hx hb hts (fun w h => List.mem_cons_of_mem _ (uw_M w h)) hown hK hP 0 rfl rfl 4 (by decide) (hG (.fieldLink R_M 19 "ValueSieveModel" "high" "[J") gx13) (fun _ h9 => h9) rfl d_M_greatest_19 ?_
        refine lv_iload_n hx hb d_M_greatest_22 rfl (lv_at hl 1 rfl) ?_
        refine top_i i1 ?_
        refine ml_4 (P := p1.toNatClampNeg) hx hb hK hP rfl (Nat.lt_of_lt_of_le j1 (by decide)) d_M_greatest_23 ?_
        refine lv_goto (tgt := 33) hx hb d_M_greatest_24 (by decide) ?_
        have fe : f_M_greatest r0 p1 p2 = ((r0 p1.toNatClampNeg).2.2.2.1, g4.2) := hj.trans (by unfold f_M_greatest_4g; first | with_reducible exact (if_neg e1_14).trans (if_pos e2_27) | exact (if_neg e1_14).trans (if_pos e2_27))
        exact W.lret (v := (r0 p1.toNatClampNeg).2.2.2.1) hx hb hr (fun t ht hW => ⟨⟨_, (), rfl, by rw [fe], by rw [ht, fe]; exact hP, by rw [fe]; exact hD⟩, hS.F ht⟩) hS.2.2 d_M_greatest_33
    · refine lv_lconst (v := 0) hx hb d_M_greatest_10 (by decide) ?_
      refine lv_goto (tgt := 33) hx hb d_M_greatest_11 (by decide) ?_
      have fe : f_M_greatest r0 p1 p2 = (0, g4.2) := hj.trans (by unfold f_M_greatest_4g; first | with_reducible exact if_pos e1_14 | exact if_pos e1_14)
      exact W.lret (v := 0) hx hb hr (fun t ht hW => ⟨⟨_, (), rfl, by rw [fe], by rw [ht, fe]; exact hP, by rw [fe]; exact hD⟩, hS.F ht⟩) hS.2.2 d_M_greatest_33
  refine lv_aload_n hx hb d_M_greatest_0 rfl (lv_at hl 0 rfl) ?_
  refine lv_iload_n hx hb d_M_greatest_1 rfl (lv_at hl 1 rfl) ?_
  refine lv_iconst (v := 0) hx hb d_M_greatest_2 (by decide) ?_
  refine lv_iconst (v := 0) hx hb d_M_greatest_3 (by decide) ?_
  refine mm_z (F := f_M_noPlace p1 0 0) (w1 := fun g4 => (mW ad cJ cZ g4.2 r0 w0 s0)) (va_runV (As := [.int (p1), .int (0), .int (0)]) (rest := []) ⟨hx, hb, hml, hown, hts⟩ (c_M_noPlace l dC dI ad cJ cZ s.heap.size c0 r0 w0 s0 p1 0 0) (cwV 3 hts (gxV gx36 gx37 gx276 gx0 gx38) rfl rfl rfl (by decide +kernel) ⟨(Nat.le_of_ble_eq_true rfl), (Nat.le_of_ble_eq_true rfl)⟩) ⟨blp, va_recv hK hP (ci := 2) (q0 := 0) rfl rfl, fun U hU hW => ⟨rfl, by rw [hU], by rw [hU]; exact hP, va_K.moved hW.alike hK, hD.weaken (fun _ _ _ _ => trivial)⟩⟩ rfl rfl hl.1 rfl (lv_room (Nat.le_of_ble_eq_true rfl)) d_M_greatest_4 ⟨Nat.zero_le _, Nat.zero_le _⟩) hD hS hA (fun g4 eg4 H locs hP hD hS => ?_)
  have hpg4 := np_ok eg4
  refine K4g g4 (Eq.trans (rfl) (congrArg (fun g4 => f_M_greatest_4g r0 p1 p2 g4) eg4)) hpg4 H locs ?_ ?_ hS ls (lv_sub hl [0, 1, 2] rfl)
  · with_reducible exact hP
  · with_reducible exact hD
-- unknown
theorem d_M_unknown_0 : decode b_M_unknown 0 = .ok (.aload_n 0, 1) := by decide +kernel
theorem d_M_unknown_1 : decode b_M_unknown 1 = .ok (.iload_n 1, 1) := by decide +kernel
theorem d_M_unknown_2 : decode b_M_unknown 2 = .ok (.iconst 0, 1) := by decide +kernel
theorem d_M_unknown_3 : decode b_M_unknown 3 = .ok (.iconst 0, 1) := by decide +kernel
theorem d_M_unknown_4 : decode b_M_unknown 4 = .ok (.invokevirtual 98, 3) := by decide +kernel
theorem d_M_unknown_7 : decode b_M_unknown 7 = .ok (.ifCond .eq 7, 3) := by decide +kernel
theorem d_M_unknown_10 : decode b_M_unknown 10 = .ok (.lconst 0, 1) := by decide +kernel
theorem d_M_unknown_11 : decode b_M_unknown 11 = .ok (.goto 9, 3) := by decide +kernel
theorem d_M_unknown_14 : decode b_M_unknown 14 = .ok (.aload_n 0, 1) := by decide +kernel
theorem d_M_unknown_15 : decode b_M_unknown 15 = .ok (.getfield 13, 3) := by decide +kernel
theorem d_M_unknown_18 : decode b_M_unknown 18 = .ok (.iload_n 1, 1) := by decide +kernel
theorem d_M_unknown_19 : decode b_M_unknown 19 = .ok (.laload, 1) := by decide +kernel
theorem d_M_unknown_20 : decode b_M_unknown 20 = .ok (.lreturn, 1) := by decide +kernel
def f_M_unknown_4g (r0 : (Nat → VV)) (p1 : Int32) (g4 : Bool × Int32) : Int64 × Int32 := (if g4.1 = true then (0, g4.2) else ((r0 p1.toNatClampNeg).2.1, g4.2))
def f_M_unknown (r0 : (Nat → VV)) (p1 : Int32) : Int64 × Int32 := f_M_unknown_4g r0 p1 (f_M_noPlace p1 0 0)
set_option maxRecDepth 100000 in
set_option maxHeartbeats 4000000 in
theorem c_M_unknown (l : Launch) (dC : Nat → ClassId) (dI : Nat → Nat → Nat) (ad : Nat → Nat) (cJ cZ : ClassId) (sz : Nat) (c0 : Int32) (r0 : (Nat → VV)) (w0 : (Nat → Int64)) (s0 : Int32) (p1 : Int32) : Met l y_M_unknown w_M_unknown ({ frames := 1, cells := 0, slots := 0, locals := 23 } : Room) (va_Pc [.ref (ad 0), .int (p1)] (nP (dC, dI) (mT cJ cZ) (mW ad cJ cZ c0 r0 w0 s0) sz)) (va_Ql (fun r (_ : Unit) => r = (f_M_unknown r0 p1).1) (mB (dC, dI) (va_A (mW ad cJ cZ c0 r0 w0 s0) sz) (mW ad cJ cZ (f_M_unknown r0 p1).2 r0 w0 s0)) (va_A (mW ad cJ cZ c0 r0 w0 s0) sz)) 0 0 (va_A (mW ad cJ cZ c0 r0 w0 s0) sz) := by
  refine Met.ofW (cc := b_M_unknown) (maxL := 2) (ret := (some .long)) (by decide) rfl ?_
  intro p e s m args below meth c s₁ B hml hv
  obtain ⟨rfl, hsz, hP, hK, hD0⟩ := hv
  have hx := B.exec
  have hb := B.bytes
  have hr := B.returns
  have hts := atoms_spec (ws := w_M_unknown) B.pre
  have hG : ∀ w ∈ gM, w.before _ s = true := fun w h => hts w (List.mem_cons_of_mem _ h)
  have hown : s.vm.findClass R_M = some m.cls := findClass_of_methodNamed B.named
  have hlocks := B.notSynchronized
  subst hsz
  have hD := hD0.self (sz := s.heap.size)
  generalize hAe : va_A (mW ad cJ cZ c0 r0 w0 s0) s.heap.size = A at hD ⊢
  have hA : ∀ q : Nat, s.heap.size ≤ q → A q := fun q h => by rw [← hAe]; exact Or.inr h
  have hS : va_S A s.heap s.heap [] := va_S.rf
  have hl := lv_entry ([.ref (ad 0), .int (p1)]) (n := 2) (Nat.le_of_ble_eq_true rfl)
  rw [lg_entry_eq]
  generalize (lg_sl ([.ref (ad 0), .int (p1)]) ++ List.replicate (2 - (lg_sl ([.ref (ad 0), .int (p1)])).length) Slot.unset).toArray = ls at hl ⊢
  have hl : lv_has ls 2 [(0, .ref (ad 0)), (1, .int (p1))] := hl
  have K4g : ∀ (g4 : Bool × Int32) (hj : f_M_unknown r0 p1 = f_M_unknown_4g r0 p1 g4) (hf0 : npF g4.1 p1 0 0) (H : Heap) (locs : List Loc) (hP : va_P (dC, dI) classes (mW ad cJ cZ g4.2 r0 w0 s0) H) (hD : va_D A (mW ad cJ cZ g4.2 r0 w0 s0)) (hS : va_S A s.heap H locs) (ls : Array Slot) (hl : lv_has ls 2 [(0, .ref (ad 0)), (1, .int (p1))]), W p l e (headSpec w_M_unknown ({ frames := 1, cells := 0, slots := 0, locals := 23 } : Room)).room s m ([.ref (ad 0), .int (p1)] : List Value).toArray below meth c H locs 0 0 (MQ below (va_Ql (fun r (_ : Unit) => r = (f_M_unknown r0 p1).1) (mB (dC, dI) A (mW ad cJ cZ (f_M_unknown r0 p1).2 r0 w0 s0)) A) ([.ref (ad 0), .int (p1)] : List Value).toArray s 0 0 A) (F0 m 7 ls [.int (bI g4.1)]) := by
    intro g4 hj hf0 H locs hP hD hS ls hl
    refine wz_eq (tgt := 14) hx hb d_M_unknown_7 (by decide) (fun e1_14 => ?_) (fun e1_14 => ?_)
    · obtain ⟨⟨i1, j1⟩, ⟨i2, j2⟩, ⟨i3, j3⟩⟩ := npF_of hf0 e1_14
      refine lv_aload_n hx hb d_M_unknown_14 rfl (lv_at hl 0 rfl) ?_
      refine va_get (D := (dC, dI)) (ci := 2) (v := .ref (ad 2)) (C := R_M) (T := F_M) (N := 10) hx hb hts (fun w h => List.mem_cons_of_mem _ (uw_M w h)) hown hK hP 0 rfl rfl 2 (by decide) (hG (.fieldLink R_M 13 "ValueSieveModel" "open" "[J") gx11) (fun _ h9 => h9) rfl d_M_unknown_15 ?_
      refine lv_iload_n hx hb d_M_unknown_18 rfl (lv_at hl 1 rfl) ?_
      refine top_i i1 ?_
      refine ml_2 (P := p1.toNatClampNeg) hx hb hK hP rfl (Nat.lt_of_lt_of_le j1 (by decide)) d_M_unknown_19 ?_
      have fe : f_M_unknown r0 p1 = ((r0 p1.toNatClampNeg).2.1, g4.2) := hj.trans (by unfold f_M_unknown_4g; first | with_reducible exact if_neg e1_14 | exact if_neg e1_14)
      exact W.lret (v := (r0 p1.toNatClampNeg).2.1) hx hb hr (fun t ht hW => ⟨⟨_, (), rfl, by rw [fe], by rw [ht, fe]; exact hP, by rw [fe]; exact hD⟩, hS.F ht⟩) hS.2.2 d_M_unknown_20
    · refine lv_lconst (v := 0) hx hb d_M_unknown_10 (by decide) ?_
      refine lv_goto (tgt := 20) hx hb d_M_unknown_11 (by decide) ?_
      have fe : f_M_unknown r0 p1 = (0, g4.2) := hj.trans (by unfold f_M_unknown_4g; first | with_reducible exact if_pos e1_14 | exact if_pos e1_14)
      exact W.lret (v := 0) hx hb hr (fun t ht hW => ⟨⟨_, (), rfl, by rw [fe], by rw [ht, fe]; exact hP, by rw [fe]; exact hD⟩, hS.F ht⟩) hS.2.2 d_M_unknown_20
  refine lv_aload_n hx hb d_M_unknown_0 rfl (lv_at hl 0 rfl) ?_
  refine lv_iload_n hx hb d_M_unknown_1 rfl (lv_at hl 1 rfl) ?_
  refine lv_iconst (v := 0) hx hb d_M_unknown_2 (by decide) ?_
  refine lv_iconst (v := 0) hx hb d_M_unknown_3 (by decide) ?_
  refine mm_z (F := f_M_noPlace p1 0 0) (w1 := fun g4 => (mW ad cJ cZ g4.2 r0 w0 s0)) (va_runV (As := [.int (p1), .int (0), .int (0)]) (rest := []) ⟨hx, hb, hml, hown, hts⟩ (c_M_noPlace l dC dI ad cJ cZ s.heap.size c0 r0 w0 s0 p1 0 0) (cwV 3 hts (gxV gx36 gx37 gx276 gx0 gx38) rfl rfl rfl (by decide +kernel) ⟨(Nat.le_of_ble_eq_true rfl), (Nat.le_of_ble_eq_true rfl)⟩) ⟨blp, va_recv hK hP (ci := 2) (q0 := 0) rfl rfl, fun U hU hW => ⟨rfl, by rw [hU], by rw [hU]; exact hP, va_K.moved hW.alike hK, hD.weaken (fun _ _ _ _ => trivial)⟩⟩ rfl rfl hl.1 rfl (lv_room (Nat.le_of_ble_eq_true rfl)) d_M_unknown_4 ⟨Nat.zero_le _, Nat.zero_le _⟩) hD hS hA (fun g4 eg4 H locs hP hD hS => ?_)
  have hpg4 := np_ok eg4
  refine K4g g4 (Eq.trans (rfl) (congrArg (fun g4 => f_M_unknown_4g r0 p1 g4) eg4)) hpg4 H locs ?_ ?_ hS ls (lv_sub hl [0, 1] rfl)
  · with_reducible exact hP
  · with_reducible exact hD
-- witness
theorem d_M_witness_0 : decode b_M_witness 0 = .ok (.aload_n 0, 1) := by decide +kernel
theorem d_M_witness_1 : decode b_M_witness 1 = .ok (.iload_n 1, 1) := by decide +kernel
theorem d_M_witness_2 : decode b_M_witness 2 = .ok (.iconst 0, 1) := by decide +kernel
theorem d_M_witness_3 : decode b_M_witness 3 = .ok (.iconst 0, 1) := by decide +kernel
theorem d_M_witness_4 : decode b_M_witness 4 = .ok (.invokevirtual 98, 3) := by decide +kernel
theorem d_M_witness_7 : decode b_M_witness 7 = .ok (.ifCond .eq 7, 3) := by decide +kernel
theorem d_M_witness_10 : decode b_M_witness 10 = .ok (.lconst 0, 1) := by decide +kernel
theorem d_M_witness_11 : decode b_M_witness 11 = .ok (.goto 9, 3) := by decide +kernel
theorem d_M_witness_14 : decode b_M_witness 14 = .ok (.aload_n 0, 1) := by decide +kernel
theorem d_M_witness_15 : decode b_M_witness 15 = .ok (.getfield 32, 3) := by decide +kernel
theorem d_M_witness_18 : decode b_M_witness 18 = .ok (.iload_n 1, 1) := by decide +kernel
theorem d_M_witness_19 : decode b_M_witness 19 = .ok (.laload, 1) := by decide +kernel
theorem d_M_witness_20 : decode b_M_witness 20 = .ok (.lreturn, 1) := by decide +kernel
def f_M_witness_4g (w0 : (Nat → Int64)) (p1 : Int32) (g4 : Bool × Int32) : Int64 × Int32 := (if g4.1 = true then (0, g4.2) else (w0 p1.toNatClampNeg, g4.2))
def f_M_witness (w0 : (Nat → Int64)) (p1 : Int32) : Int64 × Int32 := f_M_witness_4g w0 p1 (f_M_noPlace p1 0 0)
set_option maxRecDepth 100000 in
set_option maxHeartbeats 4000000 in
theorem c_M_witness (l : Launch) (dC : Nat → ClassId) (dI : Nat → Nat → Nat) (ad : Nat → Nat) (cJ cZ : ClassId) (sz : Nat) (c0 : Int32) (r0 : (Nat → VV)) (w0 : (Nat → Int64)) (s0 : Int32) (p1 : Int32) : Met l y_M_witness w_M_witness ({ frames := 1, cells := 0, slots := 0, locals := 23 } : Room) (va_Pc [.ref (ad 0), .int (p1)] (nP (dC, dI) (mT cJ cZ) (mW ad cJ cZ c0 r0 w0 s0) sz)) (va_Ql (fun r (_ : Unit) => r = (f_M_witness w0 p1).1) (mB (dC, dI) (va_A (mW ad cJ cZ c0 r0 w0 s0) sz) (mW ad cJ cZ (f_M_witness w0 p1).2 r0 w0 s0)) (va_A (mW ad cJ cZ c0 r0 w0 s0) sz)) 0 0 (va_A (mW ad cJ cZ c0 r0 w0 s0) sz) := by
  refine Met.ofW (cc := b_M_witness) (maxL := 2) (ret := (some .long)) (by decide) rfl ?_
  intro p e s m args below meth c s₁ B hml hv
  obtain ⟨rfl, hsz, hP, hK, hD0⟩ := hv
  have hx := B.exec
  have hb := B.bytes
  have hr := B.returns
  have hts := atoms_spec (ws := w_M_witness) B.pre
  have hG : ∀ w ∈ gM, w.before _ s = true := fun w h => hts w (List.mem_cons_of_mem _ h)
  have hown : s.vm.findClass R_M = some m.cls := findClass_of_methodNamed B.named
  have hlocks := B.notSynchronized
  subst hsz
  have hD := hD0.self (sz := s.heap.size)
  generalize hAe : va_A (mW ad cJ cZ c0 r0 w0 s0) s.heap.size = A at hD ⊢
  have hA : ∀ q : Nat, s.heap.size ≤ q → A q := fun q h => by rw [← hAe]; exact Or.inr h
  have hS : va_S A s.heap s.heap [] := va_S.rf
  have hl := lv_entry ([.ref (ad 0), .int (p1)]) (n := 2) (Nat.le_of_ble_eq_true rfl)
  rw [lg_entry_eq]
  generalize (lg_sl ([.ref (ad 0), .int (p1)]) ++ List.replicate (2 - (lg_sl ([.ref (ad 0), .int (p1)])).length) Slot.unset).toArray = ls at hl ⊢
  have hl : lv_has ls 2 [(0, .ref (ad 0)), (1, .int (p1))] := hl
  have K4g : ∀ (g4 : Bool × Int32) (hj : f_M_witness w0 p1 = f_M_witness_4g w0 p1 g4) (hf0 : npF g4.1 p1 0 0) (H : Heap) (locs : List Loc) (hP : va_P (dC, dI) classes (mW ad cJ cZ g4.2 r0 w0 s0) H) (hD : va_D A (mW ad cJ cZ g4.2 r0 w0 s0)) (hS : va_S A s.heap H locs) (ls : Array Slot) (hl : lv_has ls 2 [(0, .ref (ad 0)), (1, .int (p1))]), W p l e (headSpec w_M_witness ({ frames := 1, cells := 0, slots := 0, locals := 23 } : Room)).room s m ([.ref (ad 0), .int (p1)] : List Value).toArray below meth c H locs 0 0 (MQ below (va_Ql (fun r (_ : Unit) => r = (f_M_witness w0 p1).1) (mB (dC, dI) A (mW ad cJ cZ (f_M_witness w0 p1).2 r0 w0 s0)) A) ([.ref (ad 0), .int (p1)] : List Value).toArray s 0 0 A) (F0 m 7 ls [.int (bI g4.1)]) := by
    intro g4 hj hf0 H locs hP hD hS ls hl
    refine wz_eq (tgt := 14) hx hb d_M_witness_7 (by decide) (fun e1_14 => ?_) (fun e1_14 => ?_)
    · obtain ⟨⟨i1, j1⟩, ⟨i2, j2⟩, ⟨i3, j3⟩⟩ := npF_of hf0 e1_14
      refine lv_aload_n hx hb d_M_witness_14 rfl (lv_at hl 0 rfl) ?_
      refine va_get (D := (dC, dI)) (ci := 2) (v := .ref (ad 8)) (C := R_M) (T := F_M) (N := 10) hx hb hts (fun w h => List.mem_cons_of_mem _ (uw_M w h)) hown hK hP 0 rfl rfl 8 (by decide) (hG (.fieldLink R_M 32 "ValueSieveModel" "witness" "[J") gx17) (fun _ h9 => h9) rfl d_M_witness_15 ?_
      refine lv_iload_n hx hb d_M_witness_18 rfl (lv_at hl 1 rfl) ?_
      refine top_i i1 ?_
      refine ml_8 (P := p1.toNatClampNeg) hx hb hK hP rfl j1 d_M_witness_19 ?_
      have fe : f_M_witness w0 p1 = (w0 p1.toNatClampNeg, g4.2) := hj.trans (by unfold f_M_witness_4g; first | with_reducible exact if_neg e1_14 | exact if_neg e1_14)
      exact W.lret (v := w0 p1.toNatClampNeg) hx hb hr (fun t ht hW => ⟨⟨_, (), rfl, by rw [fe], by rw [ht, fe]; exact hP, by rw [fe]; exact hD⟩, hS.F ht⟩) hS.2.2 d_M_witness_20
    · refine lv_lconst (v := 0) hx hb d_M_witness_10 (by decide) ?_
      refine lv_goto (tgt := 20) hx hb d_M_witness_11 (by decide) ?_
      have fe : f_M_witness w0 p1 = (0, g4.2) := hj.trans (by unfold f_M_witness_4g; first | with_reducible exact if_pos e1_14 | exact if_pos e1_14)
      exact W.lret (v := 0) hx hb hr (fun t ht hW => ⟨⟨_, (), rfl, by rw [fe], by rw [ht, fe]; exact hP, by rw [fe]; exact hD⟩, hS.F ht⟩) hS.2.2 d_M_witness_20
  refine lv_aload_n hx hb d_M_witness_0 rfl (lv_at hl 0 rfl) ?_
  refine lv_iload_n hx hb d_M_witness_1 rfl (lv_at hl 1 rfl) ?_
  refine lv_iconst (v := 0) hx hb d_M_witness_2 (by decide) ?_
  refine lv_iconst (v := 0) hx hb d_M_witness_3 (by decide) ?_
  refine mm_z (F := f_M_noPlace p1 0 0) (w1 := fun g4 => (mW ad cJ cZ g4.2 r0 w0 s0)) (va_runV (As := [.int (p1), .int (0), .int (0)]) (rest := []) ⟨hx, hb, hml, hown, hts⟩ (c_M_noPlace l dC dI ad cJ cZ s.heap.size c0 r0 w0 s0 p1 0 0) (cwV 3 hts (gxV gx36 gx37 gx276 gx0 gx38) rfl rfl rfl (by decide +kernel) ⟨(Nat.le_of_ble_eq_true rfl), (Nat.le_of_ble_eq_true rfl)⟩) ⟨blp, va_recv hK hP (ci := 2) (q0 := 0) rfl rfl, fun U hU hW => ⟨rfl, by rw [hU], by rw [hU]; exact hP, va_K.moved hW.alike hK, hD.weaken (fun _ _ _ _ => trivial)⟩⟩ rfl rfl hl.1 rfl (lv_room (Nat.le_of_ble_eq_true rfl)) d_M_witness_4 ⟨Nat.zero_le _, Nat.zero_le _⟩) hD hS hA (fun g4 eg4 H locs hP hD hS => ?_)
  have hpg4 := np_ok eg4
  refine K4g g4 (Eq.trans (rfl) (congrArg (fun g4 => f_M_witness_4g w0 p1 g4) eg4)) hpg4 H locs ?_ ?_ hS ls (lv_sub hl [0, 1] rfl)
  · with_reducible exact hP
  · with_reducible exact hD
-- strays
theorem d_M_strays_0 : decode b_M_strays 0 = .ok (.aload_n 0, 1) := by decide +kernel
theorem d_M_strays_1 : decode b_M_strays 1 = .ok (.iconst 0, 1) := by decide +kernel
theorem d_M_strays_2 : decode b_M_strays 2 = .ok (.putfield 35, 3) := by decide +kernel
theorem d_M_strays_5 : decode b_M_strays 5 = .ok (.aload_n 0, 1) := by decide +kernel
theorem d_M_strays_6 : decode b_M_strays 6 = .ok (.getfield 87, 3) := by decide +kernel
theorem d_M_strays_9 : decode b_M_strays 9 = .ok (.ireturn, 1) := by decide +kernel
def f_M_strays (s0 : Int32) : Int32 × Int32 := (s0, 0)
set_option maxRecDepth 100000 in
set_option maxHeartbeats 4000000 in
theorem c_M_strays (l : Launch) (dC : Nat → ClassId) (dI : Nat → Nat → Nat) (ad : Nat → Nat) (cJ cZ : ClassId) (sz : Nat) (c0 : Int32) (r0 : (Nat → VV)) (w0 : (Nat → Int64)) (s0 : Int32) : Met l y_M_strays w_M_strays ({ frames := 0, cells := 0, slots := 0, locals := 0 } : Room) (va_Pc [.ref (ad 0)] (nP (dC, dI) (mT cJ cZ) (mW ad cJ cZ c0 r0 w0 s0) sz)) (va_Qi (fun r (_ : Unit) => r = (f_M_strays s0).1) (mB (dC, dI) (va_A (mW ad cJ cZ c0 r0 w0 s0) sz) (mW ad cJ cZ (f_M_strays s0).2 r0 w0 s0)) (va_A (mW ad cJ cZ c0 r0 w0 s0) sz)) 0 0 (va_A (mW ad cJ cZ c0 r0 w0 s0) sz) := by
  refine Met.ofW (cc := b_M_strays) (maxL := 1) (ret := (some .int)) (by decide) rfl ?_
  intro p e s m args below meth c s₁ B hml hv
  obtain ⟨rfl, hsz, hP, hK, hD0⟩ := hv
  have hx := B.exec
  have hb := B.bytes
  have hr := B.returns
  have hts := atoms_spec (ws := w_M_strays) B.pre
  have hG : ∀ w ∈ gM, w.before _ s = true := fun w h => hts w (List.mem_cons_of_mem _ h)
  have hown : s.vm.findClass R_M = some m.cls := findClass_of_methodNamed B.named
  have hlocks := B.notSynchronized
  subst hsz
  have hD := hD0.self (sz := s.heap.size)
  generalize hAe : va_A (mW ad cJ cZ c0 r0 w0 s0) s.heap.size = A at hD ⊢
  have hA : ∀ q : Nat, s.heap.size ≤ q → A q := fun q h => by rw [← hAe]; exact Or.inr h
  have hS : va_S A s.heap s.heap [] := va_S.rf
  have hl := lv_entry ([.ref (ad 0)]) (n := 1) (Nat.le_of_ble_eq_true rfl)
  rw [lg_entry_eq]
  generalize (lg_sl ([.ref (ad 0)]) ++ List.replicate (1 - (lg_sl ([.ref (ad 0)])).length) Slot.unset).toArray = ls at hl ⊢
  have hl : lv_has ls 1 [(0, .ref (ad 0))] := hl
  refine lv_aload_n hx hb d_M_strays_0 rfl (lv_at hl 0 rfl) ?_
  refine lv_iconst (v := 0) hx hb d_M_strays_1 (by decide) ?_
  refine mp_c hx hb hts (fun w h => List.mem_cons_of_mem _ (uw_M w h)) hown hK hP hD hS (hG (.fieldLink R_M 35 "ValueSieveModel" "code" "I") gx9) d_M_strays_2 (fun H locs hP hD hS => ?_)
  refine lv_aload_n hx hb d_M_strays_5 rfl (lv_at hl 0 rfl) ?_
  refine va_get (D := (dC, dI)) (ci := 2) (v := .int (s0)) (C := R_M) (T := F_M) (N := 10) hx hb hts (fun w h => List.mem_cons_of_mem _ (uw_M w h)) hown hK hP 0 rfl rfl 9 (by decide) (hG (.fieldLink R_M 87 "ValueSieveModel" "strays" "I") gx18) (fun _ h9 => h9) rfl d_M_strays_6 ?_
  have fe : f_M_strays s0 = (s0, 0) := rfl
  exact W.iret (v := s0) hx hb hr (fun t ht hW => ⟨⟨_, (), rfl, by rw [fe], by rw [ht, fe]; exact hP, by rw [fe]; exact hD⟩, hS.F ht⟩) hS.2.2 d_M_strays_9
-- thrown
theorem d_M_thrown_0 : decode b_M_thrown 0 = .ok (.aload_n 0, 1) := by decide +kernel
theorem d_M_thrown_1 : decode b_M_thrown 1 = .ok (.getfield 35, 3) := by decide +kernel
theorem d_M_thrown_4 : decode b_M_thrown 4 = .ok (.ireturn, 1) := by decide +kernel
def f_M_thrown (c0 : Int32) : Int32 := c0
set_option maxRecDepth 100000 in
set_option maxHeartbeats 4000000 in
theorem c_M_thrown (l : Launch) (dC : Nat → ClassId) (dI : Nat → Nat → Nat) (ad : Nat → Nat) (cJ cZ : ClassId) (c0 : Int32) (r0 : (Nat → VV)) (w0 : (Nat → Int64)) (s0 : Int32) : Met l y_M_thrown w_M_thrown ({ frames := 0, cells := 0, slots := 0, locals := 0 } : Room) (va_Pc [.ref (ad 0)] (nR (dC, dI) (mT cJ cZ) (mW ad cJ cZ c0 r0 w0 s0))) (vp_Si (fun r => r = (f_M_thrown c0))) 0 0 (fun _ => False) := by
  refine Met.ofW (cc := b_M_thrown) (maxL := 1) (ret := (some .int)) (by decide) rfl ?_
  intro p e s m args below meth c s₁ B hml hv
  obtain ⟨rfl, hP, hK⟩ := hv
  have hx := B.exec
  have hb := B.bytes
  have hr := B.returns
  have hts := atoms_spec (ws := w_M_thrown) B.pre
  have hG : ∀ w ∈ gM, w.before _ s = true := fun w h => hts w (List.mem_cons_of_mem _ h)
  have hown : s.vm.findClass R_M = some m.cls := findClass_of_methodNamed B.named
  have hlocks := B.notSynchronized
  have hl := lv_entry ([.ref (ad 0)]) (n := 1) (Nat.le_of_ble_eq_true rfl)
  rw [lg_entry_eq]
  generalize (lg_sl ([.ref (ad 0)]) ++ List.replicate (1 - (lg_sl ([.ref (ad 0)])).length) Slot.unset).toArray = ls at hl ⊢
  have hl : lv_has ls 1 [(0, .ref (ad 0))] := hl
  refine lv_aload_n hx hb d_M_thrown_0 rfl (lv_at hl 0 rfl) ?_
  refine va_get (D := (dC, dI)) (ci := 2) (v := .int (c0)) (C := R_M) (T := F_M) (N := 10) hx hb hts (fun w h => List.mem_cons_of_mem _ (uw_M w h)) hown hK hP 0 rfl rfl 0 (by decide) (hG (.fieldLink R_M 35 "ValueSieveModel" "code" "I") gx9) (fun _ h9 => h9) rfl d_M_thrown_1 ?_
  have fe : f_M_thrown c0 = c0 := rfl
  exact W.iret (v := c0) hx hb hr (fun t ht hW => ⟨_, rfl, by rw [fe], ht⟩) t_nil d_M_thrown_4
