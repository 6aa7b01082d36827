-- any
theorem d_M_any_0 : decode b_M_any 0 = .ok (.aload_n 0, 1) := by decide +kernel
theorem d_M_any_1 : decode b_M_any 1 = .ok (.iload_n 1, 1) := by decide +kernel
theorem d_M_any_2 : decode b_M_any 2 = .ok (.iconst 0, 1) := by decide +kernel
theorem d_M_any_3 : decode b_M_any 3 = .ok (.iconst 0, 1) := by decide +kernel
theorem d_M_any_4 : decode b_M_any 4 = .ok (.invokevirtual 98, 3) := by decide +kernel
theorem d_M_any_7 : decode b_M_any 7 = .ok (.ifCond .ne 17, 3) := by decide +kernel
theorem d_M_any_10 : decode b_M_any 10 = .ok (.aload_n 0, 1) := by decide +kernel
theorem d_M_any_11 : decode b_M_any 11 = .ok (.bipush 18, 2) := by decide +kernel
theorem d_M_any_13 : decode b_M_any 13 = .ok (.invokevirtual 102, 3) := by decide +kernel
theorem d_M_any_16 : decode b_M_any 16 = .ok (.aload_n 0, 1) := by decide +kernel
theorem d_M_any_17 : decode b_M_any 17 = .ok (.iload_n 1, 1) := by decide +kernel
theorem d_M_any_18 : decode b_M_any 18 = .ok (.bipush 18, 2) := by decide +kernel
theorem d_M_any_20 : decode b_M_any 20 = .ok (.lload_n 2, 1) := by decide +kernel
theorem d_M_any_21 : decode b_M_any 21 = .ok (.invokevirtual 105, 3) := by decide +kernel
theorem d_M_any_24 : decode b_M_any 24 = .ok (.return_, 1) := by decide +kernel
def f_M_any_21g (r0 : (Nat → VV)) (w0 : (Nat → Int64)) (s0 : Int32) (p1 : Int32) (p2 : Int64) (c13g : Int32) (g21 : (Nat → VV) × (Nat → Int64) × Int32) : Int32 × (Nat → VV) × (Nat → Int64) × Int32 := (c13g, g21.1, g21.2.1, g21.2.2)
def f_M_any_13g (r0 : (Nat → VV)) (w0 : (Nat → Int64)) (s0 : Int32) (p1 : Int32) (p2 : Int64) (c13g : Int32) (g13 : (Nat → VV)) : Int32 × (Nat → VV) × (Nat → Int64) × Int32 := f_M_any_21g r0 w0 s0 p1 p2 c13g (f_M_put g13 w0 s0 p1.toNatClampNeg 18 p2)
def f_M_any_4g (r0 : (Nat → VV)) (w0 : (Nat → Int64)) (s0 : Int32) (p1 : Int32) (p2 : Int64) (g4 : Bool × Int32) : Int32 × (Nat → VV) × (Nat → Int64) × Int32 := (if g4.1 = true then (g4.2, r0, w0, s0) else f_M_any_13g r0 w0 s0 p1 p2 g4.2 (f_M_nothingSaid r0 18))
def f_M_any (r0 : (Nat → VV)) (w0 : (Nat → Int64)) (s0 : Int32) (p1 : Int32) (p2 : Int64) : Int32 × (Nat → VV) × (Nat → Int64) × Int32 := f_M_any_4g r0 w0 s0 p1 p2 (f_M_noPlace p1 0 0)
set_option maxRecDepth 100000 in
set_option maxHeartbeats 4000000 in
theorem c_M_any (l : Launch) (dC : Nat → ClassId) (dI : Nat → Nat → Nat) (ad : Nat → Nat) (cJ cZ : ClassId) (sz : Nat) (c0 : Int32) (r0 : (Nat → VV)) (w0 : (Nat → Int64)) (s0 : Int32) (p1 : Int32) (p2 : Int64) : Met l y_M_any w_M_any ({ frames := 4, cells := 0, slots := 0, locals := 91 } : Room) (va_Pc [.ref (ad 0), .int (p1), .long (p2)] (nP (dC, dI) (mT cJ cZ) (mW ad cJ cZ c0 r0 w0 s0) sz)) (va_Qv (fun _ : Unit => True) (mB (dC, dI) (va_A (mW ad cJ cZ c0 r0 w0 s0) sz) (mW ad cJ cZ (f_M_any r0 w0 s0 p1 p2).1 (f_M_any r0 w0 s0 p1 p2).2.1 (f_M_any r0 w0 s0 p1 p2).2.2.1 (f_M_any r0 w0 s0 p1 p2).2.2.2)) (va_A (mW ad cJ cZ c0 r0 w0 s0) sz)) 0 0 (va_A (mW ad cJ cZ c0 r0 w0 s0) sz) := by
  refine Met.ofW (cc := b_M_any) (maxL := 4) (ret := none) (by decide) rfl ?_
  intro p e s m args below meth c s₁ B hml hv
  obtain ⟨rfl, hsz, hP, hK, hD0⟩ := hv
  have hx := B.exec
  have hb := B.bytes
  have hr := B.returns
  have hts := atoms_spec (ws := w_M_any) B.pre
  have hG : ∀ w ∈ gM, w.before _ s = true := fun w h => hts w (List.mem_cons_of_mem _ h)
  have hown : s.vm.findClass R_M = some m.cls := findClass_of_methodNamed B.named
  have hlocks := B.notSynchronized
  subst hsz
  have hD := hD0.self (sz := s.heap.size)
  generalize hAe : va_A (mW ad cJ cZ c0 r0 w0 s0) s.heap.size = A at hD ⊢
  have hA : ∀ q : Nat, s.heap.size ≤ q → A q := fun q h => by rw [← hAe]; exact Or.inr h
  have hS : va_S A s.heap s.heap [] := va_S.rf
  have hl := lv_entry ([.ref (ad 0), .int (p1), .long (p2)]) (n := 4) (Nat.le_of_ble_eq_true rfl)
  rw [lg_entry_eq]
  generalize (lg_sl ([.ref (ad 0), .int (p1), .long (p2)]) ++ List.replicate (4 - (lg_sl ([.ref (ad 0), .int (p1), .long (p2)])).length) Slot.unset).toArray = ls at hl ⊢
  have hl : lv_has ls 4 [(0, .ref (ad 0)), (1, .int (p1)), (2, .long (p2))] := hl
  have K21g : ∀ (c13g : Int32) (g21 : (Nat → VV) × (Nat → Int64) × Int32) (hj : f_M_any r0 w0 s0 p1 p2 = f_M_any_21g r0 w0 s0 p1 p2 c13g g21) (hf0 : p1 = nI p1.toNatClampNeg) (hf1 : p1.toNatClampNeg < 16) (H : Heap) (locs : List Loc) (hP : va_P (dC, dI) classes (mW ad cJ cZ c13g g21.1 g21.2.1 g21.2.2) H) (hD : va_D A (mW ad cJ cZ c13g g21.1 g21.2.1 g21.2.2)) (hS : va_S A s.heap H locs) (ls : Array Slot) (hl : lv_has ls 4 []), W p l e (headSpec w_M_any ({ frames := 4, cells := 0, slots := 0, locals := 91 } : Room)).room s m ([.ref (ad 0), .int (p1), .long (p2)] : List Value).toArray below meth c H locs 0 0 (MQ below (va_Qv (fun _ : Unit => True) (mB (dC, dI) A (mW ad cJ cZ (f_M_any r0 w0 s0 p1 p2).1 (f_M_any r0 w0 s0 p1 p2).2.1 (f_M_any r0 w0 s0 p1 p2).2.2.1 (f_M_any r0 w0 s0 p1 p2).2.2.2)) A) ([.ref (ad 0), .int (p1), .long (p2)] : List Value).toArray s 0 0 A) (F0 m 24 ls []) := by
    intro c13g g21 hj hf0 hf1 H locs hP hD hS ls hl
    have fe : f_M_any r0 w0 s0 p1 p2 = (c13g, g21.1, g21.2.1, g21.2.2) := hj.trans rfl
    exact W.vret hx hb hr (fun t ht hW => ⟨⟨(), rfl, trivial, by rw [ht, fe]; exact hP, by rw [fe]; exact hD⟩, hS.F ht⟩) hS.2.2 d_M_any_24
  have K13g : ∀ (c13g : Int32) (g13 : (Nat → VV)) (hj : f_M_any r0 w0 s0 p1 p2 = f_M_any_13g r0 w0 s0 p1 p2 c13g g13) (hf0 : p1 = nI p1.toNatClampNeg) (hf1 : p1.toNatClampNeg < 16) (H : Heap) (locs : List Loc) (hP : va_P (dC, dI) classes (mW ad cJ cZ c13g g13 w0 s0) H) (hD : va_D A (mW ad cJ cZ c13g g13 w0 s0)) (hS : va_S A s.heap H locs) (ls : Array Slot) (hl : lv_has ls 4 [(0, .ref (ad 0)), (1, .int (p1)), (2, .long (p2))]), W p l e (headSpec w_M_any ({ frames := 4, cells := 0, slots := 0, locals := 91 } : Room)).room s m ([.ref (ad 0), .int (p1), .long (p2)] : List Value).toArray below meth c H locs 0 0 (MQ below (va_Qv (fun _ : Unit => True) (mB (dC, dI) A (mW ad cJ cZ (f_M_any r0 w0 s0 p1 p2).1 (f_M_any r0 w0 s0 p1 p2).2.1 (f_M_any r0 w0 s0 p1 p2).2.2.1 (f_M_any r0 w0 s0 p1 p2).2.2.2)) A) ([.ref (ad 0), .int (p1), .long (p2)] : List Value).toArray s 0 0 A) (F0 m 16 ls []) := by
    intro c13g g13 hj hf0 hf1 H locs hP hD hS ls hl
    refine lv_aload_n hx hb d_M_any_16 rfl (lv_at hl 0 rfl) ?_
    refine lv_iload_n hx hb d_M_any_17 rfl (lv_at hl 1 rfl) ?_
    refine top_i hf0 ?_
    refine lv_bipush (v := 18) hx hb d_M_any_18 (by decide) ?_
    refine lv_lload_n hx hb d_M_any_20 rfl (lv_at hl 2 rfl) ?_
    refine mm_v (F := f_M_put g13 w0 s0 p1.toNatClampNeg 18 p2) (w1 := fun g21 => (mW ad cJ cZ c13g g21.1 g21.2.1 g21.2.2)) (va_runV (As := [.int (nI p1.toNatClampNeg), .int (18), .long (p2)]) (rest := []) ⟨hx, hb, hml, hown, hts⟩ (c_M_put l dC dI ad cJ cZ H.size c13g g13 w0 s0 p1.toNatClampNeg 18 p2 hf1 (by decide)) (cwV 3 hts (gxV gx45 gx46 gx278 gx0 gx47) rfl rfl rfl (by decide +kernel) ⟨(Nat.le_of_ble_eq_true rfl), (Nat.le_of_ble_eq_true rfl)⟩) ⟨blp, va_recv hK hP (ci := 2) (q0 := 0) rfl rfl, fun U hU hW => ⟨rfl, by rw [hU], by rw [hU]; exact hP, va_K.moved hW.alike hK, hD.weaken (fun _ _ _ _ => trivial)⟩⟩ rfl rfl hl.1 rfl (lv_room (Nat.le_of_ble_eq_true rfl)) d_M_any_21 ⟨Nat.zero_le _, Nat.zero_le _⟩) hD hS hA (fun g21 eg21 H locs hP hD hS => ?_)
    refine K21g c13g g21 (Eq.trans (hj.trans rfl) (congrArg (fun g21 => f_M_any_21g r0 w0 s0 p1 p2 c13g g21) eg21)) hf0 hf1 H locs ?_ ?_ hS ls (lv_sub hl [] rfl)
    · with_reducible exact hP
    · with_reducible exact hD
  have K4g : ∀ (g4 : Bool × Int32) (hj : f_M_any r0 w0 s0 p1 p2 = f_M_any_4g r0 w0 s0 p1 p2 g4) (hf0 : npF g4.1 p1 0 0) (H : Heap) (locs : List Loc) (hP : va_P (dC, dI) classes (mW ad cJ cZ g4.2 r0 w0 s0) H) (hD : va_D A (mW ad cJ cZ g4.2 r0 w0 s0)) (hS : va_S A s.heap H locs) (ls : Array Slot) (hl : lv_has ls 4 [(0, .ref (ad 0)), (1, .int (p1)), (2, .long (p2))]), W p l e (headSpec w_M_any ({ frames := 4, cells := 0, slots := 0, locals := 91 } : Room)).room s m ([.ref (ad 0), .int (p1), .long (p2)] : List Value).toArray below meth c H locs 0 0 (MQ below (va_Qv (fun _ : Unit => True) (mB (dC, dI) A (mW ad cJ cZ (f_M_any r0 w0 s0 p1 p2).1 (f_M_any r0 w0 s0 p1 p2).2.1 (f_M_any r0 w0 s0 p1 p2).2.2.1 (f_M_any r0 w0 s0 p1 p2).2.2.2)) A) ([.ref (ad 0), .int (p1), .long (p2)] : List Value).toArray s 0 0 A) (F0 m 7 ls [.int (bI g4.1)]) := by
    intro g4 hj hf0 H locs hP hD hS ls hl
    refine wz_ne (tgt := 24) hx hb d_M_any_7 (by decide) (fun e1_24 => ?_) (fun e1_24 => ?_)
    · have fe : f_M_any r0 w0 s0 p1 p2 = (g4.2, r0, w0, s0) := hj.trans (by unfold f_M_any_4g; first | with_reducible exact if_pos e1_24 | exact if_pos e1_24)
      exact W.vret hx hb hr (fun t ht hW => ⟨⟨(), rfl, trivial, by rw [ht, fe]; exact hP, by rw [fe]; exact hD⟩, hS.F ht⟩) hS.2.2 d_M_any_24
    · obtain ⟨⟨i1, j1⟩, ⟨i2, j2⟩, ⟨i3, j3⟩⟩ := npF_of hf0 e1_24
      refine lv_aload_n hx hb d_M_any_10 rfl (lv_at hl 0 rfl) ?_
      refine lv_bipush (v := 18) hx hb d_M_any_11 (by decide) ?_
      refine mm_v (F := f_M_nothingSaid r0 18) (w1 := fun g13 => (mW ad cJ cZ g4.2 g13 w0 s0)) (va_runV (As := [.int (18)]) (rest := []) ⟨hx, hb, hml, hown, hts⟩ (c_M_nothingSaid l dC dI ad cJ cZ H.size g4.2 r0 w0 s0 18 (by decide)) (cwV 1 hts (gxV gx39 gx40 gx267 gx0 gx41) rfl rfl rfl (by decide +kernel) ⟨(Nat.le_of_ble_eq_true rfl), (Nat.le_of_ble_eq_true rfl)⟩) ⟨blp, va_recv hK hP (ci := 2) (q0 := 0) rfl rfl, fun U hU hW => ⟨rfl, by rw [hU], by rw [hU]; exact hP, va_K.moved hW.alike hK, hD.weaken (fun _ _ _ _ => trivial)⟩⟩ rfl rfl hl.1 rfl (lv_room (Nat.le_of_ble_eq_true rfl)) d_M_any_13 ⟨Nat.zero_le _, Nat.zero_le _⟩) hD hS hA (fun g13 eg13 H locs hP hD hS => ?_)
      refine K13g g4.2 g13 (Eq.trans (hj.trans (by unfold f_M_any_4g; first | with_reducible exact if_neg e1_24 | exact if_neg e1_24)) (congrArg (fun g13 => f_M_any_13g r0 w0 s0 p1 p2 g4.2 g13) eg13)) i1 j1 H locs ?_ ?_ hS ls (lv_sub hl [0, 1, 2] rfl)
      · with_reducible exact hP
      · with_reducible exact hD
  refine lv_aload_n hx hb d_M_any_0 rfl (lv_at hl 0 rfl) ?_
  refine lv_iload_n hx hb d_M_any_1 rfl (lv_at hl 1 rfl) ?_
  refine lv_iconst (v := 0) hx hb d_M_any_2 (by decide) ?_
  refine lv_iconst (v := 0) hx hb d_M_any_3 (by decide) ?_
  refine mm_z (F := f_M_noPlace p1 0 0) (w1 := fun g4 => (mW ad cJ cZ g4.2 r0 w0 s0)) (va_runV (As := [.int (p1), .int (0), .int (0)]) (rest := []) ⟨hx, hb, hml, hown, hts⟩ (c_M_noPlace l dC dI ad cJ cZ s.heap.size c0 r0 w0 s0 p1 0 0) (cwV 3 hts (gxV gx36 gx37 gx276 gx0 gx38) rfl rfl rfl (by decide +kernel) ⟨(Nat.le_of_ble_eq_true rfl), (Nat.le_of_ble_eq_true rfl)⟩) ⟨blp, va_recv hK hP (ci := 2) (q0 := 0) rfl rfl, fun U hU hW => ⟨rfl, by rw [hU], by rw [hU]; exact hP, va_K.moved hW.alike hK, hD.weaken (fun _ _ _ _ => trivial)⟩⟩ rfl rfl hl.1 rfl (lv_room (Nat.le_of_ble_eq_true rfl)) d_M_any_4 ⟨Nat.zero_le _, Nat.zero_le _⟩) hD hS hA (fun g4 eg4 H locs hP hD hS => ?_)
  have hpg4 := np_ok eg4
  refine K4g g4 (Eq.trans (rfl) (congrArg (fun g4 => f_M_any_4g r0 w0 s0 p1 p2 g4) eg4)) hpg4 H locs ?_ ?_ hS ls (lv_sub hl [0, 1, 2] rfl)
  · with_reducible exact hP
  · with_reducible exact hD
-- constant
theorem d_M_constant_0 : decode b_M_constant 0 = .ok (.aload_n 0, 1) := by decide +kernel
theorem d_M_constant_1 : decode b_M_constant 1 = .ok (.iload_n 1, 1) := by decide +kernel
theorem d_M_constant_2 : decode b_M_constant 2 = .ok (.iconst 0, 1) := by decide +kernel
theorem d_M_constant_3 : decode b_M_constant 3 = .ok (.iconst 0, 1) := by decide +kernel
theorem d_M_constant_4 : decode b_M_constant 4 = .ok (.invokevirtual 98, 3) := by decide +kernel
theorem d_M_constant_7 : decode b_M_constant 7 = .ok (.ifCond .ne 18, 3) := by decide +kernel
theorem d_M_constant_10 : decode b_M_constant 10 = .ok (.aload_n 0, 1) := by decide +kernel
theorem d_M_constant_11 : decode b_M_constant 11 = .ok (.bipush 18, 2) := by decide +kernel
theorem d_M_constant_13 : decode b_M_constant 13 = .ok (.lload_n 2, 1) := by decide +kernel
theorem d_M_constant_14 : decode b_M_constant 14 = .ok (.invokevirtual 109, 3) := by decide +kernel
theorem d_M_constant_17 : decode b_M_constant 17 = .ok (.aload_n 0, 1) := by decide +kernel
theorem d_M_constant_18 : decode b_M_constant 18 = .ok (.iload_n 1, 1) := by decide +kernel
theorem d_M_constant_19 : decode b_M_constant 19 = .ok (.bipush 18, 2) := by decide +kernel
theorem d_M_constant_21 : decode b_M_constant 21 = .ok (.lload_n 2, 1) := by decide +kernel
theorem d_M_constant_22 : decode b_M_constant 22 = .ok (.invokevirtual 105, 3) := by decide +kernel
theorem d_M_constant_25 : decode b_M_constant 25 = .ok (.return_, 1) := by decide +kernel
def f_M_constant_22g (r0 : (Nat → VV)) (w0 : (Nat → Int64)) (s0 : Int32) (p1 : Int32) (p2 : Int64) (c14g : Int32) (g22 : (Nat → VV) × (Nat → Int64) × Int32) : Int32 × (Nat → VV) × (Nat → Int64) × Int32 := (c14g, g22.1, g22.2.1, g22.2.2)
def f_M_constant_14g (r0 : (Nat → VV)) (w0 : (Nat → Int64)) (s0 : Int32) (p1 : Int32) (p2 : Int64) (c14g : Int32) (g14 : (Nat → VV)) : Int32 × (Nat → VV) × (Nat → Int64) × Int32 := f_M_constant_22g r0 w0 s0 p1 p2 c14g (f_M_put g14 w0 s0 p1.toNatClampNeg 18 p2)
def f_M_constant_4g (r0 : (Nat → VV)) (w0 : (Nat → Int64)) (s0 : Int32) (p1 : Int32) (p2 : Int64) (g4 : Bool × Int32) : Int32 × (Nat → VV) × (Nat → Int64) × Int32 := (if g4.1 = true then (g4.2, r0, w0, s0) else f_M_constant_14g r0 w0 s0 p1 p2 g4.2 (f_M_single r0 18 p2))
def f_M_constant (r0 : (Nat → VV)) (w0 : (Nat → Int64)) (s0 : Int32) (p1 : Int32) (p2 : Int64) : Int32 × (Nat → VV) × (Nat → Int64) × Int32 := f_M_constant_4g r0 w0 s0 p1 p2 (f_M_noPlace p1 0 0)
set_option maxRecDepth 100000 in
set_option maxHeartbeats 4000000 in
theorem c_M_constant (l : Launch) (dC : Nat → ClassId) (dI : Nat → Nat → Nat) (ad : Nat → Nat) (cJ cZ : ClassId) (sz : Nat) (c0 : Int32) (r0 : (Nat → VV)) (w0 : (Nat → Int64)) (s0 : Int32) (p1 : Int32) (p2 : Int64) : Met l y_M_constant w_M_constant ({ frames := 4, cells := 0, slots := 0, locals := 91 } : Room) (va_Pc [.ref (ad 0), .int (p1), .long (p2)] (nP (dC, dI) (mT cJ cZ) (mW ad cJ cZ c0 r0 w0 s0) sz)) (va_Qv (fun _ : Unit => True) (mB (dC, dI) (va_A (mW ad cJ cZ c0 r0 w0 s0) sz) (mW ad cJ cZ (f_M_constant r0 w0 s0 p1 p2).1 (f_M_constant r0 w0 s0 p1 p2).2.1 (f_M_constant r0 w0 s0 p1 p2).2.2.1 (f_M_constant r0 w0 s0 p1 p2).2.2.2)) (va_A (mW ad cJ cZ c0 r0 w0 s0) sz)) 0 0 (va_A (mW ad cJ cZ c0 r0 w0 s0) sz) := by
  refine Met.ofW (cc := b_M_constant) (maxL := 4) (ret := none) (by decide) rfl ?_
  intro p e s m args below meth c s₁ B hml hv
  obtain ⟨rfl, hsz, hP, hK, hD0⟩ := hv
  have hx := B.exec
  have hb := B.bytes
  have hr := B.returns
  have hts := atoms_spec (ws := w_M_constant) B.pre
  have hG : ∀ w ∈ gM, w.before _ s = true := fun w h => hts w (List.mem_cons_of_mem _ h)
  have hown : s.vm.findClass R_M = some m.cls := findClass_of_methodNamed B.named
  have hlocks := B.notSynchronized
  subst hsz
  have hD := hD0.self (sz := s.heap.size)
  generalize hAe : va_A (mW ad cJ cZ c0 r0 w0 s0) s.heap.size = A at hD ⊢
  have hA : ∀ q : Nat, s.heap.size ≤ q → A q := fun q h => by rw [← hAe]; exact Or.inr h
  have hS : va_S A s.heap s.heap [] := va_S.rf
  have hl := lv_entry ([.ref (ad 0), .int (p1), .long (p2)]) (n := 4) (Nat.le_of_ble_eq_true rfl)
  rw [lg_entry_eq]
  generalize (lg_sl ([.ref (ad 0), .int (p1), .long (p2)]) ++ List.replicate (4 - (lg_sl ([.ref (ad 0), .int (p1), .long (p2)])).length) Slot.unset).toArray = ls at hl ⊢
  have hl : lv_has ls 4 [(0, .ref (ad 0)), (1, .int (p1)), (2, .long (p2))] := hl
  have K22g : ∀ (c14g : Int32) (g22 : (Nat → VV) × (Nat → Int64) × Int32) (hj : f_M_constant r0 w0 s0 p1 p2 = f_M_constant_22g r0 w0 s0 p1 p2 c14g g22) (hf0 : p1 = nI p1.toNatClampNeg) (hf1 : p1.toNatClampNeg < 16) (H : Heap) (locs : List Loc) (hP : va_P (dC, dI) classes (mW ad cJ cZ c14g g22.1 g22.2.1 g22.2.2) H) (hD : va_D A (mW ad cJ cZ c14g g22.1 g22.2.1 g22.2.2)) (hS : va_S A s.heap H locs) (ls : Array Slot) (hl : lv_has ls 4 []), W p l e (headSpec w_M_constant ({ frames := 4, cells := 0, slots := 0, locals := 91 } : Room)).room s m ([.ref (ad 0), .int (p1), .long (p2)] : List Value).toArray below meth c H locs 0 0 (MQ below (va_Qv (fun _ : Unit => True) (mB (dC, dI) A (mW ad cJ cZ (f_M_constant r0 w0 s0 p1 p2).1 (f_M_constant r0 w0 s0 p1 p2).2.1 (f_M_constant r0 w0 s0 p1 p2).2.2.1 (f_M_constant r0 w0 s0 p1 p2).2.2.2)) A) ([.ref (ad 0), .int (p1), .long (p2)] : List Value).toArray s 0 0 A) (F0 m 25 ls []) := by
    intro c14g g22 hj hf0 hf1 H locs hP hD hS ls hl
    have fe : f_M_constant r0 w0 s0 p1 p2 = (c14g, g22.1, g22.2.1, g22.2.2) := hj.trans rfl
    exact W.vret hx hb hr (fun t ht hW => ⟨⟨(), rfl, trivial, by rw [ht, fe]; exact hP, by rw [fe]; exact hD⟩, hS.F ht⟩) hS.2.2 d_M_constant_25
  have K14g : ∀ (c14g : Int32) (g14 : (Nat → VV)) (hj : f_M_constant r0 w0 s0 p1 p2 = f_M_constant_14g r0 w0 s0 p1 p2 c14g g14) (hf0 : p1 = nI p1.toNatClampNeg) (hf1 : p1.toNatClampNeg < 16) (H : Heap) (locs : List Loc) (hP : va_P (dC, dI) classes (mW ad cJ cZ c14g g14 w0 s0) H) (hD : va_D A (mW ad cJ cZ c14g g14 w0 s0)) (hS : va_S A s.heap H locs) (ls : Array Slot) (hl : lv_has ls 4 [(0, .ref (ad 0)), (1, .int (p1)), (2, .long (p2))]), W p l e (headSpec w_M_constant ({ frames := 4, cells := 0, slots := 0, locals := 91 } : Room)).room s m ([.ref (ad 0), .int (p1), .long (p2)] : List Value).toArray below meth c H locs 0 0 (MQ below (va_Qv (fun _ : Unit => True) (mB (dC, dI) A (mW ad cJ cZ (f_M_constant r0 w0 s0 p1 p2).1 (f_M_constant r0 w0 s0 p1 p2).2.1 (f_M_constant r0 w0 s0 p1 p2).2.2.1 (f_M_constant r0 w0 s0 p1 p2).2.2.2)) A) ([.ref (ad 0), .int (p1), .long (p2)] : List Value).toArray s 0 0 A) (F0 m 17 ls []) := by
    intro c14g g14 hj hf0 hf1 H locs hP hD hS ls hl
    refine lv_aload_n hx hb d_M_constant_17 rfl (lv_at hl 0 rfl) ?_
    refine lv_iload_n hx hb d_M_constant_18 rfl (lv_at hl 1 rfl) ?_
    refine top_i hf0 ?_
    refine lv_bipush (v := 18) hx hb d_M_constant_19 (by decide) ?_
    refine lv_lload_n hx hb d_M_constant_21 rfl (lv_at hl 2 rfl) ?_
    refine mm_v (F := f_M_put g14 w0 s0 p1.toNatClampNeg 18 p2) (w1 := fun g22 => (mW ad cJ cZ c14g g22.1 g22.2.1 g22.2.2)) (va_runV (As := [.int (nI p1.toNatClampNeg), .int (18), .long (p2)]) (rest := []) ⟨hx, hb, hml, hown, hts⟩ (c_M_put l dC dI ad cJ cZ H.size c14g g14 w0 s0 p1.toNatClampNeg 18 p2 hf1 (by decide)) (cwV 3 hts (gxV gx45 gx46 gx278 gx0 gx47) rfl rfl rfl (by decide +kernel) ⟨(Nat.le_of_ble_eq_true rfl), (Nat.le_of_ble_eq_true rfl)⟩) ⟨blp, va_recv hK hP (ci := 2) (q0 := 0) rfl rfl, fun U hU hW => ⟨rfl, by rw [hU], by rw [hU]; exact hP, va_K.moved hW.alike hK, hD.weaken (fun _ _ _ _ => trivial)⟩⟩ rfl rfl hl.1 rfl (lv_room (Nat.le_of_ble_eq_true rfl)) d_M_constant_22 ⟨Nat.zero_le _, Nat.zero_le _⟩) hD hS hA (fun g22 eg22 H locs hP hD hS => ?_)
    refine K22g c14g g22 (Eq.trans (hj.trans rfl) (congrArg (fun g22 => f_M_constant_22g r0 w0 s0 p1 p2 c14g g22) eg22)) hf0 hf1 H locs ?_ ?_ hS ls (lv_sub hl [] rfl)
    · with_reducible exact hP
    · with_reducible exact hD
  have K4g : ∀ (g4 : Bool × Int32) (hj : f_M_constant r0 w0 s0 p1 p2 = f_M_constant_4g r0 w0 s0 p1 p2 g4) (hf0 : npF g4.1 p1 0 0) (H : Heap) (locs : List Loc) (hP : va_P (dC, dI) classes (mW ad cJ cZ g4.2 r0 w0 s0) H) (hD : va_D A (mW ad cJ cZ g4.2 r0 w0 s0)) (hS : va_S A s.heap H locs) (ls : Array Slot) (hl : lv_has ls 4 [(0, .ref (ad 0)), (1, .int (p1)), (2, .long (p2))]), W p l e (headSpec w_M_constant ({ frames := 4, cells := 0, slots := 0, locals := 91 } : Room)).room s m ([.ref (ad 0), .int (p1), .long (p2)] : List Value).toArray below meth c H locs 0 0 (MQ below (va_Qv (fun _ : Unit => True) (mB (dC, dI) A (mW ad cJ cZ (f_M_constant r0 w0 s0 p1 p2).1 (f_M_constant r0 w0 s0 p1 p2).2.1 (f_M_constant r0 w0 s0 p1 p2).2.2.1 (f_M_constant r0 w0 s0 p1 p2).2.2.2)) A) ([.ref (ad 0), .int (p1), .long (p2)] : List Value).toArray s 0 0 A) (F0 m 7 ls [.int (bI g4.1)]) := by
    intro g4 hj hf0 H locs hP hD hS ls hl
    refine wz_ne (tgt := 25) hx hb d_M_constant_7 (by decide) (fun e1_25 => ?_) (fun e1_25 => ?_)
    · have fe : f_M_constant r0 w0 s0 p1 p2 = (g4.2, r0, w0, s0) := hj.trans (by unfold f_M_constant_4g; first | with_reducible exact if_pos e1_25 | exact if_pos e1_25)
      exact W.vret hx hb hr (fun t ht hW => ⟨⟨(), rfl, trivial, by rw [ht, fe]; exact hP, by rw [fe]; exact hD⟩, hS.F ht⟩) hS.2.2 d_M_constant_25
    · obtain ⟨⟨i1, j1⟩, ⟨i2, j2⟩, ⟨i3, j3⟩⟩ := npF_of hf0 e1_25
      refine lv_aload_n hx hb d_M_constant_10 rfl (lv_at hl 0 rfl) ?_
      refine lv_bipush (v := 18) hx hb d_M_constant_11 (by decide) ?_
      refine lv_lload_n hx hb d_M_constant_13 rfl (lv_at hl 2 rfl) ?_
      refine mm_v (F := f_M_single r0 18 p2) (w1 := fun g14 => (mW ad cJ cZ g4.2 g14 w0 s0)) (va_runV (As := [.int (18), .long (p2)]) (rest := []) ⟨hx, hb, hml, hown, hts⟩ (c_M_single l dC dI ad cJ cZ H.size g4.2 r0 w0 s0 18 p2 (by decide)) (cwV 2 hts (gxV gx63 gx64 gx275 gx0 gx65) rfl rfl rfl (by decide +kernel) ⟨(Nat.le_of_ble_eq_true rfl), (Nat.le_of_ble_eq_true rfl)⟩) ⟨blp, va_recv hK hP (ci := 2) (q0 := 0) rfl rfl, fun U hU hW => ⟨rfl, by rw [hU], by rw [hU]; exact hP, va_K.moved hW.alike hK, hD.weaken (fun _ _ _ _ => trivial)⟩⟩ rfl rfl hl.1 rfl (lv_room (Nat.le_of_ble_eq_true rfl)) d_M_constant_14 ⟨Nat.zero_le _, Nat.zero_le _⟩) hD hS hA (fun g14 eg14 H locs hP hD hS => ?_)
      refine K14g g4.2 g14 (Eq.trans (hj.trans (by unfold f_M_constant_4g; first | with_reducible exact if_neg e1_25 | exact if_neg e1_25)) (congrArg (fun g14 => f_M_constant_14g r0 w0 s0 p1 p2 g4.2 g14) eg14)) i1 j1 H locs ?_ ?_ hS ls (lv_sub hl [0, 1, 2] rfl)
      · with_reducible exact hP
      · with_reducible exact hD
  refine lv_aload_n hx hb d_M_constant_0 rfl (lv_at hl 0 rfl) ?_
  refine lv_iload_n hx hb d_M_constant_1 rfl (lv_at hl 1 rfl) ?_
  refine lv_iconst (v := 0) hx hb d_M_constant_2 (by decide) ?_
  refine lv_iconst (v := 0) hx hb d_M_constant_3 (by decide) ?_
  refine mm_z (F := f_M_noPlace p1 0 0) (w1 := fun g4 => (mW ad cJ cZ g4.2 r0 w0 s0)) (va_runV (As := [.int (p1), .int (0), .int (0)]) (rest := []) ⟨hx, hb, hml, hown, hts⟩ (c_M_noPlace l dC dI ad cJ cZ s.heap.size c0 r0 w0 s0 p1 0 0) (cwV 3 hts (gxV gx36 gx37 gx276 gx0 gx38) rfl rfl rfl (by decide +kernel) ⟨(Nat.le_of_ble_eq_true rfl), (Nat.le_of_ble_eq_true rfl)⟩) ⟨blp, va_recv hK hP (ci := 2) (q0 := 0) rfl rfl, fun U hU hW => ⟨rfl, by rw [hU], by rw [hU]; exact hP, va_K.moved hW.alike hK, hD.weaken (fun _ _ _ _ => trivial)⟩⟩ rfl rfl hl.1 rfl (lv_room (Nat.le_of_ble_eq_true rfl)) d_M_constant_4 ⟨Nat.zero_le _, Nat.zero_le _⟩) hD hS hA (fun g4 eg4 H locs hP hD hS => ?_)
  have hpg4 := np_ok eg4
  refine K4g g4 (Eq.trans (rfl) (congrArg (fun g4 => f_M_constant_4g r0 w0 s0 p1 p2 g4) eg4)) hpg4 H locs ?_ ?_ hS ls (lv_sub hl [0, 1, 2] rfl)
  · with_reducible exact hP
  · with_reducible exact hD
-- between
theorem d_M_between_0 : decode b_M_between 0 = .ok (.aload_n 0, 1) := by decide +kernel
theorem d_M_between_1 : decode b_M_between 1 = .ok (.iload_n 1, 1) := by decide +kernel
theorem d_M_between_2 : decode b_M_between 2 = .ok (.iconst 0, 1) := by decide +kernel
theorem d_M_between_3 : decode b_M_between 3 = .ok (.iconst 0, 1) := by decide +kernel
theorem d_M_between_4 : decode b_M_between 4 = .ok (.invokevirtual 98, 3) := by decide +kernel
theorem d_M_between_7 : decode b_M_between 7 = .ok (.ifCond .eq 4, 3) := by decide +kernel
theorem d_M_between_10 : decode b_M_between 10 = .ok (.return_, 1) := by decide +kernel
theorem d_M_between_11 : decode b_M_between 11 = .ok (.aload_n 0, 1) := by decide +kernel
theorem d_M_between_12 : decode b_M_between 12 = .ok (.iload_n 2, 1) := by decide +kernel
theorem d_M_between_13 : decode b_M_between 13 = .ok (.ifCond .eq 30, 3) := by decide +kernel
theorem d_M_between_16 : decode b_M_between 16 = .ok (.lload 7, 2) := by decide +kernel
theorem d_M_between_18 : decode b_M_between 18 = .ok (.lload_n 3, 1) := by decide +kernel
theorem d_M_between_19 : decode b_M_between 19 = .ok (.invokestatic 39, 3) := by decide +kernel
theorem d_M_between_22 : decode b_M_between 22 = .ok (.ifCond .ne 13, 3) := by decide +kernel
theorem d_M_between_25 : decode b_M_between 25 = .ok (.lload 5, 2) := by decide +kernel
theorem d_M_between_27 : decode b_M_between 27 = .ok (.lload 7, 2) := by decide +kernel
theorem d_M_between_29 : decode b_M_between 29 = .ok (.invokestatic 39, 3) := by decide +kernel
theorem d_M_between_32 : decode b_M_between 32 = .ok (.ifCond .eq 7, 3) := by decide +kernel
theorem d_M_between_35 : decode b_M_between 35 = .ok (.iconst 2, 1) := by decide +kernel
theorem d_M_between_36 : decode b_M_between 36 = .ok (.goto 27, 3) := by decide +kernel
theorem d_M_between_39 : decode b_M_between 39 = .ok (.iconst 0, 1) := by decide +kernel
theorem d_M_between_40 : decode b_M_between 40 = .ok (.goto 23, 3) := by decide +kernel
theorem d_M_between_43 : decode b_M_between 43 = .ok (.lload 7, 2) := by decide +kernel
theorem d_M_between_45 : decode b_M_between 45 = .ok (.lload_n 3, 1) := by decide +kernel
theorem d_M_between_46 : decode b_M_between 46 = .ok (.lcmp, 1) := by decide +kernel
theorem d_M_between_47 : decode b_M_between 47 = .ok (.ifCond .lt 11, 3) := by decide +kernel
theorem d_M_between_50 : decode b_M_between 50 = .ok (.lload 7, 2) := by decide +kernel
theorem d_M_between_52 : decode b_M_between 52 = .ok (.lload 5, 2) := by decide +kernel
theorem d_M_between_54 : decode b_M_between 54 = .ok (.lcmp, 1) := by decide +kernel
theorem d_M_between_55 : decode b_M_between 55 = .ok (.ifCond .le 7, 3) := by decide +kernel
theorem d_M_between_58 : decode b_M_between 58 = .ok (.iconst 2, 1) := by decide +kernel
theorem d_M_between_59 : decode b_M_between 59 = .ok (.goto 4, 3) := by decide +kernel
theorem d_M_between_62 : decode b_M_between 62 = .ok (.iconst 0, 1) := by decide +kernel
theorem d_M_between_63 : decode b_M_between 63 = .ok (.putfield 35, 3) := by decide +kernel
theorem d_M_between_66 : decode b_M_between 66 = .ok (.aload_n 0, 1) := by decide +kernel
theorem d_M_between_67 : decode b_M_between 67 = .ok (.getfield 35, 3) := by decide +kernel
theorem d_M_between_70 : decode b_M_between 70 = .ok (.ifCond .le 4, 3) := by decide +kernel
theorem d_M_between_73 : decode b_M_between 73 = .ok (.return_, 1) := by decide +kernel
theorem d_M_between_74 : decode b_M_between 74 = .ok (.aload_n 0, 1) := by decide +kernel
theorem d_M_between_75 : decode b_M_between 75 = .ok (.bipush 18, 2) := by decide +kernel
theorem d_M_between_77 : decode b_M_between 77 = .ok (.invokevirtual 102, 3) := by decide +kernel
theorem d_M_between_80 : decode b_M_between 80 = .ok (.iload_n 2, 1) := by decide +kernel
theorem d_M_between_81 : decode b_M_between 81 = .ok (.ifCond .eq 23, 3) := by decide +kernel
theorem d_M_between_84 : decode b_M_between 84 = .ok (.aload_n 0, 1) := by decide +kernel
theorem d_M_between_85 : decode b_M_between 85 = .ok (.getfield 16, 3) := by decide +kernel
theorem d_M_between_88 : decode b_M_between 88 = .ok (.bipush 18, 2) := by decide +kernel
theorem d_M_between_90 : decode b_M_between 90 = .ok (.lload_n 3, 1) := by decide +kernel
theorem d_M_between_91 : decode b_M_between 91 = .ok (.lastore, 1) := by decide +kernel
theorem d_M_between_92 : decode b_M_between 92 = .ok (.aload_n 0, 1) := by decide +kernel
theorem d_M_between_93 : decode b_M_between 93 = .ok (.getfield 19, 3) := by decide +kernel
theorem d_M_between_96 : decode b_M_between 96 = .ok (.bipush 18, 2) := by decide +kernel
theorem d_M_between_98 : decode b_M_between 98 = .ok (.lload 5, 2) := by decide +kernel
theorem d_M_between_100 : decode b_M_between 100 = .ok (.lastore, 1) := by decide +kernel
theorem d_M_between_101 : decode b_M_between 101 = .ok (.goto 20, 3) := by decide +kernel
theorem d_M_between_104 : decode b_M_between 104 = .ok (.aload_n 0, 1) := by decide +kernel
theorem d_M_between_105 : decode b_M_between 105 = .ok (.getfield 22, 3) := by decide +kernel
theorem d_M_between_108 : decode b_M_between 108 = .ok (.bipush 18, 2) := by decide +kernel
theorem d_M_between_110 : decode b_M_between 110 = .ok (.lload_n 3, 1) := by decide +kernel
theorem d_M_between_111 : decode b_M_between 111 = .ok (.lastore, 1) := by decide +kernel
theorem d_M_between_112 : decode b_M_between 112 = .ok (.aload_n 0, 1) := by decide +kernel
theorem d_M_between_113 : decode b_M_between 113 = .ok (.getfield 25, 3) := by decide +kernel
theorem d_M_between_116 : decode b_M_between 116 = .ok (.bipush 18, 2) := by decide +kernel
theorem d_M_between_118 : decode b_M_between 118 = .ok (.lload 5, 2) := by decide +kernel
theorem d_M_between_120 : decode b_M_between 120 = .ok (.lastore, 1) := by decide +kernel
theorem d_M_between_121 : decode b_M_between 121 = .ok (.aload_n 0, 1) := by decide +kernel
theorem d_M_between_122 : decode b_M_between 122 = .ok (.bipush 18, 2) := by decide +kernel
theorem d_M_between_124 : decode b_M_between 124 = .ok (.invokevirtual 113, 3) := by decide +kernel
theorem d_M_between_127 : decode b_M_between 127 = .ok (.aload_n 0, 1) := by decide +kernel
theorem d_M_between_128 : decode b_M_between 128 = .ok (.iload_n 1, 1) := by decide +kernel
theorem d_M_between_129 : decode b_M_between 129 = .ok (.bipush 18, 2) := by decide +kernel
theorem d_M_between_131 : decode b_M_between 131 = .ok (.lload 7, 2) := by decide +kernel
theorem d_M_between_133 : decode b_M_between 133 = .ok (.invokevirtual 105, 3) := by decide +kernel
theorem d_M_between_136 : decode b_M_between 136 = .ok (.return_, 1) := by decide +kernel
def f_M_between_133g (r0 : (Nat → VV)) (w0 : (Nat → Int64)) (s0 : Int32) (p1 : Int32) (p2 : Bool) (p3 : Int64) (p4 : Int64) (p5 : Int64) (s63_0 : Int32) (g133 : (Nat → VV) × (Nat → Int64) × Int32) : Int32 × (Nat → VV) × (Nat → Int64) × Int32 := (s63_0, g133.1, g133.2.1, g133.2.2)
def f_M_between_124g (r0 : (Nat → VV)) (w0 : (Nat → Int64)) (s0 : Int32) (p1 : Int32) (p2 : Bool) (p3 : Int64) (p4 : Int64) (p5 : Int64) (s63_0 : Int32) (g124 : (Nat → VV)) : Int32 × (Nat → VV) × (Nat → Int64) × Int32 := f_M_between_133g r0 w0 s0 p1 p2 p3 p4 p5 s63_0 (f_M_put g124 w0 s0 p1.toNatClampNeg 18 p5)
def f_M_between_121 (r0 : (Nat → VV)) (w0 : (Nat → Int64)) (s0 : Int32) (p1 : Int32) (p2 : Bool) (p3 : Int64) (p4 : Int64) (p5 : Int64) (s63_0 : Int32) (r121 : (Nat → VV)) : Int32 × (Nat → VV) × (Nat → Int64) × Int32 := f_M_between_124g r0 w0 s0 p1 p2 p3 p4 p5 s63_0 (f_M_tighten r121 18)
def f_M_between_120u (r0 : (Nat → VV)) (w0 : (Nat → Int64)) (s0 : Int32) (p1 : Int32) (p2 : Bool) (p3 : Int64) (p4 : Int64) (p5 : Int64) (s63_0 : Int32) (r120n : (Nat → VV)) : Int32 × (Nat → VV) × (Nat → Int64) × Int32 := f_M_between_121 r0 w0 s0 p1 p2 p3 p4 p5 s63_0 r120n
def f_M_between_111u (r0 : (Nat → VV)) (w0 : (Nat → Int64)) (s0 : Int32) (p1 : Int32) (p2 : Bool) (p3 : Int64) (p4 : Int64) (p5 : Int64) (s63_0 : Int32) (r111n : (Nat → VV)) : Int32 × (Nat → VV) × (Nat → Int64) × Int32 := f_M_between_120u r0 w0 s0 p1 p2 p3 p4 p5 s63_0 (u6 r111n 18 p4)
def f_M_between_100u (r0 : (Nat → VV)) (w0 : (Nat → Int64)) (s0 : Int32) (p1 : Int32) (p2 : Bool) (p3 : Int64) (p4 : Int64) (p5 : Int64) (s63_0 : Int32) (r100n : (Nat → VV)) : Int32 × (Nat → VV) × (Nat → Int64) × Int32 := f_M_between_121 r0 w0 s0 p1 p2 p3 p4 p5 s63_0 r100n
def f_M_between_91u (r0 : (Nat → VV)) (w0 : (Nat → Int64)) (s0 : Int32) (p1 : Int32) (p2 : Bool) (p3 : Int64) (p4 : Int64) (p5 : Int64) (s63_0 : Int32) (r91n : (Nat → VV)) : Int32 × (Nat → VV) × (Nat → Int64) × Int32 := f_M_between_100u r0 w0 s0 p1 p2 p3 p4 p5 s63_0 (u4 r91n 18 p4)
def f_M_between_77g (r0 : (Nat → VV)) (w0 : (Nat → Int64)) (s0 : Int32) (p1 : Int32) (p2 : Bool) (p3 : Int64) (p4 : Int64) (p5 : Int64) (s63_0 : Int32) (g77 : (Nat → VV)) : Int32 × (Nat → VV) × (Nat → Int64) × Int32 := (if p2 = true then f_M_between_91u r0 w0 s0 p1 p2 p3 p4 p5 s63_0 (u3 g77 18 p3) else f_M_between_111u r0 w0 s0 p1 p2 p3 p4 p5 s63_0 (u5 g77 18 p3))
def f_M_between_63 (r0 : (Nat → VV)) (w0 : (Nat → Int64)) (s0 : Int32) (p1 : Int32) (p2 : Bool) (p3 : Int64) (p4 : Int64) (p5 : Int64) (s63_0 : Int32) (c63 : Int32) : Int32 × (Nat → VV) × (Nat → Int64) × Int32 := (if s63_0 ≤ 0 then f_M_between_77g r0 w0 s0 p1 p2 p3 p4 p5 s63_0 (f_M_nothingSaid r0 18) else (s63_0, r0, w0, s0))
def f_M_between_58 (r0 : (Nat → VV)) (w0 : (Nat → Int64)) (s0 : Int32) (p1 : Int32) (p2 : Bool) (p3 : Int64) (p4 : Int64) (p5 : Int64) (c58 : Int32) : Int32 × (Nat → VV) × (Nat → Int64) × Int32 := f_M_between_63 r0 w0 s0 p1 p2 p3 p4 p5 2 c58
def f_M_between_35 (r0 : (Nat → VV)) (w0 : (Nat → Int64)) (s0 : Int32) (p1 : Int32) (p2 : Bool) (p3 : Int64) (p4 : Int64) (p5 : Int64) (c35 : Int32) : Int32 × (Nat → VV) × (Nat → Int64) × Int32 := f_M_between_63 r0 w0 s0 p1 p2 p3 p4 p5 2 c35
def f_M_between_4g (r0 : (Nat → VV)) (w0 : (Nat → Int64)) (s0 : Int32) (p1 : Int32) (p2 : Bool) (p3 : Int64) (p4 : Int64) (p5 : Int64) (g4 : Bool × Int32) : Int32 × (Nat → VV) × (Nat → Int64) × Int32 := (if g4.1 = true then (g4.2, r0, w0, s0) else (if p2 = true then (if (f_M_below p5 p3) = true then f_M_between_35 r0 w0 s0 p1 p2 p3 p4 p5 g4.2 else (if (f_M_below p4 p5) = true then f_M_between_35 r0 w0 s0 p1 p2 p3 p4 p5 g4.2 else f_M_between_63 r0 w0 s0 p1 p2 p3 p4 p5 0 g4.2)) else (if p5 < p3 then f_M_between_58 r0 w0 s0 p1 p2 p3 p4 p5 g4.2 else (if p4 < p5 then f_M_between_58 r0 w0 s0 p1 p2 p3 p4 p5 g4.2 else f_M_between_63 r0 w0 s0 p1 p2 p3 p4 p5 0 g4.2))))
def f_M_between (r0 : (Nat → VV)) (w0 : (Nat → Int64)) (s0 : Int32) (p1 : Int32) (p2 : Bool) (p3 : Int64) (p4 : Int64) (p5 : Int64) : Int32 × (Nat → VV) × (Nat → Int64) × Int32 := f_M_between_4g r0 w0 s0 p1 p2 p3 p4 p5 (f_M_noPlace p1 0 0)
set_option maxRecDepth 100000 in
set_option maxHeartbeats 4000000 in
theorem c_M_between (l : Launch) (dC : Nat → ClassId) (dI : Nat → Nat → Nat) (ad : Nat → Nat) (cJ cZ : ClassId) (sz : Nat) (c0 : Int32) (r0 : (Nat → VV)) (w0 : (Nat → Int64)) (s0 : Int32) (p1 : Int32) (p2 : Bool) (p3 : Int64) (p4 : Int64) (p5 : Int64) : Met l y_M_between w_M_between ({ frames := 6, cells := 0, slots := 0, locals := 183 } : Room) (va_Pc [.ref (ad 0), .int (p1), .int (bI p2), .long (p3), .long (p4), .long (p5)] (nP (dC, dI) (mT cJ cZ) (mW ad cJ cZ c0 r0 w0 s0) sz)) (va_Qv (fun _ : Unit => True) (mB (dC, dI) (va_A (mW ad cJ cZ c0 r0 w0 s0) sz) (mW ad cJ cZ (f_M_between r0 w0 s0 p1 p2 p3 p4 p5).1 (f_M_between r0 w0 s0 p1 p2 p3 p4 p5).2.1 (f_M_between r0 w0 s0 p1 p2 p3 p4 p5).2.2.1 (f_M_between r0 w0 s0 p1 p2 p3 p4 p5).2.2.2)) (va_A (mW ad cJ cZ c0 r0 w0 s0) sz)) 0 0 (va_A (mW ad cJ cZ c0 r0 w0 s0) sz) := by
  refine Met.ofW (cc := b_M_between) (maxL := 9) (ret := none) (by decide) rfl ?_
  intro p e s m args below meth c s₁ B hml hv
  obtain ⟨rfl, hsz, hP, hK, hD0⟩ := hv
  have hx := B.exec
  have hb := B.bytes
  have hr := B.returns
  have hts := atoms_spec (ws := w_M_between) B.pre
  have hG : ∀ w ∈ gM, w.before _ s = true := fun w h => hts w (List.mem_cons_of_mem _ h)
  have hown : s.vm.findClass R_M = some m.cls := findClass_of_methodNamed B.named
  have hlocks := B.notSynchronized
  subst hsz
  have hD := hD0.self (sz := s.heap.size)
  generalize hAe : va_A (mW ad cJ cZ c0 r0 w0 s0) s.heap.size = A at hD ⊢
  have hA : ∀ q : Nat, s.heap.size ≤ q → A q := fun q h => by rw [← hAe]; exact Or.inr h
  have hS : va_S A s.heap s.heap [] := va_S.rf
  have hl := lv_entry ([.ref (ad 0), .int (p1), .int (bI p2), .long (p3), .long (p4), .long (p5)]) (n := 9) (Nat.le_of_ble_eq_true rfl)
  rw [lg_entry_eq]
  generalize (lg_sl ([.ref (ad 0), .int (p1), .int (bI p2), .long (p3), .long (p4), .long (p5)]) ++ List.replicate (9 - (lg_sl ([.ref (ad 0), .int (p1), .int (bI p2), .long (p3), .long (p4), .long (p5)])).length) Slot.unset).toArray = ls at hl ⊢
  have hl : lv_has ls 9 [(0, .ref (ad 0)), (1, .int (p1)), (2, .int (bI p2)), (3, .long (p3)), (5, .long (p4)), (7, .long (p5))] := hl
  have K133g : ∀ (s63_0 : Int32) (g133 : (Nat → VV) × (Nat → Int64) × Int32) (hj : f_M_between r0 w0 s0 p1 p2 p3 p4 p5 = f_M_between_133g r0 w0 s0 p1 p2 p3 p4 p5 s63_0 g133) (hf0 : p1 = nI p1.toNatClampNeg) (hf1 : p1.toNatClampNeg < 16) (H : Heap) (locs : List Loc) (hP : va_P (dC, dI) classes (mW ad cJ cZ s63_0 g133.1 g133.2.1 g133.2.2) H) (hD : va_D A (mW ad cJ cZ s63_0 g133.1 g133.2.1 g133.2.2)) (hS : va_S A s.heap H locs) (ls : Array Slot) (hl : lv_has ls 9 []), W p l e (headSpec w_M_between ({ frames := 6, cells := 0, slots := 0, locals := 183 } : Room)).room s m ([.ref (ad 0), .int (p1), .int (bI p2), .long (p3), .long (p4), .long (p5)] : List Value).toArray below meth c H locs 0 0 (MQ below (va_Qv (fun _ : Unit => True) (mB (dC, dI) A (mW ad cJ cZ (f_M_between r0 w0 s0 p1 p2 p3 p4 p5).1 (f_M_between r0 w0 s0 p1 p2 p3 p4 p5).2.1 (f_M_between r0 w0 s0 p1 p2 p3 p4 p5).2.2.1 (f_M_between r0 w0 s0 p1 p2 p3 p4 p5).2.2.2)) A) ([.ref (ad 0), .int (p1), .int (bI p2), .long (p3), .long (p4), .long (p5)] : List Value).toArray s 0 0 A) (F0 m 136 ls []) := by
    intro s63_0 g133 hj hf0 hf1 H locs hP hD hS ls hl
    have fe : f_M_between r0 w0 s0 p1 p2 p3 p4 p5 = (s63_0, g133.1, g133.2.1, g133.2.2) := hj.trans rfl
    exact W.vret hx hb hr (fun t ht hW => ⟨⟨(), rfl, trivial, by rw [ht, fe]; exact hP, by rw [fe]; exact hD⟩, hS.F ht⟩) hS.2.2 d_M_between_136
  have K124g : ∀ (s63_0 : Int32) (g124 : (Nat → VV)) (hj : f_M_between r0 w0 s0 p1 p2 p3 p4 p5 = f_M_between_124g r0 w0 s0 p1 p2 p3 p4 p5 s63_0 g124) (hf0 : p1 = nI p1.toNatClampNeg) (hf1 : p1.toNatClampNeg < 16) (H : Heap) (locs : List Loc) (hP : va_P (dC, dI) classes (mW ad cJ cZ s63_0 g124 w0 s0) H) (hD : va_D A (mW ad cJ cZ s63_0 g124 w0 s0)) (hS : va_S A s.heap H locs) (ls : Array Slot) (hl : lv_has ls 9 [(0, .ref (ad 0)), (1, .int (p1)), (7, .long (p5))]), W p l e (headSpec w_M_between ({ frames := 6, cells := 0, slots := 0, locals := 183 } : Room)).room s m ([.ref (ad 0), .int (p1), .int (bI p2), .long (p3), .long (p4), .long (p5)] : List Value).toArray below meth c H locs 0 0 (MQ below (va_Qv (fun _ : Unit => True) (mB (dC, dI) A (mW ad cJ cZ (f_M_between r0 w0 s0 p1 p2 p3 p4 p5).1 (f_M_between r0 w0 s0 p1 p2 p3 p4 p5).2.1 (f_M_between r0 w0 s0 p1 p2 p3 p4 p5).2.2.1 (f_M_between r0 w0 s0 p1 p2 p3 p4 p5).2.2.2)) A) ([.ref (ad 0), .int (p1), .int (bI p2), .long (p3), .long (p4), .long (p5)] : List Value).toArray s 0 0 A) (F0 m 127 ls []) := by
    intro s63_0 g124 hj hf0 hf1 H locs hP hD hS ls hl
    refine lv_aload_n hx hb d_M_between_127 rfl (lv_at hl 0 rfl) ?_
    refine lv_iload_n hx hb d_M_between_128 rfl (lv_at hl 1 rfl) ?_
    refine top_i hf0 ?_
    refine lv_bipush (v := 18) hx hb d_M_between_129 (by decide) ?_
    refine lv_lload hx hb d_M_between_131 (lv_at hl 2 rfl) ?_
    refine mm_v (F := f_M_put g124 w0 s0 p1.toNatClampNeg 18 p5) (w1 := fun g133 => (mW ad cJ cZ s63_0 g133.1 g133.2.1 g133.2.2)) (va_runV (As := [.int (nI p1.toNatClampNeg), .int (18), .long (p5)]) (rest := []) ⟨hx, hb, hml, hown, hts⟩ (c_M_put l dC dI ad cJ cZ H.size s63_0 g124 w0 s0 p1.toNatClampNeg 18 p5 hf1 (by decide)) (cwV 3 hts (gxV gx45 gx46 gx278 gx0 gx47) rfl rfl rfl (by decide +kernel) ⟨(Nat.le_of_ble_eq_true rfl), (Nat.le_of_ble_eq_true rfl)⟩) ⟨blp, va_recv hK hP (ci := 2) (q0 := 0) rfl rfl, fun U hU hW => ⟨rfl, by rw [hU], by rw [hU]; exact hP, va_K.moved hW.alike hK, hD.weaken (fun _ _ _ _ => trivial)⟩⟩ rfl rfl hl.1 rfl (lv_room (Nat.le_of_ble_eq_true rfl)) d_M_between_133 ⟨Nat.zero_le _, Nat.zero_le _⟩) hD hS hA (fun g133 eg133 H locs hP hD hS => ?_)
    refine K133g s63_0 g133 (Eq.trans (hj.trans rfl) (congrArg (fun g133 => f_M_between_133g r0 w0 s0 p1 p2 p3 p4 p5 s63_0 g133) eg133)) hf0 hf1 H locs ?_ ?_ hS ls (lv_sub hl [] rfl)
    · with_reducible exact hP
    · with_reducible exact hD
  have K121 : ∀ (s63_0 : Int32) (r121 : (Nat → VV)) (hj : f_M_between r0 w0 s0 p1 p2 p3 p4 p5 = f_M_between_121 r0 w0 s0 p1 p2 p3 p4 p5 s63_0 r121) (hf0 : p1 = nI p1.toNatClampNeg) (hf1 : p1.toNatClampNeg < 16) (H : Heap) (locs : List Loc) (hP : va_P (dC, dI) classes (mW ad cJ cZ s63_0 r121 w0 s0) H) (hD : va_D A (mW ad cJ cZ s63_0 r121 w0 s0)) (hS : va_S A s.heap H locs) (ls : Array Slot) (hl : lv_has ls 9 [(0, .ref (ad 0)), (1, .int (p1)), (7, .long (p5))]), W p l e (headSpec w_M_between ({ frames := 6, cells := 0, slots := 0, locals := 183 } : Room)).room s m ([.ref (ad 0), .int (p1), .int (bI p2), .long (p3), .long (p4), .long (p5)] : List Value).toArray below meth c H locs 0 0 (MQ below (va_Qv (fun _ : Unit => True) (mB (dC, dI) A (mW ad cJ cZ (f_M_between r0 w0 s0 p1 p2 p3 p4 p5).1 (f_M_between r0 w0 s0 p1 p2 p3 p4 p5).2.1 (f_M_between r0 w0 s0 p1 p2 p3 p4 p5).2.2.1 (f_M_between r0 w0 s0 p1 p2 p3 p4 p5).2.2.2)) A) ([.ref (ad 0), .int (p1), .int (bI p2), .long (p3), .long (p4), .long (p5)] : List Value).toArray s 0 0 A) (F0 m 121 ls []) := by
    intro s63_0 r121 hj hf0 hf1 H locs hP hD hS ls hl
    refine lv_aload_n hx hb d_M_between_121 rfl (lv_at hl 0 rfl) ?_
    refine lv_bipush (v := 18) hx hb d_M_between_122 (by decide) ?_
    refine mm_v (F := f_M_tighten r121 18) (w1 := fun g124 => (mW ad cJ cZ s63_0 g124 w0 s0)) (va_runV (As := [.int (18)]) (rest := []) ⟨hx, hb, hml, hown, hts⟩ (c_M_tighten l dC dI ad cJ cZ H.size s63_0 r121 w0 s0 18 (by decide)) (cwV 1 hts (gxV gx69 gx70 gx274 gx0 gx71) rfl rfl rfl (by decide +kernel) ⟨(Nat.le_of_ble_eq_true rfl), (Nat.le_of_ble_eq_true rfl)⟩) ⟨blp, va_recv hK hP (ci := 2) (q0 := 0) rfl rfl, fun U hU hW => ⟨rfl, by rw [hU], by rw [hU]; exact hP, va_K.moved hW.alike hK, hD.weaken (fun _ _ _ _ => trivial)⟩⟩ rfl rfl hl.1 rfl (lv_room (Nat.le_of_ble_eq_true rfl)) d_M_between_124 ⟨Nat.zero_le _, Nat.zero_le _⟩) hD hS hA (fun g124 eg124 H locs hP hD hS => ?_)
    refine K124g s63_0 g124 (Eq.trans (hj.trans rfl) (congrArg (fun g124 => f_M_between_124g r0 w0 s0 p1 p2 p3 p4 p5 s63_0 g124) eg124)) hf0 hf1 H locs ?_ ?_ hS ls (lv_sub hl [0, 1, 2] rfl)
    · with_reducible exact hP
    · with_reducible exact hD
  have K120u : ∀ (s63_0 : Int32) (r120n : (Nat → VV)) (hj : f_M_between r0 w0 s0 p1 p2 p3 p4 p5 = f_M_between_120u r0 w0 s0 p1 p2 p3 p4 p5 s63_0 r120n) (hf0 : p1 = nI p1.toNatClampNeg) (hf1 : p1.toNatClampNeg < 16) (H : Heap) (locs : List Loc) (hP : va_P (dC, dI) classes (mW ad cJ cZ s63_0 r120n w0 s0) H) (hD : va_D A (mW ad cJ cZ s63_0 r120n w0 s0)) (hS : va_S A s.heap H locs) (ls : Array Slot) (hl : lv_has ls 9 [(0, .ref (ad 0)), (1, .int (p1)), (7, .long (p5))]), W p l e (headSpec w_M_between ({ frames := 6, cells := 0, slots := 0, locals := 183 } : Room)).room s m ([.ref (ad 0), .int (p1), .int (bI p2), .long (p3), .long (p4), .long (p5)] : List Value).toArray below meth c H locs 0 0 (MQ below (va_Qv (fun _ : Unit => True) (mB (dC, dI) A (mW ad cJ cZ (f_M_between r0 w0 s0 p1 p2 p3 p4 p5).1 (f_M_between r0 w0 s0 p1 p2 p3 p4 p5).2.1 (f_M_between r0 w0 s0 p1 p2 p3 p4 p5).2.2.1 (f_M_between r0 w0 s0 p1 p2 p3 p4 p5).2.2.2)) A) ([.ref (ad 0), .int (p1), .int (bI p2), .long (p3), .long (p4), .long (p5)] : List Value).toArray s 0 0 A) (F0 m 121 ls []) := by
    intro s63_0 r120n hj hf0 hf1 H locs hP hD hS ls hl
    refine K121 s63_0 r120n (hj.trans rfl) hf0 hf1 H locs ?_ ?_ hS ls (lv_sub hl [0, 1, 2] rfl)
    · with_reducible exact hP
    · with_reducible exact hD
  have K111u : ∀ (s63_0 : Int32) (r111n : (Nat → VV)) (hj : f_M_between r0 w0 s0 p1 p2 p3 p4 p5 = f_M_between_111u r0 w0 s0 p1 p2 p3 p4 p5 s63_0 r111n) (hf0 : p1 = nI p1.toNatClampNeg) (hf1 : p1.toNatClampNeg < 16) (H : Heap) (locs : List Loc) (hP : va_P (dC, dI) classes (mW ad cJ cZ s63_0 r111n w0 s0) H) (hD : va_D A (mW ad cJ cZ s63_0 r111n w0 s0)) (hS : va_S A s.heap H locs) (ls : Array Slot) (hl : lv_has ls 9 [(0, .ref (ad 0)), (1, .int (p1)), (5, .long (p4)), (7, .long (p5))]), W p l e (headSpec w_M_between ({ frames := 6, cells := 0, slots := 0, locals := 183 } : Room)).room s m ([.ref (ad 0), .int (p1), .int (bI p2), .long (p3), .long (p4), .long (p5)] : List Value).toArray below meth c H locs 0 0 (MQ below (va_Qv (fun _ : Unit => True) (mB (dC, dI) A (mW ad cJ cZ (f_M_between r0 w0 s0 p1 p2 p3 p4 p5).1 (f_M_between r0 w0 s0 p1 p2 p3 p4 p5).2.1 (f_M_between r0 w0 s0 p1 p2 p3 p4 p5).2.2.1 (f_M_between r0 w0 s0 p1 p2 p3 p4 p5).2.2.2)) A) ([.ref (ad 0), .int (p1), .int (bI p2), .long (p3), .long (p4), .long (p5)] : List Value).toArray s 0 0 A) (F0 m 112 ls []) := by
    intro s63_0 r111n hj hf0 hf1 H locs hP hD hS ls hl
    refine lv_aload_n hx hb d_M_between_112 rfl (lv_at hl 0 rfl) ?_
    refine va_get (D := (dC, dI)) (ci := 2) (v := .ref (ad 6)) (C := R_M) (T := F_M) (N := 10) hx hb hts (fun w h => List.mem_cons_of_mem _ (uw_M w h)) hown hK hP 0 rfl rfl 6 (by decide) (hG (.fieldLink R_M 25 "ValueSieveModel" "greatest" "[J") gx15) (fun _ h9 => h9) rfl d_M_between_113 ?_
    refine lv_bipush (v := 18) hx hb d_M_between_116 (by decide) ?_
    refine lv_lload hx hb d_M_between_118 (lv_at hl 2 rfl) ?_
    refine ms_6 (P := 18) (x := p4) hx hb hK hP hD hS rfl (by decide) d_M_between_120 (fun H locs hP hD hS => ?_)
    obtain ⟨r120n, er120n⟩ : ∃ z, z = u6 r111n 18 p4 := ⟨_, rfl⟩
    rw [← er120n] at hP hD
    refine K120u s63_0 r120n (Eq.trans (hj.trans rfl) (congrArg (fun r120n => f_M_between_120u r0 w0 s0 p1 p2 p3 p4 p5 s63_0 r120n) er120n.symm)) hf0 hf1 H locs ?_ ?_ hS ls (lv_sub hl [0, 1, 3] rfl)
    · with_reducible exact hP
    · with_reducible exact hD
  have K100u : ∀ (s63_0 : Int32) (r100n : (Nat → VV)) (hj : f_M_between r0 w0 s0 p1 p2 p3 p4 p5 = f_M_between_100u r0 w0 s0 p1 p2 p3 p4 p5 s63_0 r100n) (hf0 : p1 = nI p1.toNatClampNeg) (hf1 : p1.toNatClampNeg < 16) (H : Heap) (locs : List Loc) (hP : va_P (dC, dI) classes (mW ad cJ cZ s63_0 r100n w0 s0) H) (hD : va_D A (mW ad cJ cZ s63_0 r100n w0 s0)) (hS : va_S A s.heap H locs) (ls : Array Slot) (hl : lv_has ls 9 [(0, .ref (ad 0)), (1, .int (p1)), (7, .long (p5))]), W p l e (headSpec w_M_between ({ frames := 6, cells := 0, slots := 0, locals := 183 } : Room)).room s m ([.ref (ad 0), .int (p1), .int (bI p2), .long (p3), .long (p4), .long (p5)] : List Value).toArray below meth c H locs 0 0 (MQ below (va_Qv (fun _ : Unit => True) (mB (dC, dI) A (mW ad cJ cZ (f_M_between r0 w0 s0 p1 p2 p3 p4 p5).1 (f_M_between r0 w0 s0 p1 p2 p3 p4 p5).2.1 (f_M_between r0 w0 s0 p1 p2 p3 p4 p5).2.2.1 (f_M_between r0 w0 s0 p1 p2 p3 p4 p5).2.2.2)) A) ([.ref (ad 0), .int (p1), .int (bI p2), .long (p3), .long (p4), .long (p5)] : List Value).toArray s 0 0 A) (F0 m 101 ls []) := by
    intro s63_0 r100n hj hf0 hf1 H locs hP hD hS ls hl
    refine lv_goto (tgt := 121) hx hb d_M_between_101 (by decide) ?_
    refine K121 s63_0 r100n (hj.trans rfl) hf0 hf1 H locs ?_ ?_ hS ls (lv_sub hl [0, 1, 2] rfl)
    · with_reducible exact hP
    · with_reducible exact hD
  have K91u : ∀ (s63_0 : Int32) (r91n : (Nat → VV)) (hj : f_M_between r0 w0 s0 p1 p2 p3 p4 p5 = f_M_between_91u r0 w0 s0 p1 p2 p3 p4 p5 s63_0 r91n) (hf0 : p1 = nI p1.toNatClampNeg) (hf1 : p1.toNatClampNeg < 16) (H : Heap) (locs : List Loc) (hP : va_P (dC, dI) classes (mW ad cJ cZ s63_0 r91n w0 s0) H) (hD : va_D A (mW ad cJ cZ s63_0 r91n w0 s0)) (hS : va_S A s.heap H locs) (ls : Array Slot) (hl : lv_has ls 9 [(0, .ref (ad 0)), (1, .int (p1)), (5, .long (p4)), (7, .long (p5))]), W p l e (headSpec w_M_between ({ frames := 6, cells := 0, slots := 0, locals := 183 } : Room)).room s m ([.ref (ad 0), .int (p1), .int (bI p2), .long (p3), .long (p4), .long (p5)] : List Value).toArray below meth c H locs 0 0 (MQ below (va_Qv (fun _ : Unit => True) (mB (dC, dI) A (mW ad cJ cZ (f_M_between r0 w0 s0 p1 p2 p3 p4 p5).1 (f_M_between r0 w0 s0 p1 p2 p3 p4 p5).2.1 (f_M_between r0 w0 s0 p1 p2 p3 p4 p5).2.2.1 (f_M_between r0 w0 s0 p1 p2 p3 p4 p5).2.2.2)) A) ([.ref (ad 0), .int (p1), .int (bI p2), .long (p3), .long (p4), .long (p5)] : List Value).toArray s 0 0 A) (F0 m 92 ls []) := by
    intro s63_0 r91n hj hf0 hf1 H locs hP hD hS ls hl
    refine lv_aload_n hx hb d_M_between_92 rfl (lv_at hl 0 rfl) ?_
    refine va_get (D := (dC, dI)) (ci := 2) (v := .ref (ad 4)) (C := R_M) (T := F_M) (N := 10) hx hb hts (fun w h => List.mem_cons_of_mem _ (uw_M w h)) hown hK hP 0 rfl rfl 4 (by decide) (hG (.fieldLink R_M 19 "ValueSieveModel" "high" "[J") gx13) (fun _ h9 => h9) rfl d_M_between_93 ?_
    refine lv_bipush (v := 18) hx hb d_M_between_96 (by decide) ?_
    refine lv_lload hx hb d_M_between_98 (lv_at hl 2 rfl) ?_
    refine ms_4 (P := 18) (x := p4) hx hb hK hP hD hS rfl (by decide) d_M_between_100 (fun H locs hP hD hS => ?_)
    obtain ⟨r100n, er100n⟩ : ∃ z, z = u4 r91n 18 p4 := ⟨_, rfl⟩
    rw [← er100n] at hP hD
    refine K100u s63_0 r100n (Eq.trans (hj.trans rfl) (congrArg (fun r100n => f_M_between_100u r0 w0 s0 p1 p2 p3 p4 p5 s63_0 r100n) er100n.symm)) hf0 hf1 H locs ?_ ?_ hS ls (lv_sub hl [0, 1, 3] rfl)
    · with_reducible exact hP
    · with_reducible exact hD
  have K77g : ∀ (s63_0 : Int32) (g77 : (Nat → VV)) (hj : f_M_between r0 w0 s0 p1 p2 p3 p4 p5 = f_M_between_77g r0 w0 s0 p1 p2 p3 p4 p5 s63_0 g77) (hf0 : p1 = nI p1.toNatClampNeg) (hf1 : p1.toNatClampNeg < 16) (H : Heap) (locs : List Loc) (hP : va_P (dC, dI) classes (mW ad cJ cZ s63_0 g77 w0 s0) H) (hD : va_D A (mW ad cJ cZ s63_0 g77 w0 s0)) (hS : va_S A s.heap H locs) (ls : Array Slot) (hl : lv_has ls 9 [(0, .ref (ad 0)), (1, .int (p1)), (2, .int (bI p2)), (3, .long (p3)), (5, .long (p4)), (7, .long (p5))]), W p l e (headSpec w_M_between ({ frames := 6, cells := 0, slots := 0, locals := 183 } : Room)).room s m ([.ref (ad 0), .int (p1), .int (bI p2), .long (p3), .long (p4), .long (p5)] : List Value).toArray below meth c H locs 0 0 (MQ below (va_Qv (fun _ : Unit => True) (mB (dC, dI) A (mW ad cJ cZ (f_M_between r0 w0 s0 p1 p2 p3 p4 p5).1 (f_M_between r0 w0 s0 p1 p2 p3 p4 p5).2.1 (f_M_between r0 w0 s0 p1 p2 p3 p4 p5).2.2.1 (f_M_between r0 w0 s0 p1 p2 p3 p4 p5).2.2.2)) A) ([.ref (ad 0), .int (p1), .int (bI p2), .long (p3), .long (p4), .long (p5)] : List Value).toArray s 0 0 A) (F0 m 80 ls []) := by
    intro s63_0 g77 hj hf0 hf1 H locs hP hD hS ls hl
    refine lv_iload_n hx hb d_M_between_80 rfl (lv_at hl 2 rfl) ?_
    refine wz_eq (tgt := 104) hx hb d_M_between_81 (by decide) (fun e1_104 => ?_) (fun e1_104 => ?_)
    · refine lv_aload_n hx hb d_M_between_104 rfl (lv_at hl 0 rfl) ?_
      refine va_get (D := (dC, dI)) (ci := 2) (v := .ref (ad 5)) (C := R_M) (T := F_M) (N := 10) hx hb hts (fun w h => List.mem_cons_of_mem _ (uw_M w h)) hown hK hP 0 rfl rfl 5 (by decide) (hG (.fieldLink R_M 22 "ValueSieveModel" "least" "[J") gx14) (fun _ h9 => h9) rfl d_M_between_105 ?_
      refine lv_bipush (v := 18) hx hb d_M_between_108 (by decide) ?_
      refine lv_lload_n hx hb d_M_between_110 rfl (lv_at hl 3 rfl) ?_
      refine ms_5 (P := 18) (x := p3) hx hb hK hP hD hS rfl (by decide) d_M_between_111 (fun H locs hP hD hS => ?_)
      obtain ⟨r111n, er111n⟩ : ∃ z, z = u5 g77 18 p3 := ⟨_, rfl⟩
      rw [← er111n] at hP hD
      refine K111u s63_0 r111n (Eq.trans (hj.trans (by unfold f_M_between_77g; first | with_reducible exact if_neg e1_104 | exact if_neg e1_104)) (congrArg (fun r111n => f_M_between_111u r0 w0 s0 p1 p2 p3 p4 p5 s63_0 r111n) er111n.symm)) hf0 hf1 H locs ?_ ?_ hS ls (lv_sub hl [0, 1, 4, 5] rfl)
      · with_reducible exact hP
      · with_reducible exact hD
    · refine lv_aload_n hx hb d_M_between_84 rfl (lv_at hl 0 rfl) ?_
      refine va_get (D := (dC, dI)) (ci := 2) (v := .ref (ad 3)) (C := R_M) (T := F_M) (N := 10) hx hb hts (fun w h => List.mem_cons_of_mem _ (uw_M w h)) hown hK hP 0 rfl rfl 3 (by decide) (hG (.fieldLink R_M 16 "ValueSieveModel" "low" "[J") gx12) (fun _ h9 => h9) rfl d_M_between_85 ?_
      refine lv_bipush (v := 18) hx hb d_M_between_88 (by decide) ?_
      refine lv_lload_n hx hb d_M_between_90 rfl (lv_at hl 3 rfl) ?_
      refine ms_3 (P := 18) (x := p3) hx hb hK hP hD hS rfl (by decide) d_M_between_91 (fun H locs hP hD hS => ?_)
      obtain ⟨r91n, er91n⟩ : ∃ z, z = u3 g77 18 p3 := ⟨_, rfl⟩
      rw [← er91n] at hP hD
      refine K91u s63_0 r91n (Eq.trans (hj.trans (by unfold f_M_between_77g; first | with_reducible exact if_pos e1_104 | exact if_pos e1_104)) (congrArg (fun r91n => f_M_between_91u r0 w0 s0 p1 p2 p3 p4 p5 s63_0 r91n) er91n.symm)) hf0 hf1 H locs ?_ ?_ hS ls (lv_sub hl [0, 1, 4, 5] rfl)
      · with_reducible exact hP
      · with_reducible exact hD
  have K63 : ∀ (s63_0 : Int32) (c63 : Int32) (hj : f_M_between r0 w0 s0 p1 p2 p3 p4 p5 = f_M_between_63 r0 w0 s0 p1 p2 p3 p4 p5 s63_0 c63) (hf0 : p1 = nI p1.toNatClampNeg) (hf1 : p1.toNatClampNeg < 16) (H : Heap) (locs : List Loc) (hP : va_P (dC, dI) classes (mW ad cJ cZ c63 r0 w0 s0) H) (hD : va_D A (mW ad cJ cZ c63 r0 w0 s0)) (hS : va_S A s.heap H locs) (ls : Array Slot) (hl : lv_has ls 9 [(0, .ref (ad 0)), (1, .int (p1)), (2, .int (bI p2)), (3, .long (p3)), (5, .long (p4)), (7, .long (p5))]), W p l e (headSpec w_M_between ({ frames := 6, cells := 0, slots := 0, locals := 183 } : Room)).room s m ([.ref (ad 0), .int (p1), .int (bI p2), .long (p3), .long (p4), .long (p5)] : List Value).toArray below meth c H locs 0 0 (MQ below (va_Qv (fun _ : Unit => True) (mB (dC, dI) A (mW ad cJ cZ (f_M_between r0 w0 s0 p1 p2 p3 p4 p5).1 (f_M_between r0 w0 s0 p1 p2 p3 p4 p5).2.1 (f_M_between r0 w0 s0 p1 p2 p3 p4 p5).2.2.1 (f_M_between r0 w0 s0 p1 p2 p3 p4 p5).2.2.2)) A) ([.ref (ad 0), .int (p1), .int (bI p2), .long (p3), .long (p4), .long (p5)] : List Value).toArray s 0 0 A) (F0 m 63 ls [.int (s63_0), .ref (ad 0)]) := by
    intro s63_0 c63 hj hf0 hf1 H locs hP hD hS ls hl
    refine mp_c hx hb hts (fun w h => List.mem_cons_of_mem _ (uw_M w h)) hown hK hP hD hS (hG (.fieldLink R_M 35 "ValueSieveModel" "code" "I") gx9) d_M_between_63 (fun H locs hP hD hS => ?_)
    refine lv_aload_n hx hb d_M_between_66 rfl (lv_at hl 0 rfl) ?_
    refine va_get (D := (dC, dI)) (ci := 2) (v := .int (s63_0)) (C := R_M) (T := F_M) (N := 10) hx hb hts (fun w h => List.mem_cons_of_mem _ (uw_M w h)) hown hK hP 0 rfl rfl 0 (by decide) (hG (.fieldLink R_M 35 "ValueSieveModel" "code" "I") gx9) (fun _ h9 => h9) rfl d_M_between_67 ?_
    refine lv_if_le (tgt := 74) hx hb d_M_between_70 (by decide) (fun e1_74 => ?_) (fun e1_74 => ?_)
    · refine lv_aload_n hx hb d_M_between_74 rfl (lv_at hl 0 rfl) ?_
      refine lv_bipush (v := 18) hx hb d_M_between_75 (by decide) ?_
      refine mm_v (F := f_M_nothingSaid r0 18) (w1 := fun g77 => (mW ad cJ cZ s63_0 g77 w0 s0)) (va_runV (As := [.int (18)]) (rest := []) ⟨hx, hb, hml, hown, hts⟩ (c_M_nothingSaid l dC dI ad cJ cZ H.size s63_0 r0 w0 s0 18 (by decide)) (cwV 1 hts (gxV gx39 gx40 gx267 gx0 gx41) rfl rfl rfl (by decide +kernel) ⟨(Nat.le_of_ble_eq_true rfl), (Nat.le_of_ble_eq_true rfl)⟩) ⟨blp, va_recv hK hP (ci := 2) (q0 := 0) rfl rfl, fun U hU hW => ⟨rfl, by rw [hU], by rw [hU]; exact hP, va_K.moved hW.alike hK, hD.weaken (fun _ _ _ _ => trivial)⟩⟩ rfl rfl hl.1 rfl (lv_room (Nat.le_of_ble_eq_true rfl)) d_M_between_77 ⟨Nat.zero_le _, Nat.zero_le _⟩) hD hS hA (fun g77 eg77 H locs hP hD hS => ?_)
      refine K77g s63_0 g77 (Eq.trans (hj.trans (by unfold f_M_between_63; first | with_reducible exact if_pos e1_74 | exact if_pos e1_74)) (congrArg (fun g77 => f_M_between_77g r0 w0 s0 p1 p2 p3 p4 p5 s63_0 g77) eg77)) hf0 hf1 H locs ?_ ?_ hS ls (lv_sub hl [0, 1, 2, 3, 4, 5] rfl)
      · with_reducible exact hP
      · with_reducible exact hD
    · have fe : f_M_between r0 w0 s0 p1 p2 p3 p4 p5 = (s63_0, r0, w0, s0) := hj.trans (by unfold f_M_between_63; first | with_reducible exact if_neg e1_74 | exact if_neg e1_74)
      exact W.vret hx hb hr (fun t ht hW => ⟨⟨(), rfl, trivial, by rw [ht, fe]; exact hP, by rw [fe]; exact hD⟩, hS.F ht⟩) hS.2.2 d_M_between_73
  have K58 : ∀ (c58 : Int32) (hj : f_M_between r0 w0 s0 p1 p2 p3 p4 p5 = f_M_between_58 r0 w0 s0 p1 p2 p3 p4 p5 c58) (hf0 : p1 = nI p1.toNatClampNeg) (hf1 : p1.toNatClampNeg < 16) (H : Heap) (locs : List Loc) (hP : va_P (dC, dI) classes (mW ad cJ cZ c58 r0 w0 s0) H) (hD : va_D A (mW ad cJ cZ c58 r0 w0 s0)) (hS : va_S A s.heap H locs) (ls : Array Slot) (hl : lv_has ls 9 [(0, .ref (ad 0)), (1, .int (p1)), (2, .int (bI p2)), (3, .long (p3)), (5, .long (p4)), (7, .long (p5))]), W p l e (headSpec w_M_between ({ frames := 6, cells := 0, slots := 0, locals := 183 } : Room)).room s m ([.ref (ad 0), .int (p1), .int (bI p2), .long (p3), .long (p4), .long (p5)] : List Value).toArray below meth c H locs 0 0 (MQ below (va_Qv (fun _ : Unit => True) (mB (dC, dI) A (mW ad cJ cZ (f_M_between r0 w0 s0 p1 p2 p3 p4 p5).1 (f_M_between r0 w0 s0 p1 p2 p3 p4 p5).2.1 (f_M_between r0 w0 s0 p1 p2 p3 p4 p5).2.2.1 (f_M_between r0 w0 s0 p1 p2 p3 p4 p5).2.2.2)) A) ([.ref (ad 0), .int (p1), .int (bI p2), .long (p3), .long (p4), .long (p5)] : List Value).toArray s 0 0 A) (F0 m 58 ls [.ref (ad 0)]) := by
    intro c58 hj hf0 hf1 H locs hP hD hS ls hl
    refine lv_iconst (v := 2) hx hb d_M_between_58 (by decide) ?_
    refine lv_goto (tgt := 63) hx hb d_M_between_59 (by decide) ?_
    refine K63 2 c58 (hj.trans rfl) hf0 hf1 H locs ?_ ?_ hS ls (lv_sub hl [0, 1, 2, 3, 4, 5] rfl)
    · with_reducible exact hP
    · with_reducible exact hD
  have K35 : ∀ (c35 : Int32) (hj : f_M_between r0 w0 s0 p1 p2 p3 p4 p5 = f_M_between_35 r0 w0 s0 p1 p2 p3 p4 p5 c35) (hf0 : p1 = nI p1.toNatClampNeg) (hf1 : p1.toNatClampNeg < 16) (H : Heap) (locs : List Loc) (hP : va_P (dC, dI) classes (mW ad cJ cZ c35 r0 w0 s0) H) (hD : va_D A (mW ad cJ cZ c35 r0 w0 s0)) (hS : va_S A s.heap H locs) (ls : Array Slot) (hl : lv_has ls 9 [(0, .ref (ad 0)), (1, .int (p1)), (2, .int (bI p2)), (3, .long (p3)), (5, .long (p4)), (7, .long (p5))]), W p l e (headSpec w_M_between ({ frames := 6, cells := 0, slots := 0, locals := 183 } : Room)).room s m ([.ref (ad 0), .int (p1), .int (bI p2), .long (p3), .long (p4), .long (p5)] : List Value).toArray below meth c H locs 0 0 (MQ below (va_Qv (fun _ : Unit => True) (mB (dC, dI) A (mW ad cJ cZ (f_M_between r0 w0 s0 p1 p2 p3 p4 p5).1 (f_M_between r0 w0 s0 p1 p2 p3 p4 p5).2.1 (f_M_between r0 w0 s0 p1 p2 p3 p4 p5).2.2.1 (f_M_between r0 w0 s0 p1 p2 p3 p4 p5).2.2.2)) A) ([.ref (ad 0), .int (p1), .int (bI p2), .long (p3), .long (p4), .long (p5)] : List Value).toArray s 0 0 A) (F0 m 35 ls [.ref (ad 0)]) := by
    intro c35 hj hf0 hf1 H locs hP hD hS ls hl
    refine lv_iconst (v := 2) hx hb d_M_between_35 (by decide) ?_
    refine lv_goto (tgt := 63) hx hb d_M_between_36 (by decide) ?_
    refine K63 2 c35 (hj.trans rfl) hf0 hf1 H locs ?_ ?_ hS ls (lv_sub hl [0, 1, 2, 3, 4, 5] rfl)
    · with_reducible exact hP
    · with_reducible exact hD
  have K4g : ∀ (g4 : Bool × Int32) (hj : f_M_between r0 w0 s0 p1 p2 p3 p4 p5 = f_M_between_4g r0 w0 s0 p1 p2 p3 p4 p5 g4) (hf0 : npF g4.1 p1 0 0) (H : Heap) (locs : List Loc) (hP : va_P (dC, dI) classes (mW ad cJ cZ g4.2 r0 w0 s0) H) (hD : va_D A (mW ad cJ cZ g4.2 r0 w0 s0)) (hS : va_S A s.heap H locs) (ls : Array Slot) (hl : lv_has ls 9 [(0, .ref (ad 0)), (1, .int (p1)), (2, .int (bI p2)), (3, .long (p3)), (5, .long (p4)), (7, .long (p5))]), W p l e (headSpec w_M_between ({ frames := 6, cells := 0, slots := 0, locals := 183 } : Room)).room s m ([.ref (ad 0), .int (p1), .int (bI p2), .long (p3), .long (p4), .long (p5)] : List Value).toArray below meth c H locs 0 0 (MQ below (va_Qv (fun _ : Unit => True) (mB (dC, dI) A (mW ad cJ cZ (f_M_between r0 w0 s0 p1 p2 p3 p4 p5).1 (f_M_between r0 w0 s0 p1 p2 p3 p4 p5).2.1 (f_M_between r0 w0 s0 p1 p2 p3 p4 p5).2.2.1 (f_M_between r0 w0 s0 p1 p2 p3 p4 p5).2.2.2)) A) ([.ref (ad 0), .int (p1), .int (bI p2), .long (p3), .long (p4), .long (p5)] : List Value).toArray s 0 0 A) (F0 m 7 ls [.int (bI g4.1)]) := by
    intro g4 hj hf0 H locs hP hD hS ls hl
    refine wz_eq (tgt := 11) hx hb d_M_between_7 (by decide) (fun e1_11 => ?_) (fun e1_11 => ?_)
    · obtain ⟨⟨i1, j1⟩, ⟨i2, j2⟩, ⟨i3, j3⟩⟩ := npF_of hf0 e1_11
      refine lv_aload_n hx hb d_M_between_11 rfl (lv_at hl 0 rfl) ?_
      refine lv_iload_n hx hb d_M_between_12 rfl (lv_at hl 2 rfl) ?_
      refine wz_eq (tgt := 43) hx hb d_M_between_13 (by decide) (fun e2_43 => ?_) (fun e2_43 => ?_)
      · refine lv_lload hx hb d_M_between_43 (lv_at hl 5 rfl) ?_
        refine lv_lload_n hx hb d_M_between_45 rfl (lv_at hl 3 rfl) ?_
        refine wl_lt (tgt := 58) hx hb d_M_between_46 d_M_between_47 (by decide) (fun e3_58 => ?_) (fun e3_58 => ?_)
        · refine K58 g4.2 (hj.trans (by unfold f_M_between_4g; first | with_reducible exact (if_neg e1_11).trans ((if_neg e2_43).trans (if_pos e3_58)) | exact (if_neg e1_11).trans ((if_neg e2_43).trans (if_pos e3_58)))) i1 j1 H locs ?_ ?_ hS ls (lv_sub hl [0, 1, 2, 3, 4, 5] rfl)
          · with_reducible exact hP
          · with_reducible exact hD
        · refine lv_lload hx hb d_M_between_50 (lv_at hl 5 rfl) ?_
          refine lv_lload hx hb d_M_between_52 (lv_at hl 4 rfl) ?_
          refine wl_le (tgt := 62) hx hb d_M_between_54 d_M_between_55 (by decide) (fun e4_62 => ?_) (fun e4_62 => ?_)
          · refine lv_iconst (v := 0) hx hb d_M_between_62 (by decide) ?_
            refine K63 0 g4.2 (hj.trans (by unfold f_M_between_4g; first | with_reducible exact (if_neg e1_11).trans ((if_neg e2_43).trans ((if_neg e3_58).trans (if_neg e4_62))) | exact (if_neg e1_11).trans ((if_neg e2_43).trans ((if_neg e3_58).trans (if_neg e4_62))))) i1 j1 H locs ?_ ?_ hS ls (lv_sub hl [0, 1, 2, 3, 4, 5] rfl)
            · with_reducible exact hP
            · with_reducible exact hD
          · refine K58 g4.2 (hj.trans (by unfold f_M_between_4g; first | with_reducible exact (if_neg e1_11).trans ((if_neg e2_43).trans ((if_neg e3_58).trans (if_pos e4_62))) | exact (if_neg e1_11).trans ((if_neg e2_43).trans ((if_neg e3_58).trans (if_pos e4_62))))) i1 j1 H locs ?_ ?_ hS ls (lv_sub hl [0, 1, 2, 3, 4, 5] rfl)
            · with_reducible exact hP
            · with_reducible exact hD
      · refine lv_lload hx hb d_M_between_16 (lv_at hl 5 rfl) ?_
        refine lv_lload_n hx hb d_M_between_18 rfl (lv_at hl 3 rfl) ?_
        refine rc_i (W.runS (As := [.long (p5), .long (p3)]) (rest := [.ref (ad 0)]) ⟨hx, hb, hml, hown, hts⟩ (c_M_below l p5 p3) (va_cwS 2 hts (gxS gx57 gx58 gx0 gx59) rfl rfl rfl (by decide +kernel) ⟨(Nat.le_of_ble_eq_true rfl), (Nat.le_of_ble_eq_true rfl)⟩) ⟨bl0, fun U hU hW => ⟨rfl, trivial⟩⟩ rfl rfl hl.1 rfl (lv_room (Nat.le_of_ble_eq_true rfl)) d_M_between_19 ⟨Nat.zero_le _, Nat.zero_le _⟩) ?_
        refine wz_ne (tgt := 35) hx hb d_M_between_22 (by decide) (fun e5_35 => ?_) (fun e5_35 => ?_)
        · refine K35 g4.2 (hj.trans (by unfold f_M_between_4g; first | with_reducible exact (if_neg e1_11).trans ((if_pos e2_43).trans (if_pos e5_35)) | exact (if_neg e1_11).trans ((if_pos e2_43).trans (if_pos e5_35)))) i1 j1 H locs ?_ ?_ hS ls (lv_sub hl [0, 1, 2, 3, 4, 5] rfl)
          · with_reducible exact hP
          · with_reducible exact hD
        · refine lv_lload hx hb d_M_between_25 (lv_at hl 4 rfl) ?_
          refine lv_lload hx hb d_M_between_27 (lv_at hl 5 rfl) ?_
          refine rc_i (W.runS (As := [.long (p4), .long (p5)]) (rest := [.ref (ad 0)]) ⟨hx, hb, hml, hown, hts⟩ (c_M_below l p4 p5) (va_cwS 2 hts (gxS gx57 gx58 gx0 gx59) rfl rfl rfl (by decide +kernel) ⟨(Nat.le_of_ble_eq_true rfl), (Nat.le_of_ble_eq_true rfl)⟩) ⟨bl0, fun U hU hW => ⟨rfl, trivial⟩⟩ rfl rfl hl.1 rfl (lv_room (Nat.le_of_ble_eq_true rfl)) d_M_between_29 ⟨Nat.zero_le _, Nat.zero_le _⟩) ?_
          refine wz_eq (tgt := 39) hx hb d_M_between_32 (by decide) (fun e6_39 => ?_) (fun e6_39 => ?_)
          · refine lv_iconst (v := 0) hx hb d_M_between_39 (by decide) ?_
            refine lv_goto (tgt := 63) hx hb d_M_between_40 (by decide) ?_
            refine K63 0 g4.2 (hj.trans (by unfold f_M_between_4g; first | with_reducible exact (if_neg e1_11).trans ((if_pos e2_43).trans ((if_neg e5_35).trans (if_neg e6_39))) | exact (if_neg e1_11).trans ((if_pos e2_43).trans ((if_neg e5_35).trans (if_neg e6_39))))) i1 j1 H locs ?_ ?_ hS ls (lv_sub hl [0, 1, 2, 3, 4, 5] rfl)
            · with_reducible exact hP
            · with_reducible exact hD
          · refine K35 g4.2 (hj.trans (by unfold f_M_between_4g; first | with_reducible exact (if_neg e1_11).trans ((if_pos e2_43).trans ((if_neg e5_35).trans (if_pos e6_39))) | exact (if_neg e1_11).trans ((if_pos e2_43).trans ((if_neg e5_35).trans (if_pos e6_39))))) i1 j1 H locs ?_ ?_ hS ls (lv_sub hl [0, 1, 2, 3, 4, 5] rfl)
            · with_reducible exact hP
            · with_reducible exact hD
    · have fe : f_M_between r0 w0 s0 p1 p2 p3 p4 p5 = (g4.2, r0, w0, s0) := hj.trans (by unfold f_M_between_4g; first | with_reducible exact if_pos e1_11 | exact if_pos e1_11)
      exact W.vret hx hb hr (fun t ht hW => ⟨⟨(), rfl, trivial, by rw [ht, fe]; exact hP, by rw [fe]; exact hD⟩, hS.F ht⟩) hS.2.2 d_M_between_10
  refine lv_aload_n hx hb d_M_between_0 rfl (lv_at hl 0 rfl) ?_
  refine lv_iload_n hx hb d_M_between_1 rfl (lv_at hl 1 rfl) ?_
  refine lv_iconst (v := 0) hx hb d_M_between_2 (by decide) ?_
  refine lv_iconst (v := 0) hx hb d_M_between_3 (by decide) ?_
  refine mm_z (F := f_M_noPlace p1 0 0) (w1 := fun g4 => (mW ad cJ cZ g4.2 r0 w0 s0)) (va_runV (As := [.int (p1), .int (0), .int (0)]) (rest := []) ⟨hx, hb, hml, hown, hts⟩ (c_M_noPlace l dC dI ad cJ cZ s.heap.size c0 r0 w0 s0 p1 0 0) (cwV 3 hts (gxV gx36 gx37 gx276 gx0 gx38) rfl rfl rfl (by decide +kernel) ⟨(Nat.le_of_ble_eq_true rfl), (Nat.le_of_ble_eq_true rfl)⟩) ⟨blp, va_recv hK hP (ci := 2) (q0 := 0) rfl rfl, fun U hU hW => ⟨rfl, by rw [hU], by rw [hU]; exact hP, va_K.moved hW.alike hK, hD.weaken (fun _ _ _ _ => trivial)⟩⟩ rfl rfl hl.1 rfl (lv_room (Nat.le_of_ble_eq_true rfl)) d_M_between_4 ⟨Nat.zero_le _, Nat.zero_le _⟩) hD hS hA (fun g4 eg4 H locs hP hD hS => ?_)
  have hpg4 := np_ok eg4
  refine K4g g4 (Eq.trans (rfl) (congrArg (fun g4 => f_M_between_4g r0 w0 s0 p1 p2 p3 p4 p5 g4) eg4)) hpg4 H locs ?_ ?_ hS ls (lv_sub hl [0, 1, 2, 3, 4, 5] rfl)
  · with_reducible exact hP
  · with_reducible exact hD
-- pattern
theorem d_M_pattern_0 : decode b_M_pattern 0 = .ok (.aload_n 0, 1) := by decide +kernel
theorem d_M_pattern_1 : decode b_M_pattern 1 = .ok (.iload_n 1, 1) := by decide +kernel
theorem d_M_pattern_2 : decode b_M_pattern 2 = .ok (.iconst 0, 1) := by decide +kernel
theorem d_M_pattern_3 : decode b_M_pattern 3 = .ok (.iconst 0, 1) := by decide +kernel
theorem d_M_pattern_4 : decode b_M_pattern 4 = .ok (.invokevirtual 98, 3) := by decide +kernel
theorem d_M_pattern_7 : decode b_M_pattern 7 = .ok (.ifCond .eq 4, 3) := by decide +kernel
theorem d_M_pattern_10 : decode b_M_pattern 10 = .ok (.return_, 1) := by decide +kernel
theorem d_M_pattern_11 : decode b_M_pattern 11 = .ok (.aload_n 0, 1) := by decide +kernel
theorem d_M_pattern_12 : decode b_M_pattern 12 = .ok (.lload 6, 2) := by decide +kernel
theorem d_M_pattern_14 : decode b_M_pattern 14 = .ok (.lload 4, 2) := by decide +kernel
theorem d_M_pattern_16 : decode b_M_pattern 16 = .ok (.ldc2_w 49, 3) := by decide +kernel
theorem d_M_pattern_19 : decode b_M_pattern 19 = .ok (.lxor, 1) := by decide +kernel
theorem d_M_pattern_20 : decode b_M_pattern 20 = .ok (.land, 1) := by decide +kernel
theorem d_M_pattern_21 : decode b_M_pattern 21 = .ok (.lload_n 2, 1) := by decide +kernel
theorem d_M_pattern_22 : decode b_M_pattern 22 = .ok (.lload 4, 2) := by decide +kernel
theorem d_M_pattern_24 : decode b_M_pattern 24 = .ok (.ldc2_w 49, 3) := by decide +kernel
theorem d_M_pattern_27 : decode b_M_pattern 27 = .ok (.lxor, 1) := by decide +kernel
theorem d_M_pattern_28 : decode b_M_pattern 28 = .ok (.land, 1) := by decide +kernel
theorem d_M_pattern_29 : decode b_M_pattern 29 = .ok (.lcmp, 1) := by decide +kernel
theorem d_M_pattern_30 : decode b_M_pattern 30 = .ok (.ifCond .eq 7, 3) := by decide +kernel
theorem d_M_pattern_33 : decode b_M_pattern 33 = .ok (.iconst 2, 1) := by decide +kernel
theorem d_M_pattern_34 : decode b_M_pattern 34 = .ok (.goto 4, 3) := by decide +kernel
theorem d_M_pattern_37 : decode b_M_pattern 37 = .ok (.iconst 0, 1) := by decide +kernel
theorem d_M_pattern_38 : decode b_M_pattern 38 = .ok (.putfield 35, 3) := by decide +kernel
theorem d_M_pattern_41 : decode b_M_pattern 41 = .ok (.aload_n 0, 1) := by decide +kernel
theorem d_M_pattern_42 : decode b_M_pattern 42 = .ok (.getfield 35, 3) := by decide +kernel
theorem d_M_pattern_45 : decode b_M_pattern 45 = .ok (.ifCond .le 4, 3) := by decide +kernel
theorem d_M_pattern_48 : decode b_M_pattern 48 = .ok (.return_, 1) := by decide +kernel
theorem d_M_pattern_49 : decode b_M_pattern 49 = .ok (.aload_n 0, 1) := by decide +kernel
theorem d_M_pattern_50 : decode b_M_pattern 50 = .ok (.bipush 18, 2) := by decide +kernel
theorem d_M_pattern_52 : decode b_M_pattern 52 = .ok (.invokevirtual 102, 3) := by decide +kernel
theorem d_M_pattern_55 : decode b_M_pattern 55 = .ok (.aload_n 0, 1) := by decide +kernel
theorem d_M_pattern_56 : decode b_M_pattern 56 = .ok (.getfield 7, 3) := by decide +kernel
theorem d_M_pattern_59 : decode b_M_pattern 59 = .ok (.bipush 18, 2) := by decide +kernel
theorem d_M_pattern_61 : decode b_M_pattern 61 = .ok (.lload_n 2, 1) := by decide +kernel
theorem d_M_pattern_62 : decode b_M_pattern 62 = .ok (.lload 4, 2) := by decide +kernel
theorem d_M_pattern_64 : decode b_M_pattern 64 = .ok (.ldc2_w 49, 3) := by decide +kernel
theorem d_M_pattern_67 : decode b_M_pattern 67 = .ok (.lxor, 1) := by decide +kernel
theorem d_M_pattern_68 : decode b_M_pattern 68 = .ok (.land, 1) := by decide +kernel
theorem d_M_pattern_69 : decode b_M_pattern 69 = .ok (.lastore, 1) := by decide +kernel
theorem d_M_pattern_70 : decode b_M_pattern 70 = .ok (.aload_n 0, 1) := by decide +kernel
theorem d_M_pattern_71 : decode b_M_pattern 71 = .ok (.getfield 13, 3) := by decide +kernel
theorem d_M_pattern_74 : decode b_M_pattern 74 = .ok (.bipush 18, 2) := by decide +kernel
theorem d_M_pattern_76 : decode b_M_pattern 76 = .ok (.lload 4, 2) := by decide +kernel
theorem d_M_pattern_78 : decode b_M_pattern 78 = .ok (.lastore, 1) := by decide +kernel
theorem d_M_pattern_79 : decode b_M_pattern 79 = .ok (.aload_n 0, 1) := by decide +kernel
theorem d_M_pattern_80 : decode b_M_pattern 80 = .ok (.bipush 18, 2) := by decide +kernel
theorem d_M_pattern_82 : decode b_M_pattern 82 = .ok (.invokevirtual 113, 3) := by decide +kernel
theorem d_M_pattern_85 : decode b_M_pattern 85 = .ok (.aload_n 0, 1) := by decide +kernel
theorem d_M_pattern_86 : decode b_M_pattern 86 = .ok (.iload_n 1, 1) := by decide +kernel
theorem d_M_pattern_87 : decode b_M_pattern 87 = .ok (.bipush 18, 2) := by decide +kernel
theorem d_M_pattern_89 : decode b_M_pattern 89 = .ok (.lload 6, 2) := by decide +kernel
theorem d_M_pattern_91 : decode b_M_pattern 91 = .ok (.invokevirtual 105, 3) := by decide +kernel
theorem d_M_pattern_94 : decode b_M_pattern 94 = .ok (.return_, 1) := by decide +kernel
def f_M_pattern_91g (r0 : (Nat → VV)) (w0 : (Nat → Int64)) (s0 : Int32) (p1 : Int32) (p2 : Int64) (p3 : Int64) (p4 : Int64) (s38_0 : Int32) (g91 : (Nat → VV) × (Nat → Int64) × Int32) : Int32 × (Nat → VV) × (Nat → Int64) × Int32 := (s38_0, g91.1, g91.2.1, g91.2.2)
def f_M_pattern_82g (r0 : (Nat → VV)) (w0 : (Nat → Int64)) (s0 : Int32) (p1 : Int32) (p2 : Int64) (p3 : Int64) (p4 : Int64) (s38_0 : Int32) (g82 : (Nat → VV)) : Int32 × (Nat → VV) × (Nat → Int64) × Int32 := f_M_pattern_91g r0 w0 s0 p1 p2 p3 p4 s38_0 (f_M_put g82 w0 s0 p1.toNatClampNeg 18 p4)
def f_M_pattern_78u (r0 : (Nat → VV)) (w0 : (Nat → Int64)) (s0 : Int32) (p1 : Int32) (p2 : Int64) (p3 : Int64) (p4 : Int64) (s38_0 : Int32) (r78n : (Nat → VV)) : Int32 × (Nat → VV) × (Nat → Int64) × Int32 := f_M_pattern_82g r0 w0 s0 p1 p2 p3 p4 s38_0 (f_M_tighten r78n 18)
def f_M_pattern_69u (r0 : (Nat → VV)) (w0 : (Nat → Int64)) (s0 : Int32) (p1 : Int32) (p2 : Int64) (p3 : Int64) (p4 : Int64) (s38_0 : Int32) (r69n : (Nat → VV)) : Int32 × (Nat → VV) × (Nat → Int64) × Int32 := f_M_pattern_78u r0 w0 s0 p1 p2 p3 p4 s38_0 (u2 r69n 18 p3)
def f_M_pattern_52g (r0 : (Nat → VV)) (w0 : (Nat → Int64)) (s0 : Int32) (p1 : Int32) (p2 : Int64) (p3 : Int64) (p4 : Int64) (s38_0 : Int32) (g52 : (Nat → VV)) : Int32 × (Nat → VV) × (Nat → Int64) × Int32 := f_M_pattern_69u r0 w0 s0 p1 p2 p3 p4 s38_0 (u1 g52 18 (p2 &&& (p3 ^^^ (-1 : Int64))))
def f_M_pattern_38 (r0 : (Nat → VV)) (w0 : (Nat → Int64)) (s0 : Int32) (p1 : Int32) (p2 : Int64) (p3 : Int64) (p4 : Int64) (s38_0 : Int32) (c38 : Int32) : Int32 × (Nat → VV) × (Nat → Int64) × Int32 := (if s38_0 ≤ 0 then f_M_pattern_52g r0 w0 s0 p1 p2 p3 p4 s38_0 (f_M_nothingSaid r0 18) else (s38_0, r0, w0, s0))
def f_M_pattern_4g (r0 : (Nat → VV)) (w0 : (Nat → Int64)) (s0 : Int32) (p1 : Int32) (p2 : Int64) (p3 : Int64) (p4 : Int64) (g4 : Bool × Int32) : Int32 × (Nat → VV) × (Nat → Int64) × Int32 := (if g4.1 = true then (g4.2, r0, w0, s0) else (if (p4 &&& (p3 ^^^ (-1 : Int64))) = (p2 &&& (p3 ^^^ (-1 : Int64))) then f_M_pattern_38 r0 w0 s0 p1 p2 p3 p4 0 g4.2 else f_M_pattern_38 r0 w0 s0 p1 p2 p3 p4 2 g4.2))
def f_M_pattern (r0 : (Nat → VV)) (w0 : (Nat → Int64)) (s0 : Int32) (p1 : Int32) (p2 : Int64) (p3 : Int64) (p4 : Int64) : Int32 × (Nat → VV) × (Nat → Int64) × Int32 := f_M_pattern_4g r0 w0 s0 p1 p2 p3 p4 (f_M_noPlace p1 0 0)
set_option maxRecDepth 100000 in
set_option maxHeartbeats 4000000 in
theorem c_M_pattern (l : Launch) (dC : Nat → ClassId) (dI : Nat → Nat → Nat) (ad : Nat → Nat) (cJ cZ : ClassId) (sz : Nat) (c0 : Int32) (r0 : (Nat → VV)) (w0 : (Nat → Int64)) (s0 : Int32) (p1 : Int32) (p2 : Int64) (p3 : Int64) (p4 : Int64) : Met l y_M_pattern w_M_pattern ({ frames := 6, cells := 0, slots := 0, locals := 183 } : Room) (va_Pc [.ref (ad 0), .int (p1), .long (p2), .long (p3), .long (p4)] (nP (dC, dI) (mT cJ cZ) (mW ad cJ cZ c0 r0 w0 s0) sz)) (va_Qv (fun _ : Unit => True) (mB (dC, dI) (va_A (mW ad cJ cZ c0 r0 w0 s0) sz) (mW ad cJ cZ (f_M_pattern r0 w0 s0 p1 p2 p3 p4).1 (f_M_pattern r0 w0 s0 p1 p2 p3 p4).2.1 (f_M_pattern r0 w0 s0 p1 p2 p3 p4).2.2.1 (f_M_pattern r0 w0 s0 p1 p2 p3 p4).2.2.2)) (va_A (mW ad cJ cZ c0 r0 w0 s0) sz)) 0 0 (va_A (mW ad cJ cZ c0 r0 w0 s0) sz) := by
  refine Met.ofW (cc := b_M_pattern) (maxL := 8) (ret := none) (by decide) rfl ?_
  intro p e s m args below meth c s₁ B hml hv
  obtain ⟨rfl, hsz, hP, hK, hD0⟩ := hv
  have hx := B.exec
  have hb := B.bytes
  have hr := B.returns
  have hts := atoms_spec (ws := w_M_pattern) B.pre
  have hG : ∀ w ∈ gM, w.before _ s = true := fun w h => hts w (List.mem_cons_of_mem _ h)
  have hown : s.vm.findClass R_M = some m.cls := findClass_of_methodNamed B.named
  have hlocks := B.notSynchronized
  subst hsz
  have hD := hD0.self (sz := s.heap.size)
  generalize hAe : va_A (mW ad cJ cZ c0 r0 w0 s0) s.heap.size = A at hD ⊢
  have hA : ∀ q : Nat, s.heap.size ≤ q → A q := fun q h => by rw [← hAe]; exact Or.inr h
  have hS : va_S A s.heap s.heap [] := va_S.rf
  have hl := lv_entry ([.ref (ad 0), .int (p1), .long (p2), .long (p3), .long (p4)]) (n := 8) (Nat.le_of_ble_eq_true rfl)
  rw [lg_entry_eq]
  generalize (lg_sl ([.ref (ad 0), .int (p1), .long (p2), .long (p3), .long (p4)]) ++ List.replicate (8 - (lg_sl ([.ref (ad 0), .int (p1), .long (p2), .long (p3), .long (p4)])).length) Slot.unset).toArray = ls at hl ⊢
  have hl : lv_has ls 8 [(0, .ref (ad 0)), (1, .int (p1)), (2, .long (p2)), (4, .long (p3)), (6, .long (p4))] := hl
  have K91g : ∀ (s38_0 : Int32) (g91 : (Nat → VV) × (Nat → Int64) × Int32) (hj : f_M_pattern r0 w0 s0 p1 p2 p3 p4 = f_M_pattern_91g r0 w0 s0 p1 p2 p3 p4 s38_0 g91) (hf0 : p1 = nI p1.toNatClampNeg) (hf1 : p1.toNatClampNeg < 16) (H : Heap) (locs : List Loc) (hP : va_P (dC, dI) classes (mW ad cJ cZ s38_0 g91.1 g91.2.1 g91.2.2) H) (hD : va_D A (mW ad cJ cZ s38_0 g91.1 g91.2.1 g91.2.2)) (hS : va_S A s.heap H locs) (ls : Array Slot) (hl : lv_has ls 8 []), W p l e (headSpec w_M_pattern ({ frames := 6, cells := 0, slots := 0, locals := 183 } : Room)).room s m ([.ref (ad 0), .int (p1), .long (p2), .long (p3), .long (p4)] : List Value).toArray below meth c H locs 0 0 (MQ below (va_Qv (fun _ : Unit => True) (mB (dC, dI) A (mW ad cJ cZ (f_M_pattern r0 w0 s0 p1 p2 p3 p4).1 (f_M_pattern r0 w0 s0 p1 p2 p3 p4).2.1 (f_M_pattern r0 w0 s0 p1 p2 p3 p4).2.2.1 (f_M_pattern r0 w0 s0 p1 p2 p3 p4).2.2.2)) A) ([.ref (ad 0), .int (p1), .long (p2), .long (p3), .long (p4)] : List Value).toArray s 0 0 A) (F0 m 94 ls []) := by
    intro s38_0 g91 hj hf0 hf1 H locs hP hD hS ls hl
    have fe : f_M_pattern r0 w0 s0 p1 p2 p3 p4 = (s38_0, g91.1, g91.2.1, g91.2.2) := hj.trans rfl
    exact W.vret hx hb hr (fun t ht hW => ⟨⟨(), rfl, trivial, by rw [ht, fe]; exact hP, by rw [fe]; exact hD⟩, hS.F ht⟩) hS.2.2 d_M_pattern_94
  have K82g : ∀ (s38_0 : Int32) (g82 : (Nat → VV)) (hj : f_M_pattern r0 w0 s0 p1 p2 p3 p4 = f_M_pattern_82g r0 w0 s0 p1 p2 p3 p4 s38_0 g82) (hf0 : p1 = nI p1.toNatClampNeg) (hf1 : p1.toNatClampNeg < 16) (H : Heap) (locs : List Loc) (hP : va_P (dC, dI) classes (mW ad cJ cZ s38_0 g82 w0 s0) H) (hD : va_D A (mW ad cJ cZ s38_0 g82 w0 s0)) (hS : va_S A s.heap H locs) (ls : Array Slot) (hl : lv_has ls 8 [(0, .ref (ad 0)), (1, .int (p1)), (6, .long (p4))]), W p l e (headSpec w_M_pattern ({ frames := 6, cells := 0, slots := 0, locals := 183 } : Room)).room s m ([.ref (ad 0), .int (p1), .long (p2), .long (p3), .long (p4)] : List Value).toArray below meth c H locs 0 0 (MQ below (va_Qv (fun _ : Unit => True) (mB (dC, dI) A (mW ad cJ cZ (f_M_pattern r0 w0 s0 p1 p2 p3 p4).1 (f_M_pattern r0 w0 s0 p1 p2 p3 p4).2.1 (f_M_pattern r0 w0 s0 p1 p2 p3 p4).2.2.1 (f_M_pattern r0 w0 s0 p1 p2 p3 p4).2.2.2)) A) ([.ref (ad 0), .int (p1), .long (p2), .long (p3), .long (p4)] : List Value).toArray s 0 0 A) (F0 m 85 ls []) := by
    intro s38_0 g82 hj hf0 hf1 H locs hP hD hS ls hl
    refine lv_aload_n hx hb d_M_pattern_85 rfl (lv_at hl 0 rfl) ?_
    refine lv_iload_n hx hb d_M_pattern_86 rfl (lv_at hl 1 rfl) ?_
    refine top_i hf0 ?_
    refine lv_bipush (v := 18) hx hb d_M_pattern_87 (by decide) ?_
    refine lv_lload hx hb d_M_pattern_89 (lv_at hl 2 rfl) ?_
    refine mm_v (F := f_M_put g82 w0 s0 p1.toNatClampNeg 18 p4) (w1 := fun g91 => (mW ad cJ cZ s38_0 g91.1 g91.2.1 g91.2.2)) (va_runV (As := [.int (nI p1.toNatClampNeg), .int (18), .long (p4)]) (rest := []) ⟨hx, hb, hml, hown, hts⟩ (c_M_put l dC dI ad cJ cZ H.size s38_0 g82 w0 s0 p1.toNatClampNeg 18 p4 hf1 (by decide)) (cwV 3 hts (gxV gx45 gx46 gx278 gx0 gx47) rfl rfl rfl (by decide +kernel) ⟨(Nat.le_of_ble_eq_true rfl), (Nat.le_of_ble_eq_true rfl)⟩) ⟨blp, va_recv hK hP (ci := 2) (q0 := 0) rfl rfl, fun U hU hW => ⟨rfl, by rw [hU], by rw [hU]; exact hP, va_K.moved hW.alike hK, hD.weaken (fun _ _ _ _ => trivial)⟩⟩ rfl rfl hl.1 rfl (lv_room (Nat.le_of_ble_eq_true rfl)) d_M_pattern_91 ⟨Nat.zero_le _, Nat.zero_le _⟩) hD hS hA (fun g91 eg91 H locs hP hD hS => ?_)
    refine K91g s38_0 g91 (Eq.trans (hj.trans rfl) (congrArg (fun g91 => f_M_pattern_91g r0 w0 s0 p1 p2 p3 p4 s38_0 g91) eg91)) hf0 hf1 H locs ?_ ?_ hS ls (lv_sub hl [] rfl)
    · with_reducible exact hP
    · with_reducible exact hD
  have K78u : ∀ (s38_0 : Int32) (r78n : (Nat → VV)) (hj : f_M_pattern r0 w0 s0 p1 p2 p3 p4 = f_M_pattern_78u r0 w0 s0 p1 p2 p3 p4 s38_0 r78n) (hf0 : p1 = nI p1.toNatClampNeg) (hf1 : p1.toNatClampNeg < 16) (H : Heap) (locs : List Loc) (hP : va_P (dC, dI) classes (mW ad cJ cZ s38_0 r78n w0 s0) H) (hD : va_D A (mW ad cJ cZ s38_0 r78n w0 s0)) (hS : va_S A s.heap H locs) (ls : Array Slot) (hl : lv_has ls 8 [(0, .ref (ad 0)), (1, .int (p1)), (6, .long (p4))]), W p l e (headSpec w_M_pattern ({ frames := 6, cells := 0, slots := 0, locals := 183 } : Room)).room s m ([.ref (ad 0), .int (p1), .long (p2), .long (p3), .long (p4)] : List Value).toArray below meth c H locs 0 0 (MQ below (va_Qv (fun _ : Unit => True) (mB (dC, dI) A (mW ad cJ cZ (f_M_pattern r0 w0 s0 p1 p2 p3 p4).1 (f_M_pattern r0 w0 s0 p1 p2 p3 p4).2.1 (f_M_pattern r0 w0 s0 p1 p2 p3 p4).2.2.1 (f_M_pattern r0 w0 s0 p1 p2 p3 p4).2.2.2)) A) ([.ref (ad 0), .int (p1), .long (p2), .long (p3), .long (p4)] : List Value).toArray s 0 0 A) (F0 m 79 ls []) := by
    intro s38_0 r78n hj hf0 hf1 H locs hP hD hS ls hl
    refine lv_aload_n hx hb d_M_pattern_79 rfl (lv_at hl 0 rfl) ?_
    refine lv_bipush (v := 18) hx hb d_M_pattern_80 (by decide) ?_
    refine mm_v (F := f_M_tighten r78n 18) (w1 := fun g82 => (mW ad cJ cZ s38_0 g82 w0 s0)) (va_runV (As := [.int (18)]) (rest := []) ⟨hx, hb, hml, hown, hts⟩ (c_M_tighten l dC dI ad cJ cZ H.size s38_0 r78n w0 s0 18 (by decide)) (cwV 1 hts (gxV gx69 gx70 gx274 gx0 gx71) rfl rfl rfl (by decide +kernel) ⟨(Nat.le_of_ble_eq_true rfl), (Nat.le_of_ble_eq_true rfl)⟩) ⟨blp, va_recv hK hP (ci := 2) (q0 := 0) rfl rfl, fun U hU hW => ⟨rfl, by rw [hU], by rw [hU]; exact hP, va_K.moved hW.alike hK, hD.weaken (fun _ _ _ _ => trivial)⟩⟩ rfl rfl hl.1 rfl (lv_room (Nat.le_of_ble_eq_true rfl)) d_M_pattern_82 ⟨Nat.zero_le _, Nat.zero_le _⟩) hD hS hA (fun g82 eg82 H locs hP hD hS => ?_)
    refine K82g s38_0 g82 (Eq.trans (hj.trans rfl) (congrArg (fun g82 => f_M_pattern_82g r0 w0 s0 p1 p2 p3 p4 s38_0 g82) eg82)) hf0 hf1 H locs ?_ ?_ hS ls (lv_sub hl [0, 1, 2] rfl)
    · with_reducible exact hP
    · with_reducible exact hD
  have K69u : ∀ (s38_0 : Int32) (r69n : (Nat → VV)) (hj : f_M_pattern r0 w0 s0 p1 p2 p3 p4 = f_M_pattern_69u r0 w0 s0 p1 p2 p3 p4 s38_0 r69n) (hf0 : p1 = nI p1.toNatClampNeg) (hf1 : p1.toNatClampNeg < 16) (H : Heap) (locs : List Loc) (hP : va_P (dC, dI) classes (mW ad cJ cZ s38_0 r69n w0 s0) H) (hD : va_D A (mW ad cJ cZ s38_0 r69n w0 s0)) (hS : va_S A s.heap H locs) (ls : Array Slot) (hl : lv_has ls 8 [(0, .ref (ad 0)), (1, .int (p1)), (4, .long (p3)), (6, .long (p4))]), W p l e (headSpec w_M_pattern ({ frames := 6, cells := 0, slots := 0, locals := 183 } : Room)).room s m ([.ref (ad 0), .int (p1), .long (p2), .long (p3), .long (p4)] : List Value).toArray below meth c H locs 0 0 (MQ below (va_Qv (fun _ : Unit => True) (mB (dC, dI) A (mW ad cJ cZ (f_M_pattern r0 w0 s0 p1 p2 p3 p4).1 (f_M_pattern r0 w0 s0 p1 p2 p3 p4).2.1 (f_M_pattern r0 w0 s0 p1 p2 p3 p4).2.2.1 (f_M_pattern r0 w0 s0 p1 p2 p3 p4).2.2.2)) A) ([.ref (ad 0), .int (p1), .long (p2), .long (p3), .long (p4)] : List Value).toArray s 0 0 A) (F0 m 70 ls []) := by
    intro s38_0 r69n hj hf0 hf1 H locs hP hD hS ls hl
    refine lv_aload_n hx hb d_M_pattern_70 rfl (lv_at hl 0 rfl) ?_
    refine va_get (D := (dC, dI)) (ci := 2) (v := .ref (ad 2)) (C := R_M) (T := F_M) (N := 10) hx hb hts (fun w h => List.mem_cons_of_mem _ (uw_M w h)) hown hK hP 0 rfl rfl 2 (by decide) (hG (.fieldLink R_M 13 "ValueSieveModel" "open" "[J") gx11) (fun _ h9 => h9) rfl d_M_pattern_71 ?_
    refine lv_bipush (v := 18) hx hb d_M_pattern_74 (by decide) ?_
    refine lv_lload hx hb d_M_pattern_76 (lv_at hl 2 rfl) ?_
    refine ms_2 (P := 18) (x := p3) hx hb hK hP hD hS rfl (by decide) d_M_pattern_78 (fun H locs hP hD hS => ?_)
    obtain ⟨r78n, er78n⟩ : ∃ z, z = u2 r69n 18 p3 := ⟨_, rfl⟩
    rw [← er78n] at hP hD
    refine K78u s38_0 r78n (Eq.trans (hj.trans rfl) (congrArg (fun r78n => f_M_pattern_78u r0 w0 s0 p1 p2 p3 p4 s38_0 r78n) er78n.symm)) hf0 hf1 H locs ?_ ?_ hS ls (lv_sub hl [0, 1, 3] rfl)
    · with_reducible exact hP
    · with_reducible exact hD
  have K52g : ∀ (s38_0 : Int32) (g52 : (Nat → VV)) (hj : f_M_pattern r0 w0 s0 p1 p2 p3 p4 = f_M_pattern_52g r0 w0 s0 p1 p2 p3 p4 s38_0 g52) (hf0 : p1 = nI p1.toNatClampNeg) (hf1 : p1.toNatClampNeg < 16) (H : Heap) (locs : List Loc) (hP : va_P (dC, dI) classes (mW ad cJ cZ s38_0 g52 w0 s0) H) (hD : va_D A (mW ad cJ cZ s38_0 g52 w0 s0)) (hS : va_S A s.heap H locs) (ls : Array Slot) (hl : lv_has ls 8 [(0, .ref (ad 0)), (1, .int (p1)), (2, .long (p2)), (4, .long (p3)), (6, .long (p4))]), W p l e (headSpec w_M_pattern ({ frames := 6, cells := 0, slots := 0, locals := 183 } : Room)).room s m ([.ref (ad 0), .int (p1), .long (p2), .long (p3), .long (p4)] : List Value).toArray below meth c H locs 0 0 (MQ below (va_Qv (fun _ : Unit => True) (mB (dC, dI) A (mW ad cJ cZ (f_M_pattern r0 w0 s0 p1 p2 p3 p4).1 (f_M_pattern r0 w0 s0 p1 p2 p3 p4).2.1 (f_M_pattern r0 w0 s0 p1 p2 p3 p4).2.2.1 (f_M_pattern r0 w0 s0 p1 p2 p3 p4).2.2.2)) A) ([.ref (ad 0), .int (p1), .long (p2), .long (p3), .long (p4)] : List Value).toArray s 0 0 A) (F0 m 55 ls []) := by
    intro s38_0 g52 hj hf0 hf1 H locs hP hD hS ls hl
    refine lv_aload_n hx hb d_M_pattern_55 rfl (lv_at hl 0 rfl) ?_
    refine va_get (D := (dC, dI)) (ci := 2) (v := .ref (ad 1)) (C := R_M) (T := F_M) (N := 10) hx hb hts (fun w h => List.mem_cons_of_mem _ (uw_M w h)) hown hK hP 0 rfl rfl 1 (by decide) (hG (.fieldLink R_M 7 "ValueSieveModel" "bits" "[J") gx10) (fun _ h9 => h9) rfl d_M_pattern_56 ?_
    refine lv_bipush (v := 18) hx hb d_M_pattern_59 (by decide) ?_
    refine lv_lload_n hx hb d_M_pattern_61 rfl (lv_at hl 2 rfl) ?_
    refine lv_lload hx hb d_M_pattern_62 (lv_at hl 3 rfl) ?_
    refine lv_ldc2 (v := -1) hx hb hown (hG (.constantLong R_M 49 (-1)) gx42) d_M_pattern_64 ?_
    refine lv_lxor hx hb d_M_pattern_67 ?_
    refine lv_land hx hb d_M_pattern_68 ?_
    refine ms_1 (P := 18) (x := p2 &&& (p3 ^^^ (-1 : Int64))) hx hb hK hP hD hS rfl (by decide) d_M_pattern_69 (fun H locs hP hD hS => ?_)
    obtain ⟨r69n, er69n⟩ : ∃ z, z = u1 g52 18 (p2 &&& (p3 ^^^ (-1 : Int64))) := ⟨_, rfl⟩
    rw [← er69n] at hP hD
    refine K69u s38_0 r69n (Eq.trans (hj.trans rfl) (congrArg (fun r69n => f_M_pattern_69u r0 w0 s0 p1 p2 p3 p4 s38_0 r69n) er69n.symm)) hf0 hf1 H locs ?_ ?_ hS ls (lv_sub hl [0, 1, 3, 4] rfl)
    · with_reducible exact hP
    · with_reducible exact hD
  have K38 : ∀ (s38_0 : Int32) (c38 : Int32) (hj : f_M_pattern r0 w0 s0 p1 p2 p3 p4 = f_M_pattern_38 r0 w0 s0 p1 p2 p3 p4 s38_0 c38) (hf0 : p1 = nI p1.toNatClampNeg) (hf1 : p1.toNatClampNeg < 16) (H : Heap) (locs : List Loc) (hP : va_P (dC, dI) classes (mW ad cJ cZ c38 r0 w0 s0) H) (hD : va_D A (mW ad cJ cZ c38 r0 w0 s0)) (hS : va_S A s.heap H locs) (ls : Array Slot) (hl : lv_has ls 8 [(0, .ref (ad 0)), (1, .int (p1)), (2, .long (p2)), (4, .long (p3)), (6, .long (p4))]), W p l e (headSpec w_M_pattern ({ frames := 6, cells := 0, slots := 0, locals := 183 } : Room)).room s m ([.ref (ad 0), .int (p1), .long (p2), .long (p3), .long (p4)] : List Value).toArray below meth c H locs 0 0 (MQ below (va_Qv (fun _ : Unit => True) (mB (dC, dI) A (mW ad cJ cZ (f_M_pattern r0 w0 s0 p1 p2 p3 p4).1 (f_M_pattern r0 w0 s0 p1 p2 p3 p4).2.1 (f_M_pattern r0 w0 s0 p1 p2 p3 p4).2.2.1 (f_M_pattern r0 w0 s0 p1 p2 p3 p4).2.2.2)) A) ([.ref (ad 0), .int (p1), .long (p2), .long (p3), .long (p4)] : List Value).toArray s 0 0 A) (F0 m 38 ls [.int (s38_0), .ref (ad 0)]) := by
    intro s38_0 c38 hj hf0 hf1 H locs hP hD hS ls hl
    refine mp_c hx hb hts (fun w h => List.mem_cons_of_mem _ (uw_M w h)) hown hK hP hD hS (hG (.fieldLink R_M 35 "ValueSieveModel" "code" "I") gx9) d_M_pattern_38 (fun H locs hP hD hS => ?_)
    refine lv_aload_n hx hb d_M_pattern_41 rfl (lv_at hl 0 rfl) ?_
    refine va_get (D := (dC, dI)) (ci := 2) (v := .int (s38_0)) (C := R_M) (T := F_M) (N := 10) hx hb hts (fun w h => List.mem_cons_of_mem _ (uw_M w h)) hown hK hP 0 rfl rfl 0 (by decide) (hG (.fieldLink R_M 35 "ValueSieveModel" "code" "I") gx9) (fun _ h9 => h9) rfl d_M_pattern_42 ?_
    refine lv_if_le (tgt := 49) hx hb d_M_pattern_45 (by decide) (fun e1_49 => ?_) (fun e1_49 => ?_)
    · refine lv_aload_n hx hb d_M_pattern_49 rfl (lv_at hl 0 rfl) ?_
      refine lv_bipush (v := 18) hx hb d_M_pattern_50 (by decide) ?_
      refine mm_v (F := f_M_nothingSaid r0 18) (w1 := fun g52 => (mW ad cJ cZ s38_0 g52 w0 s0)) (va_runV (As := [.int (18)]) (rest := []) ⟨hx, hb, hml, hown, hts⟩ (c_M_nothingSaid l dC dI ad cJ cZ H.size s38_0 r0 w0 s0 18 (by decide)) (cwV 1 hts (gxV gx39 gx40 gx267 gx0 gx41) rfl rfl rfl (by decide +kernel) ⟨(Nat.le_of_ble_eq_true rfl), (Nat.le_of_ble_eq_true rfl)⟩) ⟨blp, va_recv hK hP (ci := 2) (q0 := 0) rfl rfl, fun U hU hW => ⟨rfl, by rw [hU], by rw [hU]; exact hP, va_K.moved hW.alike hK, hD.weaken (fun _ _ _ _ => trivial)⟩⟩ rfl rfl hl.1 rfl (lv_room (Nat.le_of_ble_eq_true rfl)) d_M_pattern_52 ⟨Nat.zero_le _, Nat.zero_le _⟩) hD hS hA (fun g52 eg52 H locs hP hD hS => ?_)
      refine K52g s38_0 g52 (Eq.trans (hj.trans (by unfold f_M_pattern_38; first | with_reducible exact if_pos e1_49 | exact if_pos e1_49)) (congrArg (fun g52 => f_M_pattern_52g r0 w0 s0 p1 p2 p3 p4 s38_0 g52) eg52)) hf0 hf1 H locs ?_ ?_ hS ls (lv_sub hl [0, 1, 2, 3, 4] rfl)
      · with_reducible exact hP
      · with_reducible exact hD
    · have fe : f_M_pattern r0 w0 s0 p1 p2 p3 p4 = (s38_0, r0, w0, s0) := hj.trans (by unfold f_M_pattern_38; first | with_reducible exact if_neg e1_49 | exact if_neg e1_49)
      exact W.vret hx hb hr (fun t ht hW => ⟨⟨(), rfl, trivial, by rw [ht, fe]; exact hP, by rw [fe]; exact hD⟩, hS.F ht⟩) hS.2.2 d_M_pattern_48
  have K4g : ∀ (g4 : Bool × Int32) (hj : f_M_pattern r0 w0 s0 p1 p2 p3 p4 = f_M_pattern_4g r0 w0 s0 p1 p2 p3 p4 g4) (hf0 : npF g4.1 p1 0 0) (H : Heap) (locs : List Loc) (hP : va_P (dC, dI) classes (mW ad cJ cZ g4.2 r0 w0 s0) H) (hD : va_D A (mW ad cJ cZ g4.2 r0 w0 s0)) (hS : va_S A s.heap H locs) (ls : Array Slot) (hl : lv_has ls 8 [(0, .ref (ad 0)), (1, .int (p1)), (2, .long (p2)), (4, .long (p3)), (6, .long (p4))]), W p l e (headSpec w_M_pattern ({ frames := 6, cells := 0, slots := 0, locals := 183 } : Room)).room s m ([.ref (ad 0), .int (p1), .long (p2), .long (p3), .long (p4)] : List Value).toArray below meth c H locs 0 0 (MQ below (va_Qv (fun _ : Unit => True) (mB (dC, dI) A (mW ad cJ cZ (f_M_pattern r0 w0 s0 p1 p2 p3 p4).1 (f_M_pattern r0 w0 s0 p1 p2 p3 p4).2.1 (f_M_pattern r0 w0 s0 p1 p2 p3 p4).2.2.1 (f_M_pattern r0 w0 s0 p1 p2 p3 p4).2.2.2)) A) ([.ref (ad 0), .int (p1), .long (p2), .long (p3), .long (p4)] : List Value).toArray s 0 0 A) (F0 m 7 ls [.int (bI g4.1)]) := by
    intro g4 hj hf0 H locs hP hD hS ls hl
    refine wz_eq (tgt := 11) hx hb d_M_pattern_7 (by decide) (fun e1_11 => ?_) (fun e1_11 => ?_)
    · obtain ⟨⟨i1, j1⟩, ⟨i2, j2⟩, ⟨i3, j3⟩⟩ := npF_of hf0 e1_11
      refine lv_aload_n hx hb d_M_pattern_11 rfl (lv_at hl 0 rfl) ?_
      refine lv_lload hx hb d_M_pattern_12 (lv_at hl 4 rfl) ?_
      refine lv_lload hx hb d_M_pattern_14 (lv_at hl 3 rfl) ?_
      refine lv_ldc2 (v := -1) hx hb hown (hG (.constantLong R_M 49 (-1)) gx42) d_M_pattern_16 ?_
      refine lv_lxor hx hb d_M_pattern_19 ?_
      refine lv_land hx hb d_M_pattern_20 ?_
      refine lv_lload_n hx hb d_M_pattern_21 rfl (lv_at hl 2 rfl) ?_
      refine lv_lload hx hb d_M_pattern_22 (lv_at hl 3 rfl) ?_
      refine lv_ldc2 (v := -1) hx hb hown (hG (.constantLong R_M 49 (-1)) gx42) d_M_pattern_24 ?_
      refine lv_lxor hx hb d_M_pattern_27 ?_
      refine lv_land hx hb d_M_pattern_28 ?_
      refine wl_eq (tgt := 37) hx hb d_M_pattern_29 d_M_pattern_30 (by decide) (fun e2_37 => ?_) (fun e2_37 => ?_)
      · refine lv_iconst (v := 0) hx hb d_M_pattern_37 (by decide) ?_
        refine K38 0 g4.2 (hj.trans (by unfold f_M_pattern_4g; first | with_reducible exact (if_neg e1_11).trans (if_pos e2_37) | exact (if_neg e1_11).trans (if_pos e2_37))) i1 j1 H locs ?_ ?_ hS ls (lv_sub hl [0, 1, 2, 3, 4] rfl)
        · with_reducible exact hP
        · with_reducible exact hD
      · refine lv_iconst (v := 2) hx hb d_M_pattern_33 (by decide) ?_
        refine lv_goto (tgt := 38) hx hb d_M_pattern_34 (by decide) ?_
        refine K38 2 g4.2 (hj.trans (by unfold f_M_pattern_4g; first | with_reducible exact (if_neg e1_11).trans (if_neg e2_37) | exact (if_neg e1_11).trans (if_neg e2_37))) i1 j1 H locs ?_ ?_ hS ls (lv_sub hl [0, 1, 2, 3, 4] rfl)
        · with_reducible exact hP
        · with_reducible exact hD
    · have fe : f_M_pattern r0 w0 s0 p1 p2 p3 p4 = (g4.2, r0, w0, s0) := hj.trans (by unfold f_M_pattern_4g; first | with_reducible exact if_pos e1_11 | exact if_pos e1_11)
      exact W.vret hx hb hr (fun t ht hW => ⟨⟨(), rfl, trivial, by rw [ht, fe]; exact hP, by rw [fe]; exact hD⟩, hS.F ht⟩) hS.2.2 d_M_pattern_10
  refine lv_aload_n hx hb d_M_pattern_0 rfl (lv_at hl 0 rfl) ?_
  refine lv_iload_n hx hb d_M_pattern_1 rfl (lv_at hl 1 rfl) ?_
  refine lv_iconst (v := 0) hx hb d_M_pattern_2 (by decide) ?_
  refine lv_iconst (v := 0) hx hb d_M_pattern_3 (by decide) ?_
  refine mm_z (F := f_M_noPlace p1 0 0) (w1 := fun g4 => (mW ad cJ cZ g4.2 r0 w0 s0)) (va_runV (As := [.int (p1), .int (0), .int (0)]) (rest := []) ⟨hx, hb, hml, hown, hts⟩ (c_M_noPlace l dC dI ad cJ cZ s.heap.size c0 r0 w0 s0 p1 0 0) (cwV 3 hts (gxV gx36 gx37 gx276 gx0 gx38) rfl rfl rfl (by decide +kernel) ⟨(Nat.le_of_ble_eq_true rfl), (Nat.le_of_ble_eq_true rfl)⟩) ⟨blp, va_recv hK hP (ci := 2) (q0 := 0) rfl rfl, fun U hU hW => ⟨rfl, by rw [hU], by rw [hU]; exact hP, va_K.moved hW.alike hK, hD.weaken (fun _ _ _ _ => trivial)⟩⟩ rfl rfl hl.1 rfl (lv_room (Nat.le_of_ble_eq_true rfl)) d_M_pattern_4 ⟨Nat.zero_le _, Nat.zero_le _⟩) hD hS hA (fun g4 eg4 H locs hP hD hS => ?_)
  have hpg4 := np_ok eg4
  refine K4g g4 (Eq.trans (rfl) (congrArg (fun g4 => f_M_pattern_4g r0 w0 s0 p1 p2 p3 p4 g4) eg4)) hpg4 H locs ?_ ?_ hS ls (lv_sub hl [0, 1, 2, 3, 4] rfl)
  · with_reducible exact hP
  · with_reducible exact hD
-- cut
theorem d_M_cut_0 : decode b_M_cut 0 = .ok (.aload_n 0, 1) := by decide +kernel
theorem d_M_cut_1 : decode b_M_cut 1 = .ok (.iload_n 1, 1) := by decide +kernel
theorem d_M_cut_2 : decode b_M_cut 2 = .ok (.iload_n 2, 1) := by decide +kernel
theorem d_M_cut_3 : decode b_M_cut 3 = .ok (.iconst 0, 1) := by decide +kernel
theorem d_M_cut_4 : decode b_M_cut 4 = .ok (.invokevirtual 98, 3) := by decide +kernel
theorem d_M_cut_7 : decode b_M_cut 7 = .ok (.ifCond .eq 4, 3) := by decide +kernel
theorem d_M_cut_10 : decode b_M_cut 10 = .ok (.return_, 1) := by decide +kernel
theorem d_M_cut_11 : decode b_M_cut 11 = .ok (.aload_n 0, 1) := by decide +kernel
theorem d_M_cut_12 : decode b_M_cut 12 = .ok (.iload_n 3, 1) := by decide +kernel
theorem d_M_cut_13 : decode b_M_cut 13 = .ok (.bipush 8, 2) := by decide +kernel
theorem d_M_cut_15 : decode b_M_cut 15 = .ok (.if_icmp .eq 21, 3) := by decide +kernel
theorem d_M_cut_18 : decode b_M_cut 18 = .ok (.iload_n 3, 1) := by decide +kernel
theorem d_M_cut_19 : decode b_M_cut 19 = .ok (.bipush 16, 2) := by decide +kernel
theorem d_M_cut_21 : decode b_M_cut 21 = .ok (.if_icmp .eq 15, 3) := by decide +kernel
theorem d_M_cut_24 : decode b_M_cut 24 = .ok (.iload_n 3, 1) := by decide +kernel
theorem d_M_cut_25 : decode b_M_cut 25 = .ok (.bipush 32, 2) := by decide +kernel
theorem d_M_cut_27 : decode b_M_cut 27 = .ok (.if_icmp .eq 9, 3) := by decide +kernel
theorem d_M_cut_30 : decode b_M_cut 30 = .ok (.iload_n 3, 1) := by decide +kernel
theorem d_M_cut_31 : decode b_M_cut 31 = .ok (.bipush 64, 2) := by decide +kernel
theorem d_M_cut_33 : decode b_M_cut 33 = .ok (.if_icmp .ne 7, 3) := by decide +kernel
theorem d_M_cut_36 : decode b_M_cut 36 = .ok (.iconst 0, 1) := by decide +kernel
theorem d_M_cut_37 : decode b_M_cut 37 = .ok (.goto 4, 3) := by decide +kernel
theorem d_M_cut_40 : decode b_M_cut 40 = .ok (.iconst 2, 1) := by decide +kernel
theorem d_M_cut_41 : decode b_M_cut 41 = .ok (.putfield 35, 3) := by decide +kernel
theorem d_M_cut_44 : decode b_M_cut 44 = .ok (.aload_n 0, 1) := by decide +kernel
theorem d_M_cut_45 : decode b_M_cut 45 = .ok (.getfield 35, 3) := by decide +kernel
theorem d_M_cut_48 : decode b_M_cut 48 = .ok (.ifCond .ne 29, 3) := by decide +kernel
theorem d_M_cut_51 : decode b_M_cut 51 = .ok (.aload_n 0, 1) := by decide +kernel
theorem d_M_cut_52 : decode b_M_cut 52 = .ok (.iload_n 2, 1) := by decide +kernel
theorem d_M_cut_53 : decode b_M_cut 53 = .ok (.bipush 18, 2) := by decide +kernel
theorem d_M_cut_55 : decode b_M_cut 55 = .ok (.iload_n 3, 1) := by decide +kernel
theorem d_M_cut_56 : decode b_M_cut 56 = .ok (.invokevirtual 120, 3) := by decide +kernel
theorem d_M_cut_59 : decode b_M_cut 59 = .ok (.aload_n 0, 1) := by decide +kernel
theorem d_M_cut_60 : decode b_M_cut 60 = .ok (.iload_n 1, 1) := by decide +kernel
theorem d_M_cut_61 : decode b_M_cut 61 = .ok (.bipush 18, 2) := by decide +kernel
theorem d_M_cut_63 : decode b_M_cut 63 = .ok (.aload_n 0, 1) := by decide +kernel
theorem d_M_cut_64 : decode b_M_cut 64 = .ok (.getfield 32, 3) := by decide +kernel
theorem d_M_cut_67 : decode b_M_cut 67 = .ok (.iload_n 2, 1) := by decide +kernel
theorem d_M_cut_68 : decode b_M_cut 68 = .ok (.laload, 1) := by decide +kernel
theorem d_M_cut_69 : decode b_M_cut 69 = .ok (.iload_n 3, 1) := by decide +kernel
theorem d_M_cut_70 : decode b_M_cut 70 = .ok (.invokestatic 116, 3) := by decide +kernel
theorem d_M_cut_73 : decode b_M_cut 73 = .ok (.land, 1) := by decide +kernel
theorem d_M_cut_74 : decode b_M_cut 74 = .ok (.invokevirtual 105, 3) := by decide +kernel
theorem d_M_cut_77 : decode b_M_cut 77 = .ok (.return_, 1) := by decide +kernel
def f_M_cut_74g (r0 : (Nat → VV)) (w0 : (Nat → Int64)) (s0 : Int32) (p1 : Int32) (p2 : Int32) (p3 : Int32) (s41_0 : Int32) (g74 : (Nat → VV) × (Nat → Int64) × Int32) : Int32 × (Nat → VV) × (Nat → Int64) × Int32 := (s41_0, g74.1, g74.2.1, g74.2.2)
def f_M_cut_56g (r0 : (Nat → VV)) (w0 : (Nat → Int64)) (s0 : Int32) (p1 : Int32) (p2 : Int32) (p3 : Int32) (s41_0 : Int32) (g56 : (Nat → VV)) : Int32 × (Nat → VV) × (Nat → Int64) × Int32 := f_M_cut_74g r0 w0 s0 p1 p2 p3 s41_0 (f_M_put g56 w0 s0 p1.toNatClampNeg 18 ((w0 p2.toNatClampNeg) &&& (f_M_mask p3)))
def f_M_cut_41 (r0 : (Nat → VV)) (w0 : (Nat → Int64)) (s0 : Int32) (p1 : Int32) (p2 : Int32) (p3 : Int32) (s41_0 : Int32) (c41 : Int32) : Int32 × (Nat → VV) × (Nat → Int64) × Int32 := (if s41_0 = 0 then f_M_cut_56g r0 w0 s0 p1 p2 p3 s41_0 (f_M_cutRow r0 p2.toNatClampNeg 18 p3) else (s41_0, r0, w0, s0))
def f_M_cut_36 (r0 : (Nat → VV)) (w0 : (Nat → Int64)) (s0 : Int32) (p1 : Int32) (p2 : Int32) (p3 : Int32) (c36 : Int32) : Int32 × (Nat → VV) × (Nat → Int64) × Int32 := f_M_cut_41 r0 w0 s0 p1 p2 p3 0 c36
def f_M_cut_4g (r0 : (Nat → VV)) (w0 : (Nat → Int64)) (s0 : Int32) (p1 : Int32) (p2 : Int32) (p3 : Int32) (g4 : Bool × Int32) : Int32 × (Nat → VV) × (Nat → Int64) × Int32 := (if g4.1 = true then (g4.2, r0, w0, s0) else (if p3 = 8 then f_M_cut_36 r0 w0 s0 p1 p2 p3 g4.2 else (if p3 = 16 then f_M_cut_36 r0 w0 s0 p1 p2 p3 g4.2 else (if p3 = 32 then f_M_cut_36 r0 w0 s0 p1 p2 p3 g4.2 else (if p3 = 64 then f_M_cut_36 r0 w0 s0 p1 p2 p3 g4.2 else f_M_cut_41 r0 w0 s0 p1 p2 p3 2 g4.2)))))
def f_M_cut (r0 : (Nat → VV)) (w0 : (Nat → Int64)) (s0 : Int32) (p1 : Int32) (p2 : Int32) (p3 : Int32) : Int32 × (Nat → VV) × (Nat → Int64) × Int32 := f_M_cut_4g r0 w0 s0 p1 p2 p3 (f_M_noPlace p1 p2 0)
set_option maxRecDepth 100000 in
set_option maxHeartbeats 4000000 in
theorem c_M_cut (l : Launch) (dC : Nat → ClassId) (dI : Nat → Nat → Nat) (ad : Nat → Nat) (cJ cZ : ClassId) (sz : Nat) (c0 : Int32) (r0 : (Nat → VV)) (w0 : (Nat → Int64)) (s0 : Int32) (p1 : Int32) (p2 : Int32) (p3 : Int32) : Met l y_M_cut w_M_cut ({ frames := 7, cells := 0, slots := 0, locals := 208 } : Room) (va_Pc [.ref (ad 0), .int (p1), .int (p2), .int (p3)] (nP (dC, dI) (mT cJ cZ) (mW ad cJ cZ c0 r0 w0 s0) sz)) (va_Qv (fun _ : Unit => True) (mB (dC, dI) (va_A (mW ad cJ cZ c0 r0 w0 s0) sz) (mW ad cJ cZ (f_M_cut r0 w0 s0 p1 p2 p3).1 (f_M_cut r0 w0 s0 p1 p2 p3).2.1 (f_M_cut r0 w0 s0 p1 p2 p3).2.2.1 (f_M_cut r0 w0 s0 p1 p2 p3).2.2.2)) (va_A (mW ad cJ cZ c0 r0 w0 s0) sz)) 0 0 (va_A (mW ad cJ cZ c0 r0 w0 s0) sz) := by
  refine Met.ofW (cc := b_M_cut) (maxL := 4) (ret := none) (by decide) rfl ?_
  intro p e s m args below meth c s₁ B hml hv
  obtain ⟨rfl, hsz, hP, hK, hD0⟩ := hv
  have hx := B.exec
  have hb := B.bytes
  have hr := B.returns
  have hts := atoms_spec (ws := w_M_cut) B.pre
  have hG : ∀ w ∈ gM, w.before _ s = true := fun w h => hts w (List.mem_cons_of_mem _ h)
  have hown : s.vm.findClass R_M = some m.cls := findClass_of_methodNamed B.named
  have hlocks := B.notSynchronized
  subst hsz
  have hD := hD0.self (sz := s.heap.size)
  generalize hAe : va_A (mW ad cJ cZ c0 r0 w0 s0) s.heap.size = A at hD ⊢
  have hA : ∀ q : Nat, s.heap.size ≤ q → A q := fun q h => by rw [← hAe]; exact Or.inr h
  have hS : va_S A s.heap s.heap [] := va_S.rf
  have hl := lv_entry ([.ref (ad 0), .int (p1), .int (p2), .int (p3)]) (n := 4) (Nat.le_of_ble_eq_true rfl)
  rw [lg_entry_eq]
  generalize (lg_sl ([.ref (ad 0), .int (p1), .int (p2), .int (p3)]) ++ List.replicate (4 - (lg_sl ([.ref (ad 0), .int (p1), .int (p2), .int (p3)])).length) Slot.unset).toArray = ls at hl ⊢
  have hl : lv_has ls 4 [(0, .ref (ad 0)), (1, .int (p1)), (2, .int (p2)), (3, .int (p3))] := hl
  have K74g : ∀ (s41_0 : Int32) (g74 : (Nat → VV) × (Nat → Int64) × Int32) (hj : f_M_cut r0 w0 s0 p1 p2 p3 = f_M_cut_74g r0 w0 s0 p1 p2 p3 s41_0 g74) (hf0 : p1 = nI p1.toNatClampNeg) (hf1 : p1.toNatClampNeg < 16) (hf2 : p2 = nI p2.toNatClampNeg) (hf3 : p2.toNatClampNeg < 16) (H : Heap) (locs : List Loc) (hP : va_P (dC, dI) classes (mW ad cJ cZ s41_0 g74.1 g74.2.1 g74.2.2) H) (hD : va_D A (mW ad cJ cZ s41_0 g74.1 g74.2.1 g74.2.2)) (hS : va_S A s.heap H locs) (ls : Array Slot) (hl : lv_has ls 4 []), W p l e (headSpec w_M_cut ({ frames := 7, cells := 0, slots := 0, locals := 208 } : Room)).room s m ([.ref (ad 0), .int (p1), .int (p2), .int (p3)] : List Value).toArray below meth c H locs 0 0 (MQ below (va_Qv (fun _ : Unit => True) (mB (dC, dI) A (mW ad cJ cZ (f_M_cut r0 w0 s0 p1 p2 p3).1 (f_M_cut r0 w0 s0 p1 p2 p3).2.1 (f_M_cut r0 w0 s0 p1 p2 p3).2.2.1 (f_M_cut r0 w0 s0 p1 p2 p3).2.2.2)) A) ([.ref (ad 0), .int (p1), .int (p2), .int (p3)] : List Value).toArray s 0 0 A) (F0 m 77 ls []) := by
    intro s41_0 g74 hj hf0 hf1 hf2 hf3 H locs hP hD hS ls hl
    have fe : f_M_cut r0 w0 s0 p1 p2 p3 = (s41_0, g74.1, g74.2.1, g74.2.2) := hj.trans rfl
    exact W.vret hx hb hr (fun t ht hW => ⟨⟨(), rfl, trivial, by rw [ht, fe]; exact hP, by rw [fe]; exact hD⟩, hS.F ht⟩) hS.2.2 d_M_cut_77
  have K56g : ∀ (s41_0 : Int32) (g56 : (Nat → VV)) (hj : f_M_cut r0 w0 s0 p1 p2 p3 = f_M_cut_56g r0 w0 s0 p1 p2 p3 s41_0 g56) (hf0 : p1 = nI p1.toNatClampNeg) (hf1 : p1.toNatClampNeg < 16) (hf2 : p2 = nI p2.toNatClampNeg) (hf3 : p2.toNatClampNeg < 16) (H : Heap) (locs : List Loc) (hP : va_P (dC, dI) classes (mW ad cJ cZ s41_0 g56 w0 s0) H) (hD : va_D A (mW ad cJ cZ s41_0 g56 w0 s0)) (hS : va_S A s.heap H locs) (ls : Array Slot) (hl : lv_has ls 4 [(0, .ref (ad 0)), (1, .int (p1)), (2, .int (p2)), (3, .int (p3))]), W p l e (headSpec w_M_cut ({ frames := 7, cells := 0, slots := 0, locals := 208 } : Room)).room s m ([.ref (ad 0), .int (p1), .int (p2), .int (p3)] : List Value).toArray below meth c H locs 0 0 (MQ below (va_Qv (fun _ : Unit => True) (mB (dC, dI) A (mW ad cJ cZ (f_M_cut r0 w0 s0 p1 p2 p3).1 (f_M_cut r0 w0 s0 p1 p2 p3).2.1 (f_M_cut r0 w0 s0 p1 p2 p3).2.2.1 (f_M_cut r0 w0 s0 p1 p2 p3).2.2.2)) A) ([.ref (ad 0), .int (p1), .int (p2), .int (p3)] : List Value).toArray s 0 0 A) (F0 m 59 ls []) := by
    intro s41_0 g56 hj hf0 hf1 hf2 hf3 H locs hP hD hS ls hl
    refine lv_aload_n hx hb d_M_cut_59 rfl (lv_at hl 0 rfl) ?_
    refine lv_iload_n hx hb d_M_cut_60 rfl (lv_at hl 1 rfl) ?_
    refine top_i hf0 ?_
    refine lv_bipush (v := 18) hx hb d_M_cut_61 (by decide) ?_
    refine lv_aload_n hx hb d_M_cut_63 rfl (lv_at hl 0 rfl) ?_
    refine va_get (D := (dC, dI)) (ci := 2) (v := .ref (ad 8)) (C := R_M) (T := F_M) (N := 10) hx hb hts (fun w h => List.mem_cons_of_mem _ (uw_M w h)) hown hK hP 0 rfl rfl 8 (by decide) (hG (.fieldLink R_M 32 "ValueSieveModel" "witness" "[J") gx17) (fun _ h9 => h9) rfl d_M_cut_64 ?_
    refine lv_iload_n hx hb d_M_cut_67 rfl (lv_at hl 2 rfl) ?_
    refine top_i hf2 ?_
    refine ml_8 (P := p2.toNatClampNeg) hx hb hK hP rfl hf3 d_M_cut_68 ?_
    refine lv_iload_n hx hb d_M_cut_69 rfl (lv_at hl 3 rfl) ?_
    refine rc_l (W.runS (As := [.int (p3)]) (rest := [.long (w0 p2.toNatClampNeg), .int (18), .int (nI p1.toNatClampNeg), .ref (ad 0)]) ⟨hx, hb, hml, hown, hts⟩ (c_M_mask l p3) (va_cwS 1 hts (gxS gx102 gx103 gx0 gx104) rfl rfl rfl (by decide +kernel) ⟨(Nat.le_of_ble_eq_true rfl), (Nat.le_of_ble_eq_true rfl)⟩) ⟨bl0, fun U hU hW => ⟨rfl, trivial⟩⟩ rfl rfl hl.1 rfl (lv_room (Nat.le_of_ble_eq_true rfl)) d_M_cut_70 ⟨Nat.zero_le _, Nat.zero_le _⟩) ?_
    refine lv_land hx hb d_M_cut_73 ?_
    refine mm_v (F := f_M_put g56 w0 s0 p1.toNatClampNeg 18 ((w0 p2.toNatClampNeg) &&& (f_M_mask p3))) (w1 := fun g74 => (mW ad cJ cZ s41_0 g74.1 g74.2.1 g74.2.2)) (va_runV (As := [.int (nI p1.toNatClampNeg), .int (18), .long ((w0 p2.toNatClampNeg) &&& (f_M_mask p3))]) (rest := []) ⟨hx, hb, hml, hown, hts⟩ (c_M_put l dC dI ad cJ cZ H.size s41_0 g56 w0 s0 p1.toNatClampNeg 18 ((w0 p2.toNatClampNeg) &&& (f_M_mask p3)) hf1 (by decide)) (cwV 3 hts (gxV gx45 gx46 gx278 gx0 gx47) rfl rfl rfl (by decide +kernel) ⟨(Nat.le_of_ble_eq_true rfl), (Nat.le_of_ble_eq_true rfl)⟩) ⟨blp, va_recv hK hP (ci := 2) (q0 := 0) rfl rfl, fun U hU hW => ⟨rfl, by rw [hU], by rw [hU]; exact hP, va_K.moved hW.alike hK, hD.weaken (fun _ _ _ _ => trivial)⟩⟩ rfl rfl hl.1 rfl (lv_room (Nat.le_of_ble_eq_true rfl)) d_M_cut_74 ⟨Nat.zero_le _, Nat.zero_le _⟩) hD hS hA (fun g74 eg74 H locs hP hD hS => ?_)
    refine K74g s41_0 g74 (Eq.trans (hj.trans rfl) (congrArg (fun g74 => f_M_cut_74g r0 w0 s0 p1 p2 p3 s41_0 g74) eg74)) hf0 hf1 hf2 hf3 H locs ?_ ?_ hS ls (lv_sub hl [] rfl)
    · with_reducible exact hP
    · with_reducible exact hD
  have K41 : ∀ (s41_0 : Int32) (c41 : Int32) (hj : f_M_cut r0 w0 s0 p1 p2 p3 = f_M_cut_41 r0 w0 s0 p1 p2 p3 s41_0 c41) (hf0 : p1 = nI p1.toNatClampNeg) (hf1 : p1.toNatClampNeg < 16) (hf2 : p2 = nI p2.toNatClampNeg) (hf3 : p2.toNatClampNeg < 16) (H : Heap) (locs : List Loc) (hP : va_P (dC, dI) classes (mW ad cJ cZ c41 r0 w0 s0) H) (hD : va_D A (mW ad cJ cZ c41 r0 w0 s0)) (hS : va_S A s.heap H locs) (ls : Array Slot) (hl : lv_has ls 4 [(0, .ref (ad 0)), (1, .int (p1)), (2, .int (p2)), (3, .int (p3))]), W p l e (headSpec w_M_cut ({ frames := 7, cells := 0, slots := 0, locals := 208 } : Room)).room s m ([.ref (ad 0), .int (p1), .int (p2), .int (p3)] : List Value).toArray below meth c H locs 0 0 (MQ below (va_Qv (fun _ : Unit => True) (mB (dC, dI) A (mW ad cJ cZ (f_M_cut r0 w0 s0 p1 p2 p3).1 (f_M_cut r0 w0 s0 p1 p2 p3).2.1 (f_M_cut r0 w0 s0 p1 p2 p3).2.2.1 (f_M_cut r0 w0 s0 p1 p2 p3).2.2.2)) A) ([.ref (ad 0), .int (p1), .int (p2), .int (p3)] : List Value).toArray s 0 0 A) (F0 m 41 ls [.int (s41_0), .ref (ad 0)]) := by
    intro s41_0 c41 hj hf0 hf1 hf2 hf3 H locs hP hD hS ls hl
    refine mp_c hx hb hts (fun w h => List.mem_cons_of_mem _ (uw_M w h)) hown hK hP hD hS (hG (.fieldLink R_M 35 "ValueSieveModel" "code" "I") gx9) d_M_cut_41 (fun H locs hP hD hS => ?_)
    refine lv_aload_n hx hb d_M_cut_44 rfl (lv_at hl 0 rfl) ?_
    refine va_get (D := (dC, dI)) (ci := 2) (v := .int (s41_0)) (C := R_M) (T := F_M) (N := 10) hx hb hts (fun w h => List.mem_cons_of_mem _ (uw_M w h)) hown hK hP 0 rfl rfl 0 (by decide) (hG (.fieldLink R_M 35 "ValueSieveModel" "code" "I") gx9) (fun _ h9 => h9) rfl d_M_cut_45 ?_
    refine lv_if_ne (tgt := 77) hx hb d_M_cut_48 (by decide) (fun e1_77 => ?_) (fun e1_77 => ?_)
    · have fe : f_M_cut r0 w0 s0 p1 p2 p3 = (s41_0, r0, w0, s0) := hj.trans (by unfold f_M_cut_41; first | with_reducible exact if_neg e1_77 | exact if_neg e1_77)
      exact W.vret hx hb hr (fun t ht hW => ⟨⟨(), rfl, trivial, by rw [ht, fe]; exact hP, by rw [fe]; exact hD⟩, hS.F ht⟩) hS.2.2 d_M_cut_77
    · refine lv_aload_n hx hb d_M_cut_51 rfl (lv_at hl 0 rfl) ?_
      refine lv_iload_n hx hb d_M_cut_52 rfl (lv_at hl 2 rfl) ?_
      refine top_i hf2 ?_
      refine lv_bipush (v := 18) hx hb d_M_cut_53 (by decide) ?_
      refine lv_iload_n hx hb d_M_cut_55 rfl (lv_at hl 3 rfl) ?_
      refine mm_v (F := f_M_cutRow r0 p2.toNatClampNeg 18 p3) (w1 := fun g56 => (mW ad cJ cZ s41_0 g56 w0 s0)) (va_runV (As := [.int (nI p2.toNatClampNeg), .int (18), .int (p3)]) (rest := []) ⟨hx, hb, hml, hown, hts⟩ (c_M_cutRow l dC dI ad cJ cZ H.size s41_0 r0 w0 s0 p2.toNatClampNeg 18 p3 (Nat.lt_of_lt_of_le hf3 (by decide)) (by decide)) (cwV 3 hts (gxV gx99 gx100 gx279 gx0 gx101) rfl rfl rfl (by decide +kernel) ⟨(Nat.le_of_ble_eq_true rfl), (Nat.le_of_ble_eq_true rfl)⟩) ⟨blp, va_recv hK hP (ci := 2) (q0 := 0) rfl rfl, fun U hU hW => ⟨rfl, by rw [hU], by rw [hU]; exact hP, va_K.moved hW.alike hK, hD.weaken (fun _ _ _ _ => trivial)⟩⟩ rfl rfl hl.1 rfl (lv_room (Nat.le_of_ble_eq_true rfl)) d_M_cut_56 ⟨Nat.zero_le _, Nat.zero_le _⟩) hD hS hA (fun g56 eg56 H locs hP hD hS => ?_)
      refine K56g s41_0 g56 (Eq.trans (hj.trans (by unfold f_M_cut_41; first | with_reducible exact if_pos e1_77 | exact if_pos e1_77)) (congrArg (fun g56 => f_M_cut_56g r0 w0 s0 p1 p2 p3 s41_0 g56) eg56)) hf0 hf1 hf2 hf3 H locs ?_ ?_ hS ls (lv_sub hl [0, 1, 2, 3] rfl)
      · with_reducible exact hP
      · with_reducible exact hD
  have K36 : ∀ (c36 : Int32) (hj : f_M_cut r0 w0 s0 p1 p2 p3 = f_M_cut_36 r0 w0 s0 p1 p2 p3 c36) (hf0 : p1 = nI p1.toNatClampNeg) (hf1 : p1.toNatClampNeg < 16) (hf2 : p2 = nI p2.toNatClampNeg) (hf3 : p2.toNatClampNeg < 16) (H : Heap) (locs : List Loc) (hP : va_P (dC, dI) classes (mW ad cJ cZ c36 r0 w0 s0) H) (hD : va_D A (mW ad cJ cZ c36 r0 w0 s0)) (hS : va_S A s.heap H locs) (ls : Array Slot) (hl : lv_has ls 4 [(0, .ref (ad 0)), (1, .int (p1)), (2, .int (p2)), (3, .int (p3))]), W p l e (headSpec w_M_cut ({ frames := 7, cells := 0, slots := 0, locals := 208 } : Room)).room s m ([.ref (ad 0), .int (p1), .int (p2), .int (p3)] : List Value).toArray below meth c H locs 0 0 (MQ below (va_Qv (fun _ : Unit => True) (mB (dC, dI) A (mW ad cJ cZ (f_M_cut r0 w0 s0 p1 p2 p3).1 (f_M_cut r0 w0 s0 p1 p2 p3).2.1 (f_M_cut r0 w0 s0 p1 p2 p3).2.2.1 (f_M_cut r0 w0 s0 p1 p2 p3).2.2.2)) A) ([.ref (ad 0), .int (p1), .int (p2), .int (p3)] : List Value).toArray s 0 0 A) (F0 m 36 ls [.ref (ad 0)]) := by
    intro c36 hj hf0 hf1 hf2 hf3 H locs hP hD hS ls hl
    refine lv_iconst (v := 0) hx hb d_M_cut_36 (by decide) ?_
    refine lv_goto (tgt := 41) hx hb d_M_cut_37 (by decide) ?_
    refine K41 0 c36 (hj.trans rfl) hf0 hf1 hf2 hf3 H locs ?_ ?_ hS ls (lv_sub hl [0, 1, 2, 3] rfl)
    · with_reducible exact hP
    · with_reducible exact hD
  have K4g : ∀ (g4 : Bool × Int32) (hj : f_M_cut r0 w0 s0 p1 p2 p3 = f_M_cut_4g r0 w0 s0 p1 p2 p3 g4) (hf0 : npF g4.1 p1 p2 0) (H : Heap) (locs : List Loc) (hP : va_P (dC, dI) classes (mW ad cJ cZ g4.2 r0 w0 s0) H) (hD : va_D A (mW ad cJ cZ g4.2 r0 w0 s0)) (hS : va_S A s.heap H locs) (ls : Array Slot) (hl : lv_has ls 4 [(0, .ref (ad 0)), (1, .int (p1)), (2, .int (p2)), (3, .int (p3))]), W p l e (headSpec w_M_cut ({ frames := 7, cells := 0, slots := 0, locals := 208 } : Room)).room s m ([.ref (ad 0), .int (p1), .int (p2), .int (p3)] : List Value).toArray below meth c H locs 0 0 (MQ below (va_Qv (fun _ : Unit => True) (mB (dC, dI) A (mW ad cJ cZ (f_M_cut r0 w0 s0 p1 p2 p3).1 (f_M_cut r0 w0 s0 p1 p2 p3).2.1 (f_M_cut r0 w0 s0 p1 p2 p3).2.2.1 (f_M_cut r0 w0 s0 p1 p2 p3).2.2.2)) A) ([.ref (ad 0), .int (p1), .int (p2), .int (p3)] : List Value).toArray s 0 0 A) (F0 m 7 ls [.int (bI g4.1)]) := by
    intro g4 hj hf0 H locs hP hD hS ls hl
    refine wz_eq (tgt := 11) hx hb d_M_cut_7 (by decide) (fun e1_11 => ?_) (fun e1_11 => ?_)
    · obtain ⟨⟨i1, j1⟩, ⟨i2, j2⟩, ⟨i3, j3⟩⟩ := npF_of hf0 e1_11
      refine lv_aload_n hx hb d_M_cut_11 rfl (lv_at hl 0 rfl) ?_
      refine lv_iload_n hx hb d_M_cut_12 rfl (lv_at hl 3 rfl) ?_
      refine lv_bipush (v := 8) hx hb d_M_cut_13 (by decide) ?_
      refine lv_icmp_eq (tgt := 36) hx hb d_M_cut_15 (by decide) (fun e2_36 => ?_) (fun e2_36 => ?_)
      · refine K36 g4.2 (hj.trans (by unfold f_M_cut_4g; first | with_reducible exact (if_neg e1_11).trans (if_pos e2_36) | exact (if_neg e1_11).trans (if_pos e2_36))) i1 j1 i2 j2 H locs ?_ ?_ hS ls (lv_sub hl [0, 1, 2, 3] rfl)
        · with_reducible exact hP
        · with_reducible exact hD
      · refine lv_iload_n hx hb d_M_cut_18 rfl (lv_at hl 3 rfl) ?_
        refine lv_bipush (v := 16) hx hb d_M_cut_19 (by decide) ?_
        refine lv_icmp_eq (tgt := 36) hx hb d_M_cut_21 (by decide) (fun e3_36 => ?_) (fun e3_36 => ?_)
        · refine K36 g4.2 (hj.trans (by unfold f_M_cut_4g; first | with_reducible exact (if_neg e1_11).trans ((if_neg e2_36).trans (if_pos e3_36)) | exact (if_neg e1_11).trans ((if_neg e2_36).trans (if_pos e3_36)))) i1 j1 i2 j2 H locs ?_ ?_ hS ls (lv_sub hl [0, 1, 2, 3] rfl)
          · with_reducible exact hP
          · with_reducible exact hD
        · refine lv_iload_n hx hb d_M_cut_24 rfl (lv_at hl 3 rfl) ?_
          refine lv_bipush (v := 32) hx hb d_M_cut_25 (by decide) ?_
          refine lv_icmp_eq (tgt := 36) hx hb d_M_cut_27 (by decide) (fun e4_36 => ?_) (fun e4_36 => ?_)
          · refine K36 g4.2 (hj.trans (by unfold f_M_cut_4g; first | with_reducible exact (if_neg e1_11).trans ((if_neg e2_36).trans ((if_neg e3_36).trans (if_pos e4_36))) | exact (if_neg e1_11).trans ((if_neg e2_36).trans ((if_neg e3_36).trans (if_pos e4_36))))) i1 j1 i2 j2 H locs ?_ ?_ hS ls (lv_sub hl [0, 1, 2, 3] rfl)
            · with_reducible exact hP
            · with_reducible exact hD
          · refine lv_iload_n hx hb d_M_cut_30 rfl (lv_at hl 3 rfl) ?_
            refine lv_bipush (v := 64) hx hb d_M_cut_31 (by decide) ?_
            refine lv_icmp_ne (tgt := 40) hx hb d_M_cut_33 (by decide) (fun e5_40 => ?_) (fun e5_40 => ?_)
            · refine lv_iconst (v := 2) hx hb d_M_cut_40 (by decide) ?_
              refine K41 2 g4.2 (hj.trans (by unfold f_M_cut_4g; first | with_reducible exact (if_neg e1_11).trans ((if_neg e2_36).trans ((if_neg e3_36).trans ((if_neg e4_36).trans (if_neg e5_40)))) | exact (if_neg e1_11).trans ((if_neg e2_36).trans ((if_neg e3_36).trans ((if_neg e4_36).trans (if_neg e5_40)))))) i1 j1 i2 j2 H locs ?_ ?_ hS ls (lv_sub hl [0, 1, 2, 3] rfl)
              · with_reducible exact hP
              · with_reducible exact hD
            · refine K36 g4.2 (hj.trans (by unfold f_M_cut_4g; first | with_reducible exact (if_neg e1_11).trans ((if_neg e2_36).trans ((if_neg e3_36).trans ((if_neg e4_36).trans (if_pos e5_40)))) | exact (if_neg e1_11).trans ((if_neg e2_36).trans ((if_neg e3_36).trans ((if_neg e4_36).trans (if_pos e5_40)))))) i1 j1 i2 j2 H locs ?_ ?_ hS ls (lv_sub hl [0, 1, 2, 3] rfl)
              · with_reducible exact hP
              · with_reducible exact hD
    · have fe : f_M_cut r0 w0 s0 p1 p2 p3 = (g4.2, r0, w0, s0) := hj.trans (by unfold f_M_cut_4g; first | with_reducible exact if_pos e1_11 | exact if_pos e1_11)
      exact W.vret hx hb hr (fun t ht hW => ⟨⟨(), rfl, trivial, by rw [ht, fe]; exact hP, by rw [fe]; exact hD⟩, hS.F ht⟩) hS.2.2 d_M_cut_10
  refine lv_aload_n hx hb d_M_cut_0 rfl (lv_at hl 0 rfl) ?_
  refine lv_iload_n hx hb d_M_cut_1 rfl (lv_at hl 1 rfl) ?_
  refine lv_iload_n hx hb d_M_cut_2 rfl (lv_at hl 2 rfl) ?_
  refine lv_iconst (v := 0) hx hb d_M_cut_3 (by decide) ?_
  refine mm_z (F := f_M_noPlace p1 p2 0) (w1 := fun g4 => (mW ad cJ cZ g4.2 r0 w0 s0)) (va_runV (As := [.int (p1), .int (p2), .int (0)]) (rest := []) ⟨hx, hb, hml, hown, hts⟩ (c_M_noPlace l dC dI ad cJ cZ s.heap.size c0 r0 w0 s0 p1 p2 0) (cwV 3 hts (gxV gx36 gx37 gx276 gx0 gx38) rfl rfl rfl (by decide +kernel) ⟨(Nat.le_of_ble_eq_true rfl), (Nat.le_of_ble_eq_true rfl)⟩) ⟨blp, va_recv hK hP (ci := 2) (q0 := 0) rfl rfl, fun U hU hW => ⟨rfl, by rw [hU], by rw [hU]; exact hP, va_K.moved hW.alike hK, hD.weaken (fun _ _ _ _ => trivial)⟩⟩ rfl rfl hl.1 rfl (lv_room (Nat.le_of_ble_eq_true rfl)) d_M_cut_4 ⟨Nat.zero_le _, Nat.zero_le _⟩) hD hS hA (fun g4 eg4 H locs hP hD hS => ?_)
  have hpg4 := np_ok eg4
  refine K4g g4 (Eq.trans (rfl) (congrArg (fun g4 => f_M_cut_4g r0 w0 s0 p1 p2 p3 g4) eg4)) hpg4 H locs ?_ ?_ hS ls (lv_sub hl [0, 1, 2, 3] rfl)
  · with_reducible exact hP
  · with_reducible exact hD
-- extend
theorem d_M_extend_0 : decode b_M_extend 0 = .ok (.aload_n 0, 1) := by decide +kernel
theorem d_M_extend_1 : decode b_M_extend 1 = .ok (.iload_n 1, 1) := by decide +kernel
theorem d_M_extend_2 : decode b_M_extend 2 = .ok (.iload_n 2, 1) := by decide +kernel
theorem d_M_extend_3 : decode b_M_extend 3 = .ok (.iconst 0, 1) := by decide +kernel
theorem d_M_extend_4 : decode b_M_extend 4 = .ok (.invokevirtual 98, 3) := by decide +kernel
theorem d_M_extend_7 : decode b_M_extend 7 = .ok (.ifCond .eq 4, 3) := by decide +kernel
theorem d_M_extend_10 : decode b_M_extend 10 = .ok (.return_, 1) := by decide +kernel
theorem d_M_extend_11 : decode b_M_extend 11 = .ok (.aload_n 0, 1) := by decide +kernel
theorem d_M_extend_12 : decode b_M_extend 12 = .ok (.iload_n 3, 1) := by decide +kernel
theorem d_M_extend_13 : decode b_M_extend 13 = .ok (.bipush 8, 2) := by decide +kernel
theorem d_M_extend_15 : decode b_M_extend 15 = .ok (.if_icmp .eq 15, 3) := by decide +kernel
theorem d_M_extend_18 : decode b_M_extend 18 = .ok (.iload_n 3, 1) := by decide +kernel
theorem d_M_extend_19 : decode b_M_extend 19 = .ok (.bipush 16, 2) := by decide +kernel
theorem d_M_extend_21 : decode b_M_extend 21 = .ok (.if_icmp .eq 9, 3) := by decide +kernel
theorem d_M_extend_24 : decode b_M_extend 24 = .ok (.iload_n 3, 1) := by decide +kernel
theorem d_M_extend_25 : decode b_M_extend 25 = .ok (.bipush 32, 2) := by decide +kernel
theorem d_M_extend_27 : decode b_M_extend 27 = .ok (.if_icmp .ne 7, 3) := by decide +kernel
theorem d_M_extend_30 : decode b_M_extend 30 = .ok (.iconst 0, 1) := by decide +kernel
theorem d_M_extend_31 : decode b_M_extend 31 = .ok (.goto 4, 3) := by decide +kernel
theorem d_M_extend_34 : decode b_M_extend 34 = .ok (.iconst 2, 1) := by decide +kernel
theorem d_M_extend_35 : decode b_M_extend 35 = .ok (.putfield 35, 3) := by decide +kernel
theorem d_M_extend_38 : decode b_M_extend 38 = .ok (.aload_n 0, 1) := by decide +kernel
theorem d_M_extend_39 : decode b_M_extend 39 = .ok (.getfield 35, 3) := by decide +kernel
theorem d_M_extend_42 : decode b_M_extend 42 = .ok (.ifCond .ne 34, 3) := by decide +kernel
theorem d_M_extend_45 : decode b_M_extend 45 = .ok (.aload_n 0, 1) := by decide +kernel
theorem d_M_extend_46 : decode b_M_extend 46 = .ok (.iload_n 2, 1) := by decide +kernel
theorem d_M_extend_47 : decode b_M_extend 47 = .ok (.bipush 18, 2) := by decide +kernel
theorem d_M_extend_49 : decode b_M_extend 49 = .ok (.iload_n 3, 1) := by decide +kernel
theorem d_M_extend_50 : decode b_M_extend 50 = .ok (.invokevirtual 130, 3) := by decide +kernel
theorem d_M_extend_53 : decode b_M_extend 53 = .ok (.aload_n 0, 1) := by decide +kernel
theorem d_M_extend_54 : decode b_M_extend 54 = .ok (.iload_n 1, 1) := by decide +kernel
theorem d_M_extend_55 : decode b_M_extend 55 = .ok (.bipush 18, 2) := by decide +kernel
theorem d_M_extend_57 : decode b_M_extend 57 = .ok (.aload_n 0, 1) := by decide +kernel
theorem d_M_extend_58 : decode b_M_extend 58 = .ok (.getfield 32, 3) := by decide +kernel
theorem d_M_extend_61 : decode b_M_extend 61 = .ok (.iload_n 2, 1) := by decide +kernel
theorem d_M_extend_62 : decode b_M_extend 62 = .ok (.laload, 1) := by decide +kernel
theorem d_M_extend_63 : decode b_M_extend 63 = .ok (.bipush 64, 2) := by decide +kernel
theorem d_M_extend_65 : decode b_M_extend 65 = .ok (.iload_n 3, 1) := by decide +kernel
theorem d_M_extend_66 : decode b_M_extend 66 = .ok (.isub, 1) := by decide +kernel
theorem d_M_extend_67 : decode b_M_extend 67 = .ok (.lshl, 1) := by decide +kernel
theorem d_M_extend_68 : decode b_M_extend 68 = .ok (.bipush 64, 2) := by decide +kernel
theorem d_M_extend_70 : decode b_M_extend 70 = .ok (.iload_n 3, 1) := by decide +kernel
theorem d_M_extend_71 : decode b_M_extend 71 = .ok (.isub, 1) := by decide +kernel
theorem d_M_extend_72 : decode b_M_extend 72 = .ok (.lshr, 1) := by decide +kernel
theorem d_M_extend_73 : decode b_M_extend 73 = .ok (.invokevirtual 105, 3) := by decide +kernel
theorem d_M_extend_76 : decode b_M_extend 76 = .ok (.return_, 1) := by decide +kernel
def f_M_extend_73g (r0 : (Nat → VV)) (w0 : (Nat → Int64)) (s0 : Int32) (p1 : Int32) (p2 : Int32) (p3 : Int32) (s35_0 : Int32) (g73 : (Nat → VV) × (Nat → Int64) × Int32) : Int32 × (Nat → VV) × (Nat → Int64) × Int32 := (s35_0, g73.1, g73.2.1, g73.2.2)
def f_M_extend_50g (r0 : (Nat → VV)) (w0 : (Nat → Int64)) (s0 : Int32) (p1 : Int32) (p2 : Int32) (p3 : Int32) (s35_0 : Int32) (g50 : (Nat → VV)) : Int32 × (Nat → VV) × (Nat → Int64) × Int32 := f_M_extend_73g r0 w0 s0 p1 p2 p3 s35_0 (f_M_put g50 w0 s0 p1.toNatClampNeg 18 (((w0 p2.toNatClampNeg) <<< (((64 : Int32) - p3).toInt64 &&& 63)) >>> (((64 : Int32) - p3).toInt64 &&& 63)))
def f_M_extend_35 (r0 : (Nat → VV)) (w0 : (Nat → Int64)) (s0 : Int32) (p1 : Int32) (p2 : Int32) (p3 : Int32) (s35_0 : Int32) (c35 : Int32) : Int32 × (Nat → VV) × (Nat → Int64) × Int32 := (if s35_0 = 0 then f_M_extend_50g r0 w0 s0 p1 p2 p3 s35_0 (f_M_extendRow r0 p2.toNatClampNeg 18 p3) else (s35_0, r0, w0, s0))
def f_M_extend_30 (r0 : (Nat → VV)) (w0 : (Nat → Int64)) (s0 : Int32) (p1 : Int32) (p2 : Int32) (p3 : Int32) (c30 : Int32) : Int32 × (Nat → VV) × (Nat → Int64) × Int32 := f_M_extend_35 r0 w0 s0 p1 p2 p3 0 c30
def f_M_extend_4g (r0 : (Nat → VV)) (w0 : (Nat → Int64)) (s0 : Int32) (p1 : Int32) (p2 : Int32) (p3 : Int32) (g4 : Bool × Int32) : Int32 × (Nat → VV) × (Nat → Int64) × Int32 := (if g4.1 = true then (g4.2, r0, w0, s0) else (if p3 = 8 then f_M_extend_30 r0 w0 s0 p1 p2 p3 g4.2 else (if p3 = 16 then f_M_extend_30 r0 w0 s0 p1 p2 p3 g4.2 else (if p3 = 32 then f_M_extend_30 r0 w0 s0 p1 p2 p3 g4.2 else f_M_extend_35 r0 w0 s0 p1 p2 p3 2 g4.2))))
def f_M_extend (r0 : (Nat → VV)) (w0 : (Nat → Int64)) (s0 : Int32) (p1 : Int32) (p2 : Int32) (p3 : Int32) : Int32 × (Nat → VV) × (Nat → Int64) × Int32 := f_M_extend_4g r0 w0 s0 p1 p2 p3 (f_M_noPlace p1 p2 0)
set_option maxRecDepth 100000 in
set_option maxHeartbeats 4000000 in
theorem c_M_extend (l : Launch) (dC : Nat → ClassId) (dI : Nat → Nat → Nat) (ad : Nat → Nat) (cJ cZ : ClassId) (sz : Nat) (c0 : Int32) (r0 : (Nat → VV)) (w0 : (Nat → Int64)) (s0 : Int32) (p1 : Int32) (p2 : Int32) (p3 : Int32) : Met l y_M_extend w_M_extend ({ frames := 8, cells := 0, slots := 0, locals := 241 } : Room) (va_Pc [.ref (ad 0), .int (p1), .int (p2), .int (p3)] (nP (dC, dI) (mT cJ cZ) (mW ad cJ cZ c0 r0 w0 s0) sz)) (va_Qv (fun _ : Unit => True) (mB (dC, dI) (va_A (mW ad cJ cZ c0 r0 w0 s0) sz) (mW ad cJ cZ (f_M_extend r0 w0 s0 p1 p2 p3).1 (f_M_extend r0 w0 s0 p1 p2 p3).2.1 (f_M_extend r0 w0 s0 p1 p2 p3).2.2.1 (f_M_extend r0 w0 s0 p1 p2 p3).2.2.2)) (va_A (mW ad cJ cZ c0 r0 w0 s0) sz)) 0 0 (va_A (mW ad cJ cZ c0 r0 w0 s0) sz) := by
  refine Met.ofW (cc := b_M_extend) (maxL := 4) (ret := none) (by decide) rfl ?_
  intro p e s m args below meth c s₁ B hml hv
  obtain ⟨rfl, hsz, hP, hK, hD0⟩ := hv
  have hx := B.exec
  have hb := B.bytes
  have hr := B.returns
  have hts := atoms_spec (ws := w_M_extend) B.pre
  have hG : ∀ w ∈ gM, w.before _ s = true := fun w h => hts w (List.mem_cons_of_mem _ h)
  have hown : s.vm.findClass R_M = some m.cls := findClass_of_methodNamed B.named
  have hlocks := B.notSynchronized
  subst hsz
  have hD := hD0.self (sz := s.heap.size)
  generalize hAe : va_A (mW ad cJ cZ c0 r0 w0 s0) s.heap.size = A at hD ⊢
  have hA : ∀ q : Nat, s.heap.size ≤ q → A q := fun q h => by rw [← hAe]; exact Or.inr h
  have hS : va_S A s.heap s.heap [] := va_S.rf
  have hl := lv_entry ([.ref (ad 0), .int (p1), .int (p2), .int (p3)]) (n := 4) (Nat.le_of_ble_eq_true rfl)
  rw [lg_entry_eq]
  generalize (lg_sl ([.ref (ad 0), .int (p1), .int (p2), .int (p3)]) ++ List.replicate (4 - (lg_sl ([.ref (ad 0), .int (p1), .int (p2), .int (p3)])).length) Slot.unset).toArray = ls at hl ⊢
  have hl : lv_has ls 4 [(0, .ref (ad 0)), (1, .int (p1)), (2, .int (p2)), (3, .int (p3))] := hl
  have K73g : ∀ (s35_0 : Int32) (g73 : (Nat → VV) × (Nat → Int64) × Int32) (hj : f_M_extend r0 w0 s0 p1 p2 p3 = f_M_extend_73g r0 w0 s0 p1 p2 p3 s35_0 g73) (hf0 : p1 = nI p1.toNatClampNeg) (hf1 : p1.toNatClampNeg < 16) (hf2 : p2 = nI p2.toNatClampNeg) (hf3 : p2.toNatClampNeg < 16) (H : Heap) (locs : List Loc) (hP : va_P (dC, dI) classes (mW ad cJ cZ s35_0 g73.1 g73.2.1 g73.2.2) H) (hD : va_D A (mW ad cJ cZ s35_0 g73.1 g73.2.1 g73.2.2)) (hS : va_S A s.heap H locs) (ls : Array Slot) (hl : lv_has ls 4 []), W p l e (headSpec w_M_extend ({ frames := 8, cells := 0, slots := 0, locals := 241 } : Room)).room s m ([.ref (ad 0), .int (p1), .int (p2), .int (p3)] : List Value).toArray below meth c H locs 0 0 (MQ below (va_Qv (fun _ : Unit => True) (mB (dC, dI) A (mW ad cJ cZ (f_M_extend r0 w0 s0 p1 p2 p3).1 (f_M_extend r0 w0 s0 p1 p2 p3).2.1 (f_M_extend r0 w0 s0 p1 p2 p3).2.2.1 (f_M_extend r0 w0 s0 p1 p2 p3).2.2.2)) A) ([.ref (ad 0), .int (p1), .int (p2), .int (p3)] : List Value).toArray s 0 0 A) (F0 m 76 ls []) := by
    intro s35_0 g73 hj hf0 hf1 hf2 hf3 H locs hP hD hS ls hl
    have fe : f_M_extend r0 w0 s0 p1 p2 p3 = (s35_0, g73.1, g73.2.1, g73.2.2) := hj.trans rfl
    exact W.vret hx hb hr (fun t ht hW => ⟨⟨(), rfl, trivial, by rw [ht, fe]; exact hP, by rw [fe]; exact hD⟩, hS.F ht⟩) hS.2.2 d_M_extend_76
  have K50g : ∀ (s35_0 : Int32) (g50 : (Nat → VV)) (hj : f_M_extend r0 w0 s0 p1 p2 p3 = f_M_extend_50g r0 w0 s0 p1 p2 p3 s35_0 g50) (hf0 : p1 = nI p1.toNatClampNeg) (hf1 : p1.toNatClampNeg < 16) (hf2 : p2 = nI p2.toNatClampNeg) (hf3 : p2.toNatClampNeg < 16) (H : Heap) (locs : List Loc) (hP : va_P (dC, dI) classes (mW ad cJ cZ s35_0 g50 w0 s0) H) (hD : va_D A (mW ad cJ cZ s35_0 g50 w0 s0)) (hS : va_S A s.heap H locs) (ls : Array Slot) (hl : lv_has ls 4 [(0, .ref (ad 0)), (1, .int (p1)), (2, .int (p2)), (3, .int (p3))]), W p l e (headSpec w_M_extend ({ frames := 8, cells := 0, slots := 0, locals := 241 } : Room)).room s m ([.ref (ad 0), .int (p1), .int (p2), .int (p3)] : List Value).toArray below meth c H locs 0 0 (MQ below (va_Qv (fun _ : Unit => True) (mB (dC, dI) A (mW ad cJ cZ (f_M_extend r0 w0 s0 p1 p2 p3).1 (f_M_extend r0 w0 s0 p1 p2 p3).2.1 (f_M_extend r0 w0 s0 p1 p2 p3).2.2.1 (f_M_extend r0 w0 s0 p1 p2 p3).2.2.2)) A) ([.ref (ad 0), .int (p1), .int (p2), .int (p3)] : List Value).toArray s 0 0 A) (F0 m 53 ls []) := by
    intro s35_0 g50 hj hf0 hf1 hf2 hf3 H locs hP hD hS ls hl
    refine lv_aload_n hx hb d_M_extend_53 rfl (lv_at hl 0 rfl) ?_
    refine lv_iload_n hx hb d_M_extend_54 rfl (lv_at hl 1 rfl) ?_
    refine top_i hf0 ?_
    refine lv_bipush (v := 18) hx hb d_M_extend_55 (by decide) ?_
    refine lv_aload_n hx hb d_M_extend_57 rfl (lv_at hl 0 rfl) ?_
    refine va_get (D := (dC, dI)) (ci := 2) (v := .ref (ad 8)) (C := R_M) (T := F_M) (N := 10) hx hb hts (fun w h => List.mem_cons_of_mem _ (uw_M w h)) hown hK hP 0 rfl rfl 8 (by decide) (hG (.fieldLink R_M 32 "ValueSieveModel" "witness" "[J") gx17) (fun _ h9 => h9) rfl d_M_extend_58 ?_
    refine lv_iload_n hx hb d_M_extend_61 rfl (lv_at hl 2 rfl) ?_
    refine top_i hf2 ?_
    refine ml_8 (P := p2.toNatClampNeg) hx hb hK hP rfl hf3 d_M_extend_62 ?_
    refine lv_bipush (v := 64) hx hb d_M_extend_63 (by decide) ?_
    refine lv_iload_n hx hb d_M_extend_65 rfl (lv_at hl 3 rfl) ?_
    refine lv_isub hx hb d_M_extend_66 ?_
    refine lv_lshl (v := (w0 p2.toNatClampNeg) <<< (((64 : Int32) - p3).toInt64 &&& 63)) hx hb d_M_extend_67 rfl ?_
    refine lv_bipush (v := 64) hx hb d_M_extend_68 (by decide) ?_
    refine lv_iload_n hx hb d_M_extend_70 rfl (lv_at hl 3 rfl) ?_
    refine lv_isub hx hb d_M_extend_71 ?_
    refine lv_lshr (v := ((w0 p2.toNatClampNeg) <<< (((64 : Int32) - p3).toInt64 &&& 63)) >>> (((64 : Int32) - p3).toInt64 &&& 63)) hx hb d_M_extend_72 rfl ?_
    refine mm_v (F := f_M_put g50 w0 s0 p1.toNatClampNeg 18 (((w0 p2.toNatClampNeg) <<< (((64 : Int32) - p3).toInt64 &&& 63)) >>> (((64 : Int32) - p3).toInt64 &&& 63))) (w1 := fun g73 => (mW ad cJ cZ s35_0 g73.1 g73.2.1 g73.2.2)) (va_runV (As := [.int (nI p1.toNatClampNeg), .int (18), .long (((w0 p2.toNatClampNeg) <<< (((64 : Int32) - p3).toInt64 &&& 63)) >>> (((64 : Int32) - p3).toInt64 &&& 63))]) (rest := []) ⟨hx, hb, hml, hown, hts⟩ (c_M_put l dC dI ad cJ cZ H.size s35_0 g50 w0 s0 p1.toNatClampNeg 18 (((w0 p2.toNatClampNeg) <<< (((64 : Int32) - p3).toInt64 &&& 63)) >>> (((64 : Int32) - p3).toInt64 &&& 63)) hf1 (by decide)) (cwV 3 hts (gxV gx45 gx46 gx278 gx0 gx47) rfl rfl rfl (by decide +kernel) ⟨(Nat.le_of_ble_eq_true rfl), (Nat.le_of_ble_eq_true rfl)⟩) ⟨blp, va_recv hK hP (ci := 2) (q0 := 0) rfl rfl, fun U hU hW => ⟨rfl, by rw [hU], by rw [hU]; exact hP, va_K.moved hW.alike hK, hD.weaken (fun _ _ _ _ => trivial)⟩⟩ rfl rfl hl.1 rfl (lv_room (Nat.le_of_ble_eq_true rfl)) d_M_extend_73 ⟨Nat.zero_le _, Nat.zero_le _⟩) hD hS hA (fun g73 eg73 H locs hP hD hS => ?_)
    refine K73g s35_0 g73 (Eq.trans (hj.trans rfl) (congrArg (fun g73 => f_M_extend_73g r0 w0 s0 p1 p2 p3 s35_0 g73) eg73)) hf0 hf1 hf2 hf3 H locs ?_ ?_ hS ls (lv_sub hl [] rfl)
    · with_reducible exact hP
    · with_reducible exact hD
  have K35 : ∀ (s35_0 : Int32) (c35 : Int32) (hj : f_M_extend r0 w0 s0 p1 p2 p3 = f_M_extend_35 r0 w0 s0 p1 p2 p3 s35_0 c35) (hf0 : p1 = nI p1.toNatClampNeg) (hf1 : p1.toNatClampNeg < 16) (hf2 : p2 = nI p2.toNatClampNeg) (hf3 : p2.toNatClampNeg < 16) (H : Heap) (locs : List Loc) (hP : va_P (dC, dI) classes (mW ad cJ cZ c35 r0 w0 s0) H) (hD : va_D A (mW ad cJ cZ c35 r0 w0 s0)) (hS : va_S A s.heap H locs) (ls : Array Slot) (hl : lv_has ls 4 [(0, .ref (ad 0)), (1, .int (p1)), (2, .int (p2)), (3, .int (p3))]), W p l e (headSpec w_M_extend ({ frames := 8, cells := 0, slots := 0, locals := 241 } : Room)).room s m ([.ref (ad 0), .int (p1), .int (p2), .int (p3)] : List Value).toArray below meth c H locs 0 0 (MQ below (va_Qv (fun _ : Unit => True) (mB (dC, dI) A (mW ad cJ cZ (f_M_extend r0 w0 s0 p1 p2 p3).1 (f_M_extend r0 w0 s0 p1 p2 p3).2.1 (f_M_extend r0 w0 s0 p1 p2 p3).2.2.1 (f_M_extend r0 w0 s0 p1 p2 p3).2.2.2)) A) ([.ref (ad 0), .int (p1), .int (p2), .int (p3)] : List Value).toArray s 0 0 A) (F0 m 35 ls [.int (s35_0), .ref (ad 0)]) := by
    intro s35_0 c35 hj hf0 hf1 hf2 hf3 H locs hP hD hS ls hl
    refine mp_c hx hb hts (fun w h => List.mem_cons_of_mem _ (uw_M w h)) hown hK hP hD hS (hG (.fieldLink R_M 35 "ValueSieveModel" "code" "I") gx9) d_M_extend_35 (fun H locs hP hD hS => ?_)
    refine lv_aload_n hx hb d_M_extend_38 rfl (lv_at hl 0 rfl) ?_
    refine va_get (D := (dC, dI)) (ci := 2) (v := .int (s35_0)) (C := R_M) (T := F_M) (N := 10) hx hb hts (fun w h => List.mem_cons_of_mem _ (uw_M w h)) hown hK hP 0 rfl rfl 0 (by decide) (hG (.fieldLink R_M 35 "ValueSieveModel" "code" "I") gx9) (fun _ h9 => h9) rfl d_M_extend_39 ?_
    refine lv_if_ne (tgt := 76) hx hb d_M_extend_42 (by decide) (fun e1_76 => ?_) (fun e1_76 => ?_)
    · have fe : f_M_extend r0 w0 s0 p1 p2 p3 = (s35_0, r0, w0, s0) := hj.trans (by unfold f_M_extend_35; first | with_reducible exact if_neg e1_76 | exact if_neg e1_76)
      exact W.vret hx hb hr (fun t ht hW => ⟨⟨(), rfl, trivial, by rw [ht, fe]; exact hP, by rw [fe]; exact hD⟩, hS.F ht⟩) hS.2.2 d_M_extend_76
    · refine lv_aload_n hx hb d_M_extend_45 rfl (lv_at hl 0 rfl) ?_
      refine lv_iload_n hx hb d_M_extend_46 rfl (lv_at hl 2 rfl) ?_
      refine top_i hf2 ?_
      refine lv_bipush (v := 18) hx hb d_M_extend_47 (by decide) ?_
      refine lv_iload_n hx hb d_M_extend_49 rfl (lv_at hl 3 rfl) ?_
      refine mm_v (F := f_M_extendRow r0 p2.toNatClampNeg 18 p3) (w1 := fun g50 => (mW ad cJ cZ s35_0 g50 w0 s0)) (va_runV (As := [.int (nI p2.toNatClampNeg), .int (18), .int (p3)]) (rest := []) ⟨hx, hb, hml, hown, hts⟩ (c_M_extendRow l dC dI ad cJ cZ H.size s35_0 r0 w0 s0 p2.toNatClampNeg 18 p3 (Nat.lt_of_lt_of_le hf3 (by decide)) (by decide)) (cwV 3 hts (gxV gx108 gx109 gx280 gx0 gx110) rfl rfl rfl (by decide +kernel) ⟨(Nat.le_of_ble_eq_true rfl), (Nat.le_of_ble_eq_true rfl)⟩) ⟨blp, va_recv hK hP (ci := 2) (q0 := 0) rfl rfl, fun U hU hW => ⟨rfl, by rw [hU], by rw [hU]; exact hP, va_K.moved hW.alike hK, hD.weaken (fun _ _ _ _ => trivial)⟩⟩ rfl rfl hl.1 rfl (lv_room (Nat.le_of_ble_eq_true rfl)) d_M_extend_50 ⟨Nat.zero_le _, Nat.zero_le _⟩) hD hS hA (fun g50 eg50 H locs hP hD hS => ?_)
      refine K50g s35_0 g50 (Eq.trans (hj.trans (by unfold f_M_extend_35; first | with_reducible exact if_pos e1_76 | exact if_pos e1_76)) (congrArg (fun g50 => f_M_extend_50g r0 w0 s0 p1 p2 p3 s35_0 g50) eg50)) hf0 hf1 hf2 hf3 H locs ?_ ?_ hS ls (lv_sub hl [0, 1, 2, 3] rfl)
      · with_reducible exact hP
      · with_reducible exact hD
  have K30 : ∀ (c30 : Int32) (hj : f_M_extend r0 w0 s0 p1 p2 p3 = f_M_extend_30 r0 w0 s0 p1 p2 p3 c30) (hf0 : p1 = nI p1.toNatClampNeg) (hf1 : p1.toNatClampNeg < 16) (hf2 : p2 = nI p2.toNatClampNeg) (hf3 : p2.toNatClampNeg < 16) (H : Heap) (locs : List Loc) (hP : va_P (dC, dI) classes (mW ad cJ cZ c30 r0 w0 s0) H) (hD : va_D A (mW ad cJ cZ c30 r0 w0 s0)) (hS : va_S A s.heap H locs) (ls : Array Slot) (hl : lv_has ls 4 [(0, .ref (ad 0)), (1, .int (p1)), (2, .int (p2)), (3, .int (p3))]), W p l e (headSpec w_M_extend ({ frames := 8, cells := 0, slots := 0, locals := 241 } : Room)).room s m ([.ref (ad 0), .int (p1), .int (p2), .int (p3)] : List Value).toArray below meth c H locs 0 0 (MQ below (va_Qv (fun _ : Unit => True) (mB (dC, dI) A (mW ad cJ cZ (f_M_extend r0 w0 s0 p1 p2 p3).1 (f_M_extend r0 w0 s0 p1 p2 p3).2.1 (f_M_extend r0 w0 s0 p1 p2 p3).2.2.1 (f_M_extend r0 w0 s0 p1 p2 p3).2.2.2)) A) ([.ref (ad 0), .int (p1), .int (p2), .int (p3)] : List Value).toArray s 0 0 A) (F0 m 30 ls [.ref (ad 0)]) := by
    intro c30 hj hf0 hf1 hf2 hf3 H locs hP hD hS ls hl
    refine lv_iconst (v := 0) hx hb d_M_extend_30 (by decide) ?_
    refine lv_goto (tgt := 35) hx hb d_M_extend_31 (by decide) ?_
    refine K35 0 c30 (hj.trans rfl) hf0 hf1 hf2 hf3 H locs ?_ ?_ hS ls (lv_sub hl [0, 1, 2, 3] rfl)
    · with_reducible exact hP
    · with_reducible exact hD
  have K4g : ∀ (g4 : Bool × Int32) (hj : f_M_extend r0 w0 s0 p1 p2 p3 = f_M_extend_4g r0 w0 s0 p1 p2 p3 g4) (hf0 : npF g4.1 p1 p2 0) (H : Heap) (locs : List Loc) (hP : va_P (dC, dI) classes (mW ad cJ cZ g4.2 r0 w0 s0) H) (hD : va_D A (mW ad cJ cZ g4.2 r0 w0 s0)) (hS : va_S A s.heap H locs) (ls : Array Slot) (hl : lv_has ls 4 [(0, .ref (ad 0)), (1, .int (p1)), (2, .int (p2)), (3, .int (p3))]), W p l e (headSpec w_M_extend ({ frames := 8, cells := 0, slots := 0, locals := 241 } : Room)).room s m ([.ref (ad 0), .int (p1), .int (p2), .int (p3)] : List Value).toArray below meth c H locs 0 0 (MQ below (va_Qv (fun _ : Unit => True) (mB (dC, dI) A (mW ad cJ cZ (f_M_extend r0 w0 s0 p1 p2 p3).1 (f_M_extend r0 w0 s0 p1 p2 p3).2.1 (f_M_extend r0 w0 s0 p1 p2 p3).2.2.1 (f_M_extend r0 w0 s0 p1 p2 p3).2.2.2)) A) ([.ref (ad 0), .int (p1), .int (p2), .int (p3)] : List Value).toArray s 0 0 A) (F0 m 7 ls [.int (bI g4.1)]) := by
    intro g4 hj hf0 H locs hP hD hS ls hl
    refine wz_eq (tgt := 11) hx hb d_M_extend_7 (by decide) (fun e1_11 => ?_) (fun e1_11 => ?_)
    · obtain ⟨⟨i1, j1⟩, ⟨i2, j2⟩, ⟨i3, j3⟩⟩ := npF_of hf0 e1_11
      refine lv_aload_n hx hb d_M_extend_11 rfl (lv_at hl 0 rfl) ?_
      refine lv_iload_n hx hb d_M_extend_12 rfl (lv_at hl 3 rfl) ?_
      refine lv_bipush (v := 8) hx hb d_M_extend_13 (by decide) ?_
      refine lv_icmp_eq (tgt := 30) hx hb d_M_extend_15 (by decide) (fun e2_30 => ?_) (fun e2_30 => ?_)
      · refine K30 g4.2 (hj.trans (by unfold f_M_extend_4g; first | with_reducible exact (if_neg e1_11).trans (if_pos e2_30) | exact (if_neg e1_11).trans (if_pos e2_30))) i1 j1 i2 j2 H locs ?_ ?_ hS ls (lv_sub hl [0, 1, 2, 3] rfl)
        · with_reducible exact hP
        · with_reducible exact hD
      · refine lv_iload_n hx hb d_M_extend_18 rfl (lv_at hl 3 rfl) ?_
        refine lv_bipush (v := 16) hx hb d_M_extend_19 (by decide) ?_
        refine lv_icmp_eq (tgt := 30) hx hb d_M_extend_21 (by decide) (fun e3_30 => ?_) (fun e3_30 => ?_)
        · refine K30 g4.2 (hj.trans (by unfold f_M_extend_4g; first | with_reducible exact (if_neg e1_11).trans ((if_neg e2_30).trans (if_pos e3_30)) | exact (if_neg e1_11).trans ((if_neg e2_30).trans (if_pos e3_30)))) i1 j1 i2 j2 H locs ?_ ?_ hS ls (lv_sub hl [0, 1, 2, 3] rfl)
          · with_reducible exact hP
          · with_reducible exact hD
        · refine lv_iload_n hx hb d_M_extend_24 rfl (lv_at hl 3 rfl) ?_
          refine lv_bipush (v := 32) hx hb d_M_extend_25 (by decide) ?_
          refine lv_icmp_ne (tgt := 34) hx hb d_M_extend_27 (by decide) (fun e4_34 => ?_) (fun e4_34 => ?_)
          · refine lv_iconst (v := 2) hx hb d_M_extend_34 (by decide) ?_
            refine K35 2 g4.2 (hj.trans (by unfold f_M_extend_4g; first | with_reducible exact (if_neg e1_11).trans ((if_neg e2_30).trans ((if_neg e3_30).trans (if_neg e4_34))) | exact (if_neg e1_11).trans ((if_neg e2_30).trans ((if_neg e3_30).trans (if_neg e4_34))))) i1 j1 i2 j2 H locs ?_ ?_ hS ls (lv_sub hl [0, 1, 2, 3] rfl)
            · with_reducible exact hP
            · with_reducible exact hD
          · refine K30 g4.2 (hj.trans (by unfold f_M_extend_4g; first | with_reducible exact (if_neg e1_11).trans ((if_neg e2_30).trans ((if_neg e3_30).trans (if_pos e4_34))) | exact (if_neg e1_11).trans ((if_neg e2_30).trans ((if_neg e3_30).trans (if_pos e4_34))))) i1 j1 i2 j2 H locs ?_ ?_ hS ls (lv_sub hl [0, 1, 2, 3] rfl)
            · with_reducible exact hP
            · with_reducible exact hD
    · have fe : f_M_extend r0 w0 s0 p1 p2 p3 = (g4.2, r0, w0, s0) := hj.trans (by unfold f_M_extend_4g; first | with_reducible exact if_pos e1_11 | exact if_pos e1_11)
      exact W.vret hx hb hr (fun t ht hW => ⟨⟨(), rfl, trivial, by rw [ht, fe]; exact hP, by rw [fe]; exact hD⟩, hS.F ht⟩) hS.2.2 d_M_extend_10
  refine lv_aload_n hx hb d_M_extend_0 rfl (lv_at hl 0 rfl) ?_
  refine lv_iload_n hx hb d_M_extend_1 rfl (lv_at hl 1 rfl) ?_
  refine lv_iload_n hx hb d_M_extend_2 rfl (lv_at hl 2 rfl) ?_
  refine lv_iconst (v := 0) hx hb d_M_extend_3 (by decide) ?_
  refine mm_z (F := f_M_noPlace p1 p2 0) (w1 := fun g4 => (mW ad cJ cZ g4.2 r0 w0 s0)) (va_runV (As := [.int (p1), .int (p2), .int (0)]) (rest := []) ⟨hx, hb, hml, hown, hts⟩ (c_M_noPlace l dC dI ad cJ cZ s.heap.size c0 r0 w0 s0 p1 p2 0) (cwV 3 hts (gxV gx36 gx37 gx276 gx0 gx38) rfl rfl rfl (by decide +kernel) ⟨(Nat.le_of_ble_eq_true rfl), (Nat.le_of_ble_eq_true rfl)⟩) ⟨blp, va_recv hK hP (ci := 2) (q0 := 0) rfl rfl, fun U hU hW => ⟨rfl, by rw [hU], by rw [hU]; exact hP, va_K.moved hW.alike hK, hD.weaken (fun _ _ _ _ => trivial)⟩⟩ rfl rfl hl.1 rfl (lv_room (Nat.le_of_ble_eq_true rfl)) d_M_extend_4 ⟨Nat.zero_le _, Nat.zero_le _⟩) hD hS hA (fun g4 eg4 H locs hP hD hS => ?_)
  have hpg4 := np_ok eg4
  refine K4g g4 (Eq.trans (rfl) (congrArg (fun g4 => f_M_extend_4g r0 w0 s0 p1 p2 p3 g4) eg4)) hpg4 H locs ?_ ?_ hS ls (lv_sub hl [0, 1, 2, 3] rfl)
  · with_reducible exact hP
  · with_reducible exact hD
-- swap
theorem d_M_swap_0 : decode b_M_swap 0 = .ok (.aload_n 0, 1) := by decide +kernel
theorem d_M_swap_1 : decode b_M_swap 1 = .ok (.iload_n 1, 1) := by decide +kernel
theorem d_M_swap_2 : decode b_M_swap 2 = .ok (.iload_n 2, 1) := by decide +kernel
theorem d_M_swap_3 : decode b_M_swap 3 = .ok (.iconst 0, 1) := by decide +kernel
theorem d_M_swap_4 : decode b_M_swap 4 = .ok (.invokevirtual 98, 3) := by decide +kernel
theorem d_M_swap_7 : decode b_M_swap 7 = .ok (.ifCond .eq 4, 3) := by decide +kernel
theorem d_M_swap_10 : decode b_M_swap 10 = .ok (.return_, 1) := by decide +kernel
theorem d_M_swap_11 : decode b_M_swap 11 = .ok (.aload_n 0, 1) := by decide +kernel
theorem d_M_swap_12 : decode b_M_swap 12 = .ok (.iload_n 3, 1) := by decide +kernel
theorem d_M_swap_13 : decode b_M_swap 13 = .ok (.bipush 16, 2) := by decide +kernel
theorem d_M_swap_15 : decode b_M_swap 15 = .ok (.if_icmp .eq 15, 3) := by decide +kernel
theorem d_M_swap_18 : decode b_M_swap 18 = .ok (.iload_n 3, 1) := by decide +kernel
theorem d_M_swap_19 : decode b_M_swap 19 = .ok (.bipush 32, 2) := by decide +kernel
theorem d_M_swap_21 : decode b_M_swap 21 = .ok (.if_icmp .eq 9, 3) := by decide +kernel
theorem d_M_swap_24 : decode b_M_swap 24 = .ok (.iload_n 3, 1) := by decide +kernel
theorem d_M_swap_25 : decode b_M_swap 25 = .ok (.bipush 64, 2) := by decide +kernel
theorem d_M_swap_27 : decode b_M_swap 27 = .ok (.if_icmp .ne 7, 3) := by decide +kernel
theorem d_M_swap_30 : decode b_M_swap 30 = .ok (.iconst 0, 1) := by decide +kernel
theorem d_M_swap_31 : decode b_M_swap 31 = .ok (.goto 4, 3) := by decide +kernel
theorem d_M_swap_34 : decode b_M_swap 34 = .ok (.iconst 2, 1) := by decide +kernel
theorem d_M_swap_35 : decode b_M_swap 35 = .ok (.putfield 35, 3) := by decide +kernel
theorem d_M_swap_38 : decode b_M_swap 38 = .ok (.aload_n 0, 1) := by decide +kernel
theorem d_M_swap_39 : decode b_M_swap 39 = .ok (.getfield 35, 3) := by decide +kernel
theorem d_M_swap_42 : decode b_M_swap 42 = .ok (.ifCond .ne 28, 3) := by decide +kernel
theorem d_M_swap_45 : decode b_M_swap 45 = .ok (.aload_n 0, 1) := by decide +kernel
theorem d_M_swap_46 : decode b_M_swap 46 = .ok (.iload_n 2, 1) := by decide +kernel
theorem d_M_swap_47 : decode b_M_swap 47 = .ok (.bipush 18, 2) := by decide +kernel
theorem d_M_swap_49 : decode b_M_swap 49 = .ok (.iload_n 3, 1) := by decide +kernel
theorem d_M_swap_50 : decode b_M_swap 50 = .ok (.invokevirtual 133, 3) := by decide +kernel
theorem d_M_swap_53 : decode b_M_swap 53 = .ok (.aload_n 0, 1) := by decide +kernel
theorem d_M_swap_54 : decode b_M_swap 54 = .ok (.iload_n 1, 1) := by decide +kernel
theorem d_M_swap_55 : decode b_M_swap 55 = .ok (.bipush 18, 2) := by decide +kernel
theorem d_M_swap_57 : decode b_M_swap 57 = .ok (.aload_n 0, 1) := by decide +kernel
theorem d_M_swap_58 : decode b_M_swap 58 = .ok (.getfield 32, 3) := by decide +kernel
theorem d_M_swap_61 : decode b_M_swap 61 = .ok (.iload_n 2, 1) := by decide +kernel
theorem d_M_swap_62 : decode b_M_swap 62 = .ok (.laload, 1) := by decide +kernel
theorem d_M_swap_63 : decode b_M_swap 63 = .ok (.iload_n 3, 1) := by decide +kernel
theorem d_M_swap_64 : decode b_M_swap 64 = .ok (.invokestatic 126, 3) := by decide +kernel
theorem d_M_swap_67 : decode b_M_swap 67 = .ok (.invokevirtual 105, 3) := by decide +kernel
theorem d_M_swap_70 : decode b_M_swap 70 = .ok (.return_, 1) := by decide +kernel
def f_M_swap_67g (r0 : (Nat → VV)) (w0 : (Nat → Int64)) (s0 : Int32) (p1 : Int32) (p2 : Int32) (p3 : Int32) (s35_0 : Int32) (g67 : (Nat → VV) × (Nat → Int64) × Int32) : Int32 × (Nat → VV) × (Nat → Int64) × Int32 := (s35_0, g67.1, g67.2.1, g67.2.2)
def f_M_swap_50g (r0 : (Nat → VV)) (w0 : (Nat → Int64)) (s0 : Int32) (p1 : Int32) (p2 : Int32) (p3 : Int32) (s35_0 : Int32) (g50 : (Nat → VV)) : Int32 × (Nat → VV) × (Nat → Int64) × Int32 := f_M_swap_67g r0 w0 s0 p1 p2 p3 s35_0 (f_M_put g50 w0 s0 p1.toNatClampNeg 18 (f_M_swapped (w0 p2.toNatClampNeg) p3))
def f_M_swap_35 (r0 : (Nat → VV)) (w0 : (Nat → Int64)) (s0 : Int32) (p1 : Int32) (p2 : Int32) (p3 : Int32) (s35_0 : Int32) (c35 : Int32) : Int32 × (Nat → VV) × (Nat → Int64) × Int32 := (if s35_0 = 0 then f_M_swap_50g r0 w0 s0 p1 p2 p3 s35_0 (f_M_swapRow r0 p2.toNatClampNeg 18 p3) else (s35_0, r0, w0, s0))
def f_M_swap_30 (r0 : (Nat → VV)) (w0 : (Nat → Int64)) (s0 : Int32) (p1 : Int32) (p2 : Int32) (p3 : Int32) (c30 : Int32) : Int32 × (Nat → VV) × (Nat → Int64) × Int32 := f_M_swap_35 r0 w0 s0 p1 p2 p3 0 c30
def f_M_swap_4g (r0 : (Nat → VV)) (w0 : (Nat → Int64)) (s0 : Int32) (p1 : Int32) (p2 : Int32) (p3 : Int32) (g4 : Bool × Int32) : Int32 × (Nat → VV) × (Nat → Int64) × Int32 := (if g4.1 = true then (g4.2, r0, w0, s0) else (if p3 = 16 then f_M_swap_30 r0 w0 s0 p1 p2 p3 g4.2 else (if p3 = 32 then f_M_swap_30 r0 w0 s0 p1 p2 p3 g4.2 else (if p3 = 64 then f_M_swap_30 r0 w0 s0 p1 p2 p3 g4.2 else f_M_swap_35 r0 w0 s0 p1 p2 p3 2 g4.2))))
def f_M_swap (r0 : (Nat → VV)) (w0 : (Nat → Int64)) (s0 : Int32) (p1 : Int32) (p2 : Int32) (p3 : Int32) : Int32 × (Nat → VV) × (Nat → Int64) × Int32 := f_M_swap_4g r0 w0 s0 p1 p2 p3 (f_M_noPlace p1 p2 0)
set_option maxRecDepth 100000 in
set_option maxHeartbeats 4000000 in
theorem c_M_swap (l : Launch) (dC : Nat → ClassId) (dI : Nat → Nat → Nat) (ad : Nat → Nat) (cJ cZ : ClassId) (sz : Nat) (c0 : Int32) (r0 : (Nat → VV)) (w0 : (Nat → Int64)) (s0 : Int32) (p1 : Int32) (p2 : Int32) (p3 : Int32) : Met l y_M_swap w_M_swap ({ frames := 8, cells := 0, slots := 0, locals := 231 } : Room) (va_Pc [.ref (ad 0), .int (p1), .int (p2), .int (p3)] (nP (dC, dI) (mT cJ cZ) (mW ad cJ cZ c0 r0 w0 s0) sz)) (va_Qv (fun _ : Unit => True) (mB (dC, dI) (va_A (mW ad cJ cZ c0 r0 w0 s0) sz) (mW ad cJ cZ (f_M_swap r0 w0 s0 p1 p2 p3).1 (f_M_swap r0 w0 s0 p1 p2 p3).2.1 (f_M_swap r0 w0 s0 p1 p2 p3).2.2.1 (f_M_swap r0 w0 s0 p1 p2 p3).2.2.2)) (va_A (mW ad cJ cZ c0 r0 w0 s0) sz)) 0 0 (va_A (mW ad cJ cZ c0 r0 w0 s0) sz) := by
  refine Met.ofW (cc := b_M_swap) (maxL := 4) (ret := none) (by decide) rfl ?_
  intro p e s m args below meth c s₁ B hml hv
  obtain ⟨rfl, hsz, hP, hK, hD0⟩ := hv
  have hx := B.exec
  have hb := B.bytes
  have hr := B.returns
  have hts := atoms_spec (ws := w_M_swap) B.pre
  have hG : ∀ w ∈ gM, w.before _ s = true := fun w h => hts w (List.mem_cons_of_mem _ h)
  have hown : s.vm.findClass R_M = some m.cls := findClass_of_methodNamed B.named
  have hlocks := B.notSynchronized
  subst hsz
  have hD := hD0.self (sz := s.heap.size)
  generalize hAe : va_A (mW ad cJ cZ c0 r0 w0 s0) s.heap.size = A at hD ⊢
  have hA : ∀ q : Nat, s.heap.size ≤ q → A q := fun q h => by rw [← hAe]; exact Or.inr h
  have hS : va_S A s.heap s.heap [] := va_S.rf
  have hl := lv_entry ([.ref (ad 0), .int (p1), .int (p2), .int (p3)]) (n := 4) (Nat.le_of_ble_eq_true rfl)
  rw [lg_entry_eq]
  generalize (lg_sl ([.ref (ad 0), .int (p1), .int (p2), .int (p3)]) ++ List.replicate (4 - (lg_sl ([.ref (ad 0), .int (p1), .int (p2), .int (p3)])).length) Slot.unset).toArray = ls at hl ⊢
  have hl : lv_has ls 4 [(0, .ref (ad 0)), (1, .int (p1)), (2, .int (p2)), (3, .int (p3))] := hl
  have K67g : ∀ (s35_0 : Int32) (g67 : (Nat → VV) × (Nat → Int64) × Int32) (hj : f_M_swap r0 w0 s0 p1 p2 p3 = f_M_swap_67g r0 w0 s0 p1 p2 p3 s35_0 g67) (hf0 : p1 = nI p1.toNatClampNeg) (hf1 : p1.toNatClampNeg < 16) (hf2 : p2 = nI p2.toNatClampNeg) (hf3 : p2.toNatClampNeg < 16) (hf4 : s35_0 = 0 → p3 ≤ 64) (hf5 : p3 ≤ 64) (H : Heap) (locs : List Loc) (hP : va_P (dC, dI) classes (mW ad cJ cZ s35_0 g67.1 g67.2.1 g67.2.2) H) (hD : va_D A (mW ad cJ cZ s35_0 g67.1 g67.2.1 g67.2.2)) (hS : va_S A s.heap H locs) (ls : Array Slot) (hl : lv_has ls 4 []), W p l e (headSpec w_M_swap ({ frames := 8, cells := 0, slots := 0, locals := 231 } : Room)).room s m ([.ref (ad 0), .int (p1), .int (p2), .int (p3)] : List Value).toArray below meth c H locs 0 0 (MQ below (va_Qv (fun _ : Unit => True) (mB (dC, dI) A (mW ad cJ cZ (f_M_swap r0 w0 s0 p1 p2 p3).1 (f_M_swap r0 w0 s0 p1 p2 p3).2.1 (f_M_swap r0 w0 s0 p1 p2 p3).2.2.1 (f_M_swap r0 w0 s0 p1 p2 p3).2.2.2)) A) ([.ref (ad 0), .int (p1), .int (p2), .int (p3)] : List Value).toArray s 0 0 A) (F0 m 70 ls []) := by
    intro s35_0 g67 hj hf0 hf1 hf2 hf3 hf4 hf5 H locs hP hD hS ls hl
    have fe : f_M_swap r0 w0 s0 p1 p2 p3 = (s35_0, g67.1, g67.2.1, g67.2.2) := hj.trans rfl
    exact W.vret hx hb hr (fun t ht hW => ⟨⟨(), rfl, trivial, by rw [ht, fe]; exact hP, by rw [fe]; exact hD⟩, hS.F ht⟩) hS.2.2 d_M_swap_70
  have K50g : ∀ (s35_0 : Int32) (g50 : (Nat → VV)) (hj : f_M_swap r0 w0 s0 p1 p2 p3 = f_M_swap_50g r0 w0 s0 p1 p2 p3 s35_0 g50) (hf0 : p1 = nI p1.toNatClampNeg) (hf1 : p1.toNatClampNeg < 16) (hf2 : p2 = nI p2.toNatClampNeg) (hf3 : p2.toNatClampNeg < 16) (hf4 : s35_0 = 0 → p3 ≤ 64) (hf5 : p3 ≤ 64) (H : Heap) (locs : List Loc) (hP : va_P (dC, dI) classes (mW ad cJ cZ s35_0 g50 w0 s0) H) (hD : va_D A (mW ad cJ cZ s35_0 g50 w0 s0)) (hS : va_S A s.heap H locs) (ls : Array Slot) (hl : lv_has ls 4 [(0, .ref (ad 0)), (1, .int (p1)), (2, .int (p2)), (3, .int (p3))]), W p l e (headSpec w_M_swap ({ frames := 8, cells := 0, slots := 0, locals := 231 } : Room)).room s m ([.ref (ad 0), .int (p1), .int (p2), .int (p3)] : List Value).toArray below meth c H locs 0 0 (MQ below (va_Qv (fun _ : Unit => True) (mB (dC, dI) A (mW ad cJ cZ (f_M_swap r0 w0 s0 p1 p2 p3).1 (f_M_swap r0 w0 s0 p1 p2 p3).2.1 (f_M_swap r0 w0 s0 p1 p2 p3).2.2.1 (f_M_swap r0 w0 s0 p1 p2 p3).2.2.2)) A) ([.ref (ad 0), .int (p1), .int (p2), .int (p3)] : List Value).toArray s 0 0 A) (F0 m 53 ls []) := by
    intro s35_0 g50 hj hf0 hf1 hf2 hf3 hf4 hf5 H locs hP hD hS ls hl
    refine lv_aload_n hx hb d_M_swap_53 rfl (lv_at hl 0 rfl) ?_
    refine lv_iload_n hx hb d_M_swap_54 rfl (lv_at hl 1 rfl) ?_
    refine top_i hf0 ?_
    refine lv_bipush (v := 18) hx hb d_M_swap_55 (by decide) ?_
    refine lv_aload_n hx hb d_M_swap_57 rfl (lv_at hl 0 rfl) ?_
    refine va_get (D := (dC, dI)) (ci := 2) (v := .ref (ad 8)) (C := R_M) (T := F_M) (N := 10) hx hb hts (fun w h => List.mem_cons_of_mem _ (uw_M w h)) hown hK hP 0 rfl rfl 8 (by decide) (hG (.fieldLink R_M 32 "ValueSieveModel" "witness" "[J") gx17) (fun _ h9 => h9) rfl d_M_swap_58 ?_
    refine lv_iload_n hx hb d_M_swap_61 rfl (lv_at hl 2 rfl) ?_
    refine top_i hf2 ?_
    refine ml_8 (P := p2.toNatClampNeg) hx hb hK hP rfl hf3 d_M_swap_62 ?_
    refine lv_iload_n hx hb d_M_swap_63 rfl (lv_at hl 3 rfl) ?_
    refine rc_l (W.runS (As := [.long (w0 p2.toNatClampNeg), .int (p3)]) (rest := [.int (18), .int (nI p1.toNatClampNeg), .ref (ad 0)]) ⟨hx, hb, hml, hown, hts⟩ (c_M_swapped l (w0 p2.toNatClampNeg) p3 hf5) (va_cwS 2 hts (gxS gx117 gx118 gx0 gx119) rfl rfl rfl (by decide +kernel) ⟨(Nat.le_of_ble_eq_true rfl), (Nat.le_of_ble_eq_true rfl)⟩) ⟨bl0, fun U hU hW => ⟨rfl, trivial⟩⟩ rfl rfl hl.1 rfl (lv_room (Nat.le_of_ble_eq_true rfl)) d_M_swap_64 ⟨Nat.zero_le _, Nat.zero_le _⟩) ?_
    refine mm_v (F := f_M_put g50 w0 s0 p1.toNatClampNeg 18 (f_M_swapped (w0 p2.toNatClampNeg) p3)) (w1 := fun g67 => (mW ad cJ cZ s35_0 g67.1 g67.2.1 g67.2.2)) (va_runV (As := [.int (nI p1.toNatClampNeg), .int (18), .long (f_M_swapped (w0 p2.toNatClampNeg) p3)]) (rest := []) ⟨hx, hb, hml, hown, hts⟩ (c_M_put l dC dI ad cJ cZ H.size s35_0 g50 w0 s0 p1.toNatClampNeg 18 (f_M_swapped (w0 p2.toNatClampNeg) p3) hf1 (by decide)) (cwV 3 hts (gxV gx45 gx46 gx278 gx0 gx47) rfl rfl rfl (by decide +kernel) ⟨(Nat.le_of_ble_eq_true rfl), (Nat.le_of_ble_eq_true rfl)⟩) ⟨blp, va_recv hK hP (ci := 2) (q0 := 0) rfl rfl, fun U hU hW => ⟨rfl, by rw [hU], by rw [hU]; exact hP, va_K.moved hW.alike hK, hD.weaken (fun _ _ _ _ => trivial)⟩⟩ rfl rfl hl.1 rfl (lv_room (Nat.le_of_ble_eq_true rfl)) d_M_swap_67 ⟨Nat.zero_le _, Nat.zero_le _⟩) hD hS hA (fun g67 eg67 H locs hP hD hS => ?_)
    refine K67g s35_0 g67 (Eq.trans (hj.trans rfl) (congrArg (fun g67 => f_M_swap_67g r0 w0 s0 p1 p2 p3 s35_0 g67) eg67)) hf0 hf1 hf2 hf3 hf4 hf5 H locs ?_ ?_ hS ls (lv_sub hl [] rfl)
    · with_reducible exact hP
    · with_reducible exact hD
  have K35 : ∀ (s35_0 : Int32) (c35 : Int32) (hj : f_M_swap r0 w0 s0 p1 p2 p3 = f_M_swap_35 r0 w0 s0 p1 p2 p3 s35_0 c35) (hf0 : p1 = nI p1.toNatClampNeg) (hf1 : p1.toNatClampNeg < 16) (hf2 : p2 = nI p2.toNatClampNeg) (hf3 : p2.toNatClampNeg < 16) (hf4 : s35_0 = 0 → p3 ≤ 64) (H : Heap) (locs : List Loc) (hP : va_P (dC, dI) classes (mW ad cJ cZ c35 r0 w0 s0) H) (hD : va_D A (mW ad cJ cZ c35 r0 w0 s0)) (hS : va_S A s.heap H locs) (ls : Array Slot) (hl : lv_has ls 4 [(0, .ref (ad 0)), (1, .int (p1)), (2, .int (p2)), (3, .int (p3))]), W p l e (headSpec w_M_swap ({ frames := 8, cells := 0, slots := 0, locals := 231 } : Room)).room s m ([.ref (ad 0), .int (p1), .int (p2), .int (p3)] : List Value).toArray below meth c H locs 0 0 (MQ below (va_Qv (fun _ : Unit => True) (mB (dC, dI) A (mW ad cJ cZ (f_M_swap r0 w0 s0 p1 p2 p3).1 (f_M_swap r0 w0 s0 p1 p2 p3).2.1 (f_M_swap r0 w0 s0 p1 p2 p3).2.2.1 (f_M_swap r0 w0 s0 p1 p2 p3).2.2.2)) A) ([.ref (ad 0), .int (p1), .int (p2), .int (p3)] : List Value).toArray s 0 0 A) (F0 m 35 ls [.int (s35_0), .ref (ad 0)]) := by
    intro s35_0 c35 hj hf0 hf1 hf2 hf3 hf4 H locs hP hD hS ls hl
    refine mp_c hx hb hts (fun w h => List.mem_cons_of_mem _ (uw_M w h)) hown hK hP hD hS (hG (.fieldLink R_M 35 "ValueSieveModel" "code" "I") gx9) d_M_swap_35 (fun H locs hP hD hS => ?_)
    refine lv_aload_n hx hb d_M_swap_38 rfl (lv_at hl 0 rfl) ?_
    refine va_get (D := (dC, dI)) (ci := 2) (v := .int (s35_0)) (C := R_M) (T := F_M) (N := 10) hx hb hts (fun w h => List.mem_cons_of_mem _ (uw_M w h)) hown hK hP 0 rfl rfl 0 (by decide) (hG (.fieldLink R_M 35 "ValueSieveModel" "code" "I") gx9) (fun _ h9 => h9) rfl d_M_swap_39 ?_
    refine lv_if_ne (tgt := 70) hx hb d_M_swap_42 (by decide) (fun e1_70 => ?_) (fun e1_70 => ?_)
    · have fe : f_M_swap r0 w0 s0 p1 p2 p3 = (s35_0, r0, w0, s0) := hj.trans (by unfold f_M_swap_35; first | with_reducible exact if_neg e1_70 | exact if_neg e1_70)
      exact W.vret hx hb hr (fun t ht hW => ⟨⟨(), rfl, trivial, by rw [ht, fe]; exact hP, by rw [fe]; exact hD⟩, hS.F ht⟩) hS.2.2 d_M_swap_70
    · refine lv_aload_n hx hb d_M_swap_45 rfl (lv_at hl 0 rfl) ?_
      refine lv_iload_n hx hb d_M_swap_46 rfl (lv_at hl 2 rfl) ?_
      refine top_i hf2 ?_
      refine lv_bipush (v := 18) hx hb d_M_swap_47 (by decide) ?_
      refine lv_iload_n hx hb d_M_swap_49 rfl (lv_at hl 3 rfl) ?_
      refine mm_v (F := f_M_swapRow r0 p2.toNatClampNeg 18 p3) (w1 := fun g50 => (mW ad cJ cZ s35_0 g50 w0 s0)) (va_runV (As := [.int (nI p2.toNatClampNeg), .int (18), .int (p3)]) (rest := []) ⟨hx, hb, hml, hown, hts⟩ (c_M_swapRow l dC dI ad cJ cZ H.size s35_0 r0 w0 s0 p2.toNatClampNeg 18 p3 (Nat.lt_of_lt_of_le hf3 (by decide)) (by decide) (hf4 e1_70)) (cwV 3 hts (gxV gx114 gx115 gx281 gx0 gx116) rfl rfl rfl (by decide +kernel) ⟨(Nat.le_of_ble_eq_true rfl), (Nat.le_of_ble_eq_true rfl)⟩) ⟨blp, va_recv hK hP (ci := 2) (q0 := 0) rfl rfl, fun U hU hW => ⟨rfl, by rw [hU], by rw [hU]; exact hP, va_K.moved hW.alike hK, hD.weaken (fun _ _ _ _ => trivial)⟩⟩ rfl rfl hl.1 rfl (lv_room (Nat.le_of_ble_eq_true rfl)) d_M_swap_50 ⟨Nat.zero_le _, Nat.zero_le _⟩) hD hS hA (fun g50 eg50 H locs hP hD hS => ?_)
      refine K50g s35_0 g50 (Eq.trans (hj.trans (by unfold f_M_swap_35; first | with_reducible exact if_pos e1_70 | exact if_pos e1_70)) (congrArg (fun g50 => f_M_swap_50g r0 w0 s0 p1 p2 p3 s35_0 g50) eg50)) hf0 hf1 hf2 hf3 hf4 (hf4 e1_70) H locs ?_ ?_ hS ls (lv_sub hl [0, 1, 2, 3] rfl)
      · with_reducible exact hP
      · with_reducible exact hD
  have K30 : ∀ (c30 : Int32) (hj : f_M_swap r0 w0 s0 p1 p2 p3 = f_M_swap_30 r0 w0 s0 p1 p2 p3 c30) (hf0 : p1 = nI p1.toNatClampNeg) (hf1 : p1.toNatClampNeg < 16) (hf2 : p2 = nI p2.toNatClampNeg) (hf3 : p2.toNatClampNeg < 16) (hf4 : p3 ≤ 64) (H : Heap) (locs : List Loc) (hP : va_P (dC, dI) classes (mW ad cJ cZ c30 r0 w0 s0) H) (hD : va_D A (mW ad cJ cZ c30 r0 w0 s0)) (hS : va_S A s.heap H locs) (ls : Array Slot) (hl : lv_has ls 4 [(0, .ref (ad 0)), (1, .int (p1)), (2, .int (p2)), (3, .int (p3))]), W p l e (headSpec w_M_swap ({ frames := 8, cells := 0, slots := 0, locals := 231 } : Room)).room s m ([.ref (ad 0), .int (p1), .int (p2), .int (p3)] : List Value).toArray below meth c H locs 0 0 (MQ below (va_Qv (fun _ : Unit => True) (mB (dC, dI) A (mW ad cJ cZ (f_M_swap r0 w0 s0 p1 p2 p3).1 (f_M_swap r0 w0 s0 p1 p2 p3).2.1 (f_M_swap r0 w0 s0 p1 p2 p3).2.2.1 (f_M_swap r0 w0 s0 p1 p2 p3).2.2.2)) A) ([.ref (ad 0), .int (p1), .int (p2), .int (p3)] : List Value).toArray s 0 0 A) (F0 m 30 ls [.ref (ad 0)]) := by
    intro c30 hj hf0 hf1 hf2 hf3 hf4 H locs hP hD hS ls hl
    refine lv_iconst (v := 0) hx hb d_M_swap_30 (by decide) ?_
    refine lv_goto (tgt := 35) hx hb d_M_swap_31 (by decide) ?_
    refine K35 0 c30 (hj.trans rfl) hf0 hf1 hf2 hf3 (fun _ => hf4) H locs ?_ ?_ hS ls (lv_sub hl [0, 1, 2, 3] rfl)
    · with_reducible exact hP
    · with_reducible exact hD
  have K4g : ∀ (g4 : Bool × Int32) (hj : f_M_swap r0 w0 s0 p1 p2 p3 = f_M_swap_4g r0 w0 s0 p1 p2 p3 g4) (hf0 : npF g4.1 p1 p2 0) (H : Heap) (locs : List Loc) (hP : va_P (dC, dI) classes (mW ad cJ cZ g4.2 r0 w0 s0) H) (hD : va_D A (mW ad cJ cZ g4.2 r0 w0 s0)) (hS : va_S A s.heap H locs) (ls : Array Slot) (hl : lv_has ls 4 [(0, .ref (ad 0)), (1, .int (p1)), (2, .int (p2)), (3, .int (p3))]), W p l e (headSpec w_M_swap ({ frames := 8, cells := 0, slots := 0, locals := 231 } : Room)).room s m ([.ref (ad 0), .int (p1), .int (p2), .int (p3)] : List Value).toArray below meth c H locs 0 0 (MQ below (va_Qv (fun _ : Unit => True) (mB (dC, dI) A (mW ad cJ cZ (f_M_swap r0 w0 s0 p1 p2 p3).1 (f_M_swap r0 w0 s0 p1 p2 p3).2.1 (f_M_swap r0 w0 s0 p1 p2 p3).2.2.1 (f_M_swap r0 w0 s0 p1 p2 p3).2.2.2)) A) ([.ref (ad 0), .int (p1), .int (p2), .int (p3)] : List Value).toArray s 0 0 A) (F0 m 7 ls [.int (bI g4.1)]) := by
    intro g4 hj hf0 H locs hP hD hS ls hl
    refine wz_eq (tgt := 11) hx hb d_M_swap_7 (by decide) (fun e1_11 => ?_) (fun e1_11 => ?_)
    · obtain ⟨⟨i1, j1⟩, ⟨i2, j2⟩, ⟨i3, j3⟩⟩ := npF_of hf0 e1_11
      refine lv_aload_n hx hb d_M_swap_11 rfl (lv_at hl 0 rfl) ?_
      refine lv_iload_n hx hb d_M_swap_12 rfl (lv_at hl 3 rfl) ?_
      refine lv_bipush (v := 16) hx hb d_M_swap_13 (by decide) ?_
      refine lv_icmp_eq (tgt := 30) hx hb d_M_swap_15 (by decide) (fun e2_30 => ?_) (fun e2_30 => ?_)
      · refine K30 g4.2 (hj.trans (by unfold f_M_swap_4g; first | with_reducible exact (if_neg e1_11).trans (if_pos e2_30) | exact (if_neg e1_11).trans (if_pos e2_30))) i1 j1 i2 j2 (by rw [e2_30]; decide) H locs ?_ ?_ hS ls (lv_sub hl [0, 1, 2, 3] rfl)
        · with_reducible exact hP
        · with_reducible exact hD
      · refine lv_iload_n hx hb d_M_swap_18 rfl (lv_at hl 3 rfl) ?_
        refine lv_bipush (v := 32) hx hb d_M_swap_19 (by decide) ?_
        refine lv_icmp_eq (tgt := 30) hx hb d_M_swap_21 (by decide) (fun e3_30 => ?_) (fun e3_30 => ?_)
        · refine K30 g4.2 (hj.trans (by unfold f_M_swap_4g; first | with_reducible exact (if_neg e1_11).trans ((if_neg e2_30).trans (if_pos e3_30)) | exact (if_neg e1_11).trans ((if_neg e2_30).trans (if_pos e3_30)))) i1 j1 i2 j2 (by rw [e3_30]; decide) H locs ?_ ?_ hS ls (lv_sub hl [0, 1, 2, 3] rfl)
          · with_reducible exact hP
          · with_reducible exact hD
        · refine lv_iload_n hx hb d_M_swap_24 rfl (lv_at hl 3 rfl) ?_
          refine lv_bipush (v := 64) hx hb d_M_swap_25 (by decide) ?_
          refine lv_icmp_ne (tgt := 34) hx hb d_M_swap_27 (by decide) (fun e4_34 => ?_) (fun e4_34 => ?_)
          · refine lv_iconst (v := 2) hx hb d_M_swap_34 (by decide) ?_
            refine K35 2 g4.2 (hj.trans (by unfold f_M_swap_4g; first | with_reducible exact (if_neg e1_11).trans ((if_neg e2_30).trans ((if_neg e3_30).trans (if_neg e4_34))) | exact (if_neg e1_11).trans ((if_neg e2_30).trans ((if_neg e3_30).trans (if_neg e4_34))))) i1 j1 i2 j2 (fun h => absurd h (by decide)) H locs ?_ ?_ hS ls (lv_sub hl [0, 1, 2, 3] rfl)
            · with_reducible exact hP
            · with_reducible exact hD
          · refine K30 g4.2 (hj.trans (by unfold f_M_swap_4g; first | with_reducible exact (if_neg e1_11).trans ((if_neg e2_30).trans ((if_neg e3_30).trans (if_pos e4_34))) | exact (if_neg e1_11).trans ((if_neg e2_30).trans ((if_neg e3_30).trans (if_pos e4_34))))) i1 j1 i2 j2 (by rw [e4_34]; decide) H locs ?_ ?_ hS ls (lv_sub hl [0, 1, 2, 3] rfl)
            · with_reducible exact hP
            · with_reducible exact hD
    · have fe : f_M_swap r0 w0 s0 p1 p2 p3 = (g4.2, r0, w0, s0) := hj.trans (by unfold f_M_swap_4g; first | with_reducible exact if_pos e1_11 | exact if_pos e1_11)
      exact W.vret hx hb hr (fun t ht hW => ⟨⟨(), rfl, trivial, by rw [ht, fe]; exact hP, by rw [fe]; exact hD⟩, hS.F ht⟩) hS.2.2 d_M_swap_10
  refine lv_aload_n hx hb d_M_swap_0 rfl (lv_at hl 0 rfl) ?_
  refine lv_iload_n hx hb d_M_swap_1 rfl (lv_at hl 1 rfl) ?_
  refine lv_iload_n hx hb d_M_swap_2 rfl (lv_at hl 2 rfl) ?_
  refine lv_iconst (v := 0) hx hb d_M_swap_3 (by decide) ?_
  refine mm_z (F := f_M_noPlace p1 p2 0) (w1 := fun g4 => (mW ad cJ cZ g4.2 r0 w0 s0)) (va_runV (As := [.int (p1), .int (p2), .int (0)]) (rest := []) ⟨hx, hb, hml, hown, hts⟩ (c_M_noPlace l dC dI ad cJ cZ s.heap.size c0 r0 w0 s0 p1 p2 0) (cwV 3 hts (gxV gx36 gx37 gx276 gx0 gx38) rfl rfl rfl (by decide +kernel) ⟨(Nat.le_of_ble_eq_true rfl), (Nat.le_of_ble_eq_true rfl)⟩) ⟨blp, va_recv hK hP (ci := 2) (q0 := 0) rfl rfl, fun U hU hW => ⟨rfl, by rw [hU], by rw [hU]; exact hP, va_K.moved hW.alike hK, hD.weaken (fun _ _ _ _ => trivial)⟩⟩ rfl rfl hl.1 rfl (lv_room (Nat.le_of_ble_eq_true rfl)) d_M_swap_4 ⟨Nat.zero_le _, Nat.zero_le _⟩) hD hS hA (fun g4 eg4 H locs hP hD hS => ?_)
  have hpg4 := np_ok eg4
  refine K4g g4 (Eq.trans (rfl) (congrArg (fun g4 => f_M_swap_4g r0 w0 s0 p1 p2 p3 g4) eg4)) hpg4 H locs ?_ ?_ hS ls (lv_sub hl [0, 1, 2, 3] rfl)
  · with_reducible exact hP
  · with_reducible exact hD
