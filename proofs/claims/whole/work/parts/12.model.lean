-- nothingSaid
theorem d_M_nothingSaid_0 : decode b_M_nothingSaid 0 = .ok (.aload_n 0, 1) := by decide +kernel
theorem d_M_nothingSaid_1 : decode b_M_nothingSaid 1 = .ok (.getfield 7, 3) := by decide +kernel
theorem d_M_nothingSaid_4 : decode b_M_nothingSaid 4 = .ok (.iload_n 1, 1) := by decide +kernel
theorem d_M_nothingSaid_5 : decode b_M_nothingSaid 5 = .ok (.lconst 0, 1) := by decide +kernel
theorem d_M_nothingSaid_6 : decode b_M_nothingSaid 6 = .ok (.lastore, 1) := by decide +kernel
theorem d_M_nothingSaid_7 : decode b_M_nothingSaid 7 = .ok (.aload_n 0, 1) := by decide +kernel
theorem d_M_nothingSaid_8 : decode b_M_nothingSaid 8 = .ok (.getfield 13, 3) := by decide +kernel
theorem d_M_nothingSaid_11 : decode b_M_nothingSaid 11 = .ok (.iload_n 1, 1) := by decide +kernel
theorem d_M_nothingSaid_12 : decode b_M_nothingSaid 12 = .ok (.ldc2_w 49, 3) := by decide +kernel
theorem d_M_nothingSaid_15 : decode b_M_nothingSaid 15 = .ok (.lastore, 1) := by decide +kernel
theorem d_M_nothingSaid_16 : decode b_M_nothingSaid 16 = .ok (.aload_n 0, 1) := by decide +kernel
theorem d_M_nothingSaid_17 : decode b_M_nothingSaid 17 = .ok (.getfield 16, 3) := by decide +kernel
theorem d_M_nothingSaid_20 : decode b_M_nothingSaid 20 = .ok (.iload_n 1, 1) := by decide +kernel
theorem d_M_nothingSaid_21 : decode b_M_nothingSaid 21 = .ok (.lconst 0, 1) := by decide +kernel
theorem d_M_nothingSaid_22 : decode b_M_nothingSaid 22 = .ok (.lastore, 1) := by decide +kernel
theorem d_M_nothingSaid_23 : decode b_M_nothingSaid 23 = .ok (.aload_n 0, 1) := by decide +kernel
theorem d_M_nothingSaid_24 : decode b_M_nothingSaid 24 = .ok (.getfield 19, 3) := by decide +kernel
theorem d_M_nothingSaid_27 : decode b_M_nothingSaid 27 = .ok (.iload_n 1, 1) := by decide +kernel
theorem d_M_nothingSaid_28 : decode b_M_nothingSaid 28 = .ok (.ldc2_w 49, 3) := by decide +kernel
theorem d_M_nothingSaid_31 : decode b_M_nothingSaid 31 = .ok (.lastore, 1) := by decide +kernel
theorem d_M_nothingSaid_32 : decode b_M_nothingSaid 32 = .ok (.aload_n 0, 1) := by decide +kernel
theorem d_M_nothingSaid_33 : decode b_M_nothingSaid 33 = .ok (.getfield 22, 3) := by decide +kernel
theorem d_M_nothingSaid_36 : decode b_M_nothingSaid 36 = .ok (.iload_n 1, 1) := by decide +kernel
theorem d_M_nothingSaid_37 : decode b_M_nothingSaid 37 = .ok (.ldc2_w 54, 3) := by decide +kernel
theorem d_M_nothingSaid_40 : decode b_M_nothingSaid 40 = .ok (.lastore, 1) := by decide +kernel
theorem d_M_nothingSaid_41 : decode b_M_nothingSaid 41 = .ok (.aload_n 0, 1) := by decide +kernel
theorem d_M_nothingSaid_42 : decode b_M_nothingSaid 42 = .ok (.getfield 25, 3) := by decide +kernel
theorem d_M_nothingSaid_45 : decode b_M_nothingSaid 45 = .ok (.iload_n 1, 1) := by decide +kernel
theorem d_M_nothingSaid_46 : decode b_M_nothingSaid 46 = .ok (.ldc2_w 56, 3) := by decide +kernel
theorem d_M_nothingSaid_49 : decode b_M_nothingSaid 49 = .ok (.lastore, 1) := by decide +kernel
theorem d_M_nothingSaid_50 : decode b_M_nothingSaid 50 = .ok (.aload_n 0, 1) := by decide +kernel
theorem d_M_nothingSaid_51 : decode b_M_nothingSaid 51 = .ok (.getfield 28, 3) := by decide +kernel
theorem d_M_nothingSaid_54 : decode b_M_nothingSaid 54 = .ok (.iload_n 1, 1) := by decide +kernel
theorem d_M_nothingSaid_55 : decode b_M_nothingSaid 55 = .ok (.iconst 0, 1) := by decide +kernel
theorem d_M_nothingSaid_56 : decode b_M_nothingSaid 56 = .ok (.bastore, 1) := by decide +kernel
theorem d_M_nothingSaid_57 : decode b_M_nothingSaid 57 = .ok (.return_, 1) := by decide +kernel
def f_M_nothingSaid_56u (r0 : (Nat → VV)) (p1 : Nat) (r56n : (Nat → VV)) : (Nat → VV) := r56n
def f_M_nothingSaid_49u (r0 : (Nat → VV)) (p1 : Nat) (r49n : (Nat → VV)) : (Nat → VV) := f_M_nothingSaid_56u r0 p1 (u7 r49n p1 false)
def f_M_nothingSaid_40u (r0 : (Nat → VV)) (p1 : Nat) (r40n : (Nat → VV)) : (Nat → VV) := f_M_nothingSaid_49u r0 p1 (u6 r40n p1 9223372036854775807)
def f_M_nothingSaid_31u (r0 : (Nat → VV)) (p1 : Nat) (r31n : (Nat → VV)) : (Nat → VV) := f_M_nothingSaid_40u r0 p1 (u5 r31n p1 (-9223372036854775808))
def f_M_nothingSaid_22u (r0 : (Nat → VV)) (p1 : Nat) (r22n : (Nat → VV)) : (Nat → VV) := f_M_nothingSaid_31u r0 p1 (u4 r22n p1 (-1))
def f_M_nothingSaid_15u (r0 : (Nat → VV)) (p1 : Nat) (r15n : (Nat → VV)) : (Nat → VV) := f_M_nothingSaid_22u r0 p1 (u3 r15n p1 0)
def f_M_nothingSaid_6u (r0 : (Nat → VV)) (p1 : Nat) (r6n : (Nat → VV)) : (Nat → VV) := f_M_nothingSaid_15u r0 p1 (u2 r6n p1 (-1))
def f_M_nothingSaid (r0 : (Nat → VV)) (p1 : Nat) : (Nat → VV) := f_M_nothingSaid_6u r0 p1 (u1 r0 p1 0)
set_option maxRecDepth 100000 in
set_option maxHeartbeats 4000000 in
theorem c_M_nothingSaid (l : Launch) (dC : Nat → ClassId) (dI : Nat → Nat → Nat) (ad : Nat → Nat) (cJ cZ : ClassId) (sz : Nat) (c0 : Int32) (r0 : (Nat → VV)) (w0 : (Nat → Int64)) (s0 : Int32) (p1 : Nat) (b1 : p1 < 24) : Met l y_M_nothingSaid w_M_nothingSaid ({ frames := 0, cells := 0, slots := 0, locals := 0 } : Room) (va_Pc [.ref (ad 0), .int (nI p1)] (nP (dC, dI) (mT cJ cZ) (mW ad cJ cZ c0 r0 w0 s0) sz)) (va_Qv (fun _ : Unit => True) (mB (dC, dI) (va_A (mW ad cJ cZ c0 r0 w0 s0) sz) (mW ad cJ cZ c0 (f_M_nothingSaid r0 p1) w0 s0)) (va_A (mW ad cJ cZ c0 r0 w0 s0) sz)) 0 0 (va_A (mW ad cJ cZ c0 r0 w0 s0) sz) := by
  refine Met.ofW (cc := b_M_nothingSaid) (maxL := 2) (ret := none) (by decide) rfl ?_
  intro p e s m args below meth c s₁ B hml hv
  obtain ⟨rfl, hsz, hP, hK, hD0⟩ := hv
  have hx := B.exec
  have hb := B.bytes
  have hr := B.returns
  have hts := atoms_spec (ws := w_M_nothingSaid) B.pre
  have hG : ∀ w ∈ gM, w.before _ s = true := fun w h => hts w (List.mem_cons_of_mem _ h)
  have hown : s.vm.findClass R_M = some m.cls := findClass_of_methodNamed B.named
  have hlocks := B.notSynchronized
  subst hsz
  have hD := hD0.self (sz := s.heap.size)
  generalize hAe : va_A (mW ad cJ cZ c0 r0 w0 s0) s.heap.size = A at hD ⊢
  have hA : ∀ q : Nat, s.heap.size ≤ q → A q := fun q h => by rw [← hAe]; exact Or.inr h
  have hS : va_S A s.heap s.heap [] := va_S.rf
  have hl := lv_entry ([.ref (ad 0), .int (nI p1)]) (n := 2) (Nat.le_of_ble_eq_true rfl)
  rw [lg_entry_eq]
  generalize (lg_sl ([.ref (ad 0), .int (nI p1)]) ++ List.replicate (2 - (lg_sl ([.ref (ad 0), .int (nI p1)])).length) Slot.unset).toArray = ls at hl ⊢
  have hl : lv_has ls 2 [(0, .ref (ad 0)), (1, .int (nI p1))] := hl
  have K56u : ∀ (r56n : (Nat → VV)) (hj : f_M_nothingSaid r0 p1 = f_M_nothingSaid_56u r0 p1 r56n) (H : Heap) (locs : List Loc) (hP : va_P (dC, dI) classes (mW ad cJ cZ c0 r56n w0 s0) H) (hD : va_D A (mW ad cJ cZ c0 r56n w0 s0)) (hS : va_S A s.heap H locs) (ls : Array Slot) (hl : lv_has ls 2 []), W p l e (headSpec w_M_nothingSaid ({ frames := 0, cells := 0, slots := 0, locals := 0 } : Room)).room s m ([.ref (ad 0), .int (nI p1)] : List Value).toArray below meth c H locs 0 0 (MQ below (va_Qv (fun _ : Unit => True) (mB (dC, dI) A (mW ad cJ cZ c0 (f_M_nothingSaid r0 p1) w0 s0)) A) ([.ref (ad 0), .int (nI p1)] : List Value).toArray s 0 0 A) (F0 m 57 ls []) := by
    intro r56n hj H locs hP hD hS ls hl
    have fe : f_M_nothingSaid r0 p1 = r56n := hj.trans rfl
    exact W.vret hx hb hr (fun t ht hW => ⟨⟨(), rfl, trivial, by rw [ht, fe]; exact hP, by rw [fe]; exact hD⟩, hS.F ht⟩) hS.2.2 d_M_nothingSaid_57
  have K49u : ∀ (r49n : (Nat → VV)) (hj : f_M_nothingSaid r0 p1 = f_M_nothingSaid_49u r0 p1 r49n) (H : Heap) (locs : List Loc) (hP : va_P (dC, dI) classes (mW ad cJ cZ c0 r49n w0 s0) H) (hD : va_D A (mW ad cJ cZ c0 r49n w0 s0)) (hS : va_S A s.heap H locs) (ls : Array Slot) (hl : lv_has ls 2 [(0, .ref (ad 0)), (1, .int (nI p1))]), W p l e (headSpec w_M_nothingSaid ({ frames := 0, cells := 0, slots := 0, locals := 0 } : Room)).room s m ([.ref (ad 0), .int (nI p1)] : List Value).toArray below meth c H locs 0 0 (MQ below (va_Qv (fun _ : Unit => True) (mB (dC, dI) A (mW ad cJ cZ c0 (f_M_nothingSaid r0 p1) w0 s0)) A) ([.ref (ad 0), .int (nI p1)] : List Value).toArray s 0 0 A) (F0 m 50 ls []) := by
    intro r49n hj H locs hP hD hS ls hl
    refine lv_aload_n hx hb d_M_nothingSaid_50 rfl (lv_at hl 0 rfl) ?_
    refine va_get (D := (dC, dI)) (ci := 2) (v := .ref (ad 7)) (C := R_M) (T := F_M) (N := 10) hx hb hts (fun w h => List.mem_cons_of_mem _ (uw_M w h)) hown hK hP 0 rfl rfl 7 (by decide) (hG (.fieldLink R_M 28 "ValueSieveModel" "empty" "[Z") gx16) (fun _ h9 => h9) rfl d_M_nothingSaid_51 ?_
    refine lv_iload_n hx hb d_M_nothingSaid_54 rfl (lv_at hl 1 rfl) ?_
    refine lv_iconst (v := 0) hx hb d_M_nothingSaid_55 (by decide) ?_
    refine ms_7 (P := p1) (x := false) hx hb hK hP hD hS rfl b1 d_M_nothingSaid_56 (fun H locs hP hD hS => ?_)
    obtain ⟨r56n, er56n⟩ : ∃ z, z = u7 r49n p1 false := ⟨_, rfl⟩
    rw [← er56n] at hP hD
    refine K56u r56n (Eq.trans (hj.trans rfl) (congrArg (fun r56n => f_M_nothingSaid_56u r0 p1 r56n) er56n.symm)) H locs ?_ ?_ hS ls (lv_sub hl [] rfl)
    · with_reducible exact hP
    · with_reducible exact hD
  have K40u : ∀ (r40n : (Nat → VV)) (hj : f_M_nothingSaid r0 p1 = f_M_nothingSaid_40u r0 p1 r40n) (H : Heap) (locs : List Loc) (hP : va_P (dC, dI) classes (mW ad cJ cZ c0 r40n w0 s0) H) (hD : va_D A (mW ad cJ cZ c0 r40n w0 s0)) (hS : va_S A s.heap H locs) (ls : Array Slot) (hl : lv_has ls 2 [(0, .ref (ad 0)), (1, .int (nI p1))]), W p l e (headSpec w_M_nothingSaid ({ frames := 0, cells := 0, slots := 0, locals := 0 } : Room)).room s m ([.ref (ad 0), .int (nI p1)] : List Value).toArray below meth c H locs 0 0 (MQ below (va_Qv (fun _ : Unit => True) (mB (dC, dI) A (mW ad cJ cZ c0 (f_M_nothingSaid r0 p1) w0 s0)) A) ([.ref (ad 0), .int (nI p1)] : List Value).toArray s 0 0 A) (F0 m 41 ls []) := by
    intro r40n hj H locs hP hD hS ls hl
    refine lv_aload_n hx hb d_M_nothingSaid_41 rfl (lv_at hl 0 rfl) ?_
    refine va_get (D := (dC, dI)) (ci := 2) (v := .ref (ad 6)) (C := R_M) (T := F_M) (N := 10) hx hb hts (fun w h => List.mem_cons_of_mem _ (uw_M w h)) hown hK hP 0 rfl rfl 6 (by decide) (hG (.fieldLink R_M 25 "ValueSieveModel" "greatest" "[J") gx15) (fun _ h9 => h9) rfl d_M_nothingSaid_42 ?_
    refine lv_iload_n hx hb d_M_nothingSaid_45 rfl (lv_at hl 1 rfl) ?_
    refine lv_ldc2 (v := 9223372036854775807) hx hb hown (hG (.constantLong R_M 56 (9223372036854775807)) gx44) d_M_nothingSaid_46 ?_
    refine ms_6 (P := p1) (x := 9223372036854775807) hx hb hK hP hD hS rfl b1 d_M_nothingSaid_49 (fun H locs hP hD hS => ?_)
    obtain ⟨r49n, er49n⟩ : ∃ z, z = u6 r40n p1 9223372036854775807 := ⟨_, rfl⟩
    rw [← er49n] at hP hD
    refine K49u r49n (Eq.trans (hj.trans rfl) (congrArg (fun r49n => f_M_nothingSaid_49u r0 p1 r49n) er49n.symm)) H locs ?_ ?_ hS ls (lv_sub hl [0, 1] rfl)
    · with_reducible exact hP
    · with_reducible exact hD
  have K31u : ∀ (r31n : (Nat → VV)) (hj : f_M_nothingSaid r0 p1 = f_M_nothingSaid_31u r0 p1 r31n) (H : Heap) (locs : List Loc) (hP : va_P (dC, dI) classes (mW ad cJ cZ c0 r31n w0 s0) H) (hD : va_D A (mW ad cJ cZ c0 r31n w0 s0)) (hS : va_S A s.heap H locs) (ls : Array Slot) (hl : lv_has ls 2 [(0, .ref (ad 0)), (1, .int (nI p1))]), W p l e (headSpec w_M_nothingSaid ({ frames := 0, cells := 0, slots := 0, locals := 0 } : Room)).room s m ([.ref (ad 0), .int (nI p1)] : List Value).toArray below meth c H locs 0 0 (MQ below (va_Qv (fun _ : Unit => True) (mB (dC, dI) A (mW ad cJ cZ c0 (f_M_nothingSaid r0 p1) w0 s0)) A) ([.ref (ad 0), .int (nI p1)] : List Value).toArray s 0 0 A) (F0 m 32 ls []) := by
    intro r31n hj H locs hP hD hS ls hl
    refine lv_aload_n hx hb d_M_nothingSaid_32 rfl (lv_at hl 0 rfl) ?_
    refine va_get (D := (dC, dI)) (ci := 2) (v := .ref (ad 5)) (C := R_M) (T := F_M) (N := 10) hx hb hts (fun w h => List.mem_cons_of_mem _ (uw_M w h)) hown hK hP 0 rfl rfl 5 (by decide) (hG (.fieldLink R_M 22 "ValueSieveModel" "least" "[J") gx14) (fun _ h9 => h9) rfl d_M_nothingSaid_33 ?_
    refine lv_iload_n hx hb d_M_nothingSaid_36 rfl (lv_at hl 1 rfl) ?_
    refine lv_ldc2 (v := -9223372036854775808) hx hb hown (hG (.constantLong R_M 54 (-9223372036854775808)) gx43) d_M_nothingSaid_37 ?_
    refine ms_5 (P := p1) (x := -9223372036854775808) hx hb hK hP hD hS rfl b1 d_M_nothingSaid_40 (fun H locs hP hD hS => ?_)
    obtain ⟨r40n, er40n⟩ : ∃ z, z = u5 r31n p1 (-9223372036854775808) := ⟨_, rfl⟩
    rw [← er40n] at hP hD
    refine K40u r40n (Eq.trans (hj.trans rfl) (congrArg (fun r40n => f_M_nothingSaid_40u r0 p1 r40n) er40n.symm)) H locs ?_ ?_ hS ls (lv_sub hl [0, 1] rfl)
    · with_reducible exact hP
    · with_reducible exact hD
  have K22u : ∀ (r22n : (Nat → VV)) (hj : f_M_nothingSaid r0 p1 = f_M_nothingSaid_22u r0 p1 r22n) (H : Heap) (locs : List Loc) (hP : va_P (dC, dI) classes (mW ad cJ cZ c0 r22n w0 s0) H) (hD : va_D A (mW ad cJ cZ c0 r22n w0 s0)) (hS : va_S A s.heap H locs) (ls : Array Slot) (hl : lv_has ls 2 [(0, .ref (ad 0)), (1, .int (nI p1))]), W p l e (headSpec w_M_nothingSaid ({ frames := 0, cells := 0, slots := 0, locals := 0 } : Room)).room s m ([.ref (ad 0), .int (nI p1)] : List Value).toArray below meth c H locs 0 0 (MQ below (va_Qv (fun _ : Unit => True) (mB (dC, dI) A (mW ad cJ cZ c0 (f_M_nothingSaid r0 p1) w0 s0)) A) ([.ref (ad 0), .int (nI p1)] : List Value).toArray s 0 0 A) (F0 m 23 ls []) := by
    intro r22n hj H locs hP hD hS ls hl
    refine lv_aload_n hx hb d_M_nothingSaid_23 rfl (lv_at hl 0 rfl) ?_
    refine va_get (D := (dC, dI)) (ci := 2) (v := .ref (ad 4)) (C := R_M) (T := F_M) (N := 10) hx hb hts (fun w h => List.mem_cons_of_mem _ (uw_M w h)) hown hK hP 0 rfl rfl 4 (by decide) (hG (.fieldLink R_M 19 "ValueSieveModel" "high" "[J") gx13) (fun _ h9 => h9) rfl d_M_nothingSaid_24 ?_
    refine lv_iload_n hx hb d_M_nothingSaid_27 rfl (lv_at hl 1 rfl) ?_
    refine lv_ldc2 (v := -1) hx hb hown (hG (.constantLong R_M 49 (-1)) gx42) d_M_nothingSaid_28 ?_
    refine ms_4 (P := p1) (x := -1) hx hb hK hP hD hS rfl b1 d_M_nothingSaid_31 (fun H locs hP hD hS => ?_)
    obtain ⟨r31n, er31n⟩ : ∃ z, z = u4 r22n p1 (-1) := ⟨_, rfl⟩
    rw [← er31n] at hP hD
    refine K31u r31n (Eq.trans (hj.trans rfl) (congrArg (fun r31n => f_M_nothingSaid_31u r0 p1 r31n) er31n.symm)) H locs ?_ ?_ hS ls (lv_sub hl [0, 1] rfl)
    · with_reducible exact hP
    · with_reducible exact hD
  have K15u : ∀ (r15n : (Nat → VV)) (hj : f_M_nothingSaid r0 p1 = f_M_nothingSaid_15u r0 p1 r15n) (H : Heap) (locs : List Loc) (hP : va_P (dC, dI) classes (mW ad cJ cZ c0 r15n w0 s0) H) (hD : va_D A (mW ad cJ cZ c0 r15n w0 s0)) (hS : va_S A s.heap H locs) (ls : Array Slot) (hl : lv_has ls 2 [(0, .ref (ad 0)), (1, .int (nI p1))]), W p l e (headSpec w_M_nothingSaid ({ frames := 0, cells := 0, slots := 0, locals := 0 } : Room)).room s m ([.ref (ad 0), .int (nI p1)] : List Value).toArray below meth c H locs 0 0 (MQ below (va_Qv (fun _ : Unit => True) (mB (dC, dI) A (mW ad cJ cZ c0 (f_M_nothingSaid r0 p1) w0 s0)) A) ([.ref (ad 0), .int (nI p1)] : List Value).toArray s 0 0 A) (F0 m 16 ls []) := by
    intro r15n hj H locs hP hD hS ls hl
    refine lv_aload_n hx hb d_M_nothingSaid_16 rfl (lv_at hl 0 rfl) ?_
    refine va_get (D := (dC, dI)) (ci := 2) (v := .ref (ad 3)) (C := R_M) (T := F_M) (N := 10) hx hb hts (fun w h => List.mem_cons_of_mem _ (uw_M w h)) hown hK hP 0 rfl rfl 3 (by decide) (hG (.fieldLink R_M 16 "ValueSieveModel" "low" "[J") gx12) (fun _ h9 => h9) rfl d_M_nothingSaid_17 ?_
    refine lv_iload_n hx hb d_M_nothingSaid_20 rfl (lv_at hl 1 rfl) ?_
    refine lv_lconst (v := 0) hx hb d_M_nothingSaid_21 (by decide) ?_
    refine ms_3 (P := p1) (x := 0) hx hb hK hP hD hS rfl b1 d_M_nothingSaid_22 (fun H locs hP hD hS => ?_)
    obtain ⟨r22n, er22n⟩ : ∃ z, z = u3 r15n p1 0 := ⟨_, rfl⟩
    rw [← er22n] at hP hD
    refine K22u r22n (Eq.trans (hj.trans rfl) (congrArg (fun r22n => f_M_nothingSaid_22u r0 p1 r22n) er22n.symm)) H locs ?_ ?_ hS ls (lv_sub hl [0, 1] rfl)
    · with_reducible exact hP
    · with_reducible exact hD
  have K6u : ∀ (r6n : (Nat → VV)) (hj : f_M_nothingSaid r0 p1 = f_M_nothingSaid_6u r0 p1 r6n) (H : Heap) (locs : List Loc) (hP : va_P (dC, dI) classes (mW ad cJ cZ c0 r6n w0 s0) H) (hD : va_D A (mW ad cJ cZ c0 r6n w0 s0)) (hS : va_S A s.heap H locs) (ls : Array Slot) (hl : lv_has ls 2 [(0, .ref (ad 0)), (1, .int (nI p1))]), W p l e (headSpec w_M_nothingSaid ({ frames := 0, cells := 0, slots := 0, locals := 0 } : Room)).room s m ([.ref (ad 0), .int (nI p1)] : List Value).toArray below meth c H locs 0 0 (MQ below (va_Qv (fun _ : Unit => True) (mB (dC, dI) A (mW ad cJ cZ c0 (f_M_nothingSaid r0 p1) w0 s0)) A) ([.ref (ad 0), .int (nI p1)] : List Value).toArray s 0 0 A) (F0 m 7 ls []) := by
    intro r6n hj H locs hP hD hS ls hl
    refine lv_aload_n hx hb d_M_nothingSaid_7 rfl (lv_at hl 0 rfl) ?_
    refine va_get (D := (dC, dI)) (ci := 2) (v := .ref (ad 2)) (C := R_M) (T := F_M) (N := 10) hx hb hts (fun w h => List.mem_cons_of_mem _ (uw_M w h)) hown hK hP 0 rfl rfl 2 (by decide) (hG (.fieldLink R_M 13 "ValueSieveModel" "open" "[J") gx11) (fun _ h9 => h9) rfl d_M_nothingSaid_8 ?_
    refine lv_iload_n hx hb d_M_nothingSaid_11 rfl (lv_at hl 1 rfl) ?_
    refine lv_ldc2 (v := -1) hx hb hown (hG (.constantLong R_M 49 (-1)) gx42) d_M_nothingSaid_12 ?_
    refine ms_2 (P := p1) (x := -1) hx hb hK hP hD hS rfl b1 d_M_nothingSaid_15 (fun H locs hP hD hS => ?_)
    obtain ⟨r15n, er15n⟩ : ∃ z, z = u2 r6n p1 (-1) := ⟨_, rfl⟩
    rw [← er15n] at hP hD
    refine K15u r15n (Eq.trans (hj.trans rfl) (congrArg (fun r15n => f_M_nothingSaid_15u r0 p1 r15n) er15n.symm)) H locs ?_ ?_ hS ls (lv_sub hl [0, 1] rfl)
    · with_reducible exact hP
    · with_reducible exact hD
  refine lv_aload_n hx hb d_M_nothingSaid_0 rfl (lv_at hl 0 rfl) ?_
  refine va_get (D := (dC, dI)) (ci := 2) (v := .ref (ad 1)) (C := R_M) (T := F_M) (N := 10) hx hb hts (fun w h => List.mem_cons_of_mem _ (uw_M w h)) hown hK hP 0 rfl rfl 1 (by decide) (hG (.fieldLink R_M 7 "ValueSieveModel" "bits" "[J") gx10) (fun _ h9 => h9) rfl d_M_nothingSaid_1 ?_
  refine lv_iload_n hx hb d_M_nothingSaid_4 rfl (lv_at hl 1 rfl) ?_
  refine lv_lconst (v := 0) hx hb d_M_nothingSaid_5 (by decide) ?_
  refine ms_1 (P := p1) (x := 0) hx hb hK hP hD hS rfl b1 d_M_nothingSaid_6 (fun H locs hP hD hS => ?_)
  obtain ⟨r6n, er6n⟩ : ∃ z, z = u1 r0 p1 0 := ⟨_, rfl⟩
  rw [← er6n] at hP hD
  refine K6u r6n (Eq.trans (rfl) (congrArg (fun r6n => f_M_nothingSaid_6u r0 p1 r6n) er6n.symm)) H locs ?_ ?_ hS ls (lv_sub hl [0, 1] rfl)
  · with_reducible exact hP
  · with_reducible exact hD
-- copy
theorem d_M_copy_0 : decode b_M_copy 0 = .ok (.aload_n 0, 1) := by decide +kernel
theorem d_M_copy_1 : decode b_M_copy 1 = .ok (.getfield 7, 3) := by decide +kernel
theorem d_M_copy_4 : decode b_M_copy 4 = .ok (.iload_n 2, 1) := by decide +kernel
theorem d_M_copy_5 : decode b_M_copy 5 = .ok (.aload_n 0, 1) := by decide +kernel
theorem d_M_copy_6 : decode b_M_copy 6 = .ok (.getfield 7, 3) := by decide +kernel
theorem d_M_copy_9 : decode b_M_copy 9 = .ok (.iload_n 1, 1) := by decide +kernel
theorem d_M_copy_10 : decode b_M_copy 10 = .ok (.laload, 1) := by decide +kernel
theorem d_M_copy_11 : decode b_M_copy 11 = .ok (.lastore, 1) := by decide +kernel
theorem d_M_copy_12 : decode b_M_copy 12 = .ok (.aload_n 0, 1) := by decide +kernel
theorem d_M_copy_13 : decode b_M_copy 13 = .ok (.getfield 13, 3) := by decide +kernel
theorem d_M_copy_16 : decode b_M_copy 16 = .ok (.iload_n 2, 1) := by decide +kernel
theorem d_M_copy_17 : decode b_M_copy 17 = .ok (.aload_n 0, 1) := by decide +kernel
theorem d_M_copy_18 : decode b_M_copy 18 = .ok (.getfield 13, 3) := by decide +kernel
theorem d_M_copy_21 : decode b_M_copy 21 = .ok (.iload_n 1, 1) := by decide +kernel
theorem d_M_copy_22 : decode b_M_copy 22 = .ok (.laload, 1) := by decide +kernel
theorem d_M_copy_23 : decode b_M_copy 23 = .ok (.lastore, 1) := by decide +kernel
theorem d_M_copy_24 : decode b_M_copy 24 = .ok (.aload_n 0, 1) := by decide +kernel
theorem d_M_copy_25 : decode b_M_copy 25 = .ok (.getfield 16, 3) := by decide +kernel
theorem d_M_copy_28 : decode b_M_copy 28 = .ok (.iload_n 2, 1) := by decide +kernel
theorem d_M_copy_29 : decode b_M_copy 29 = .ok (.aload_n 0, 1) := by decide +kernel
theorem d_M_copy_30 : decode b_M_copy 30 = .ok (.getfield 16, 3) := by decide +kernel
theorem d_M_copy_33 : decode b_M_copy 33 = .ok (.iload_n 1, 1) := by decide +kernel
theorem d_M_copy_34 : decode b_M_copy 34 = .ok (.laload, 1) := by decide +kernel
theorem d_M_copy_35 : decode b_M_copy 35 = .ok (.lastore, 1) := by decide +kernel
theorem d_M_copy_36 : decode b_M_copy 36 = .ok (.aload_n 0, 1) := by decide +kernel
theorem d_M_copy_37 : decode b_M_copy 37 = .ok (.getfield 19, 3) := by decide +kernel
theorem d_M_copy_40 : decode b_M_copy 40 = .ok (.iload_n 2, 1) := by decide +kernel
theorem d_M_copy_41 : decode b_M_copy 41 = .ok (.aload_n 0, 1) := by decide +kernel
theorem d_M_copy_42 : decode b_M_copy 42 = .ok (.getfield 19, 3) := by decide +kernel
theorem d_M_copy_45 : decode b_M_copy 45 = .ok (.iload_n 1, 1) := by decide +kernel
theorem d_M_copy_46 : decode b_M_copy 46 = .ok (.laload, 1) := by decide +kernel
theorem d_M_copy_47 : decode b_M_copy 47 = .ok (.lastore, 1) := by decide +kernel
theorem d_M_copy_48 : decode b_M_copy 48 = .ok (.aload_n 0, 1) := by decide +kernel
theorem d_M_copy_49 : decode b_M_copy 49 = .ok (.getfield 22, 3) := by decide +kernel
theorem d_M_copy_52 : decode b_M_copy 52 = .ok (.iload_n 2, 1) := by decide +kernel
theorem d_M_copy_53 : decode b_M_copy 53 = .ok (.aload_n 0, 1) := by decide +kernel
theorem d_M_copy_54 : decode b_M_copy 54 = .ok (.getfield 22, 3) := by decide +kernel
theorem d_M_copy_57 : decode b_M_copy 57 = .ok (.iload_n 1, 1) := by decide +kernel
theorem d_M_copy_58 : decode b_M_copy 58 = .ok (.laload, 1) := by decide +kernel
theorem d_M_copy_59 : decode b_M_copy 59 = .ok (.lastore, 1) := by decide +kernel
theorem d_M_copy_60 : decode b_M_copy 60 = .ok (.aload_n 0, 1) := by decide +kernel
theorem d_M_copy_61 : decode b_M_copy 61 = .ok (.getfield 25, 3) := by decide +kernel
theorem d_M_copy_64 : decode b_M_copy 64 = .ok (.iload_n 2, 1) := by decide +kernel
theorem d_M_copy_65 : decode b_M_copy 65 = .ok (.aload_n 0, 1) := by decide +kernel
theorem d_M_copy_66 : decode b_M_copy 66 = .ok (.getfield 25, 3) := by decide +kernel
theorem d_M_copy_69 : decode b_M_copy 69 = .ok (.iload_n 1, 1) := by decide +kernel
theorem d_M_copy_70 : decode b_M_copy 70 = .ok (.laload, 1) := by decide +kernel
theorem d_M_copy_71 : decode b_M_copy 71 = .ok (.lastore, 1) := by decide +kernel
theorem d_M_copy_72 : decode b_M_copy 72 = .ok (.aload_n 0, 1) := by decide +kernel
theorem d_M_copy_73 : decode b_M_copy 73 = .ok (.getfield 28, 3) := by decide +kernel
theorem d_M_copy_76 : decode b_M_copy 76 = .ok (.iload_n 2, 1) := by decide +kernel
theorem d_M_copy_77 : decode b_M_copy 77 = .ok (.aload_n 0, 1) := by decide +kernel
theorem d_M_copy_78 : decode b_M_copy 78 = .ok (.getfield 28, 3) := by decide +kernel
theorem d_M_copy_81 : decode b_M_copy 81 = .ok (.iload_n 1, 1) := by decide +kernel
theorem d_M_copy_82 : decode b_M_copy 82 = .ok (.baload, 1) := by decide +kernel
theorem d_M_copy_83 : decode b_M_copy 83 = .ok (.bastore, 1) := by decide +kernel
theorem d_M_copy_84 : decode b_M_copy 84 = .ok (.return_, 1) := by decide +kernel
def f_M_copy_83u (r0 : (Nat → VV)) (p1 : Nat) (p2 : Nat) (r83n : (Nat → VV)) : (Nat → VV) := r83n
def f_M_copy_71u (r0 : (Nat → VV)) (p1 : Nat) (p2 : Nat) (r71n : (Nat → VV)) : (Nat → VV) := f_M_copy_83u r0 p1 p2 (u7 r71n p2 ((r71n p1).2.2.2.2.2.2))
def f_M_copy_59u (r0 : (Nat → VV)) (p1 : Nat) (p2 : Nat) (r59n : (Nat → VV)) : (Nat → VV) := f_M_copy_71u r0 p1 p2 (u6 r59n p2 ((r59n p1).2.2.2.2.2.1))
def f_M_copy_47u (r0 : (Nat → VV)) (p1 : Nat) (p2 : Nat) (r47n : (Nat → VV)) : (Nat → VV) := f_M_copy_59u r0 p1 p2 (u5 r47n p2 ((r47n p1).2.2.2.2.1))
def f_M_copy_35u (r0 : (Nat → VV)) (p1 : Nat) (p2 : Nat) (r35n : (Nat → VV)) : (Nat → VV) := f_M_copy_47u r0 p1 p2 (u4 r35n p2 ((r35n p1).2.2.2.1))
def f_M_copy_23u (r0 : (Nat → VV)) (p1 : Nat) (p2 : Nat) (r23n : (Nat → VV)) : (Nat → VV) := f_M_copy_35u r0 p1 p2 (u3 r23n p2 ((r23n p1).2.2.1))
def f_M_copy_11u (r0 : (Nat → VV)) (p1 : Nat) (p2 : Nat) (r11n : (Nat → VV)) : (Nat → VV) := f_M_copy_23u r0 p1 p2 (u2 r11n p2 ((r11n p1).2.1))
def f_M_copy (r0 : (Nat → VV)) (p1 : Nat) (p2 : Nat) : (Nat → VV) := f_M_copy_11u r0 p1 p2 (u1 r0 p2 ((r0 p1).1))
set_option maxRecDepth 100000 in
set_option maxHeartbeats 4000000 in
theorem c_M_copy (l : Launch) (dC : Nat → ClassId) (dI : Nat → Nat → Nat) (ad : Nat → Nat) (cJ cZ : ClassId) (sz : Nat) (c0 : Int32) (r0 : (Nat → VV)) (w0 : (Nat → Int64)) (s0 : Int32) (p1 : Nat) (p2 : Nat) (b1 : p1 < 24) (b2 : p2 < 24) : Met l y_M_copy w_M_copy ({ frames := 0, cells := 0, slots := 0, locals := 0 } : Room) (va_Pc [.ref (ad 0), .int (nI p1), .int (nI p2)] (nP (dC, dI) (mT cJ cZ) (mW ad cJ cZ c0 r0 w0 s0) sz)) (va_Qv (fun _ : Unit => True) (mB (dC, dI) (va_A (mW ad cJ cZ c0 r0 w0 s0) sz) (mW ad cJ cZ c0 (f_M_copy r0 p1 p2) w0 s0)) (va_A (mW ad cJ cZ c0 r0 w0 s0) sz)) 0 0 (va_A (mW ad cJ cZ c0 r0 w0 s0) sz) := by
  refine Met.ofW (cc := b_M_copy) (maxL := 3) (ret := none) (by decide) rfl ?_
  intro p e s m args below meth c s₁ B hml hv
  obtain ⟨rfl, hsz, hP, hK, hD0⟩ := hv
  have hx := B.exec
  have hb := B.bytes
  have hr := B.returns
  have hts := atoms_spec (ws := w_M_copy) B.pre
  have hG : ∀ w ∈ gM, w.before _ s = true := fun w h => hts w (List.mem_cons_of_mem _ h)
  have hown : s.vm.findClass R_M = some m.cls := findClass_of_methodNamed B.named
  have hlocks := B.notSynchronized
  subst hsz
  have hD := hD0.self (sz := s.heap.size)
  generalize hAe : va_A (mW ad cJ cZ c0 r0 w0 s0) s.heap.size = A at hD ⊢
  have hA : ∀ q : Nat, s.heap.size ≤ q → A q := fun q h => by rw [← hAe]; exact Or.inr h
  have hS : va_S A s.heap s.heap [] := va_S.rf
  have hl := lv_entry ([.ref (ad 0), .int (nI p1), .int (nI p2)]) (n := 3) (Nat.le_of_ble_eq_true rfl)
  rw [lg_entry_eq]
  generalize (lg_sl ([.ref (ad 0), .int (nI p1), .int (nI p2)]) ++ List.replicate (3 - (lg_sl ([.ref (ad 0), .int (nI p1), .int (nI p2)])).length) Slot.unset).toArray = ls at hl ⊢
  have hl : lv_has ls 3 [(0, .ref (ad 0)), (1, .int (nI p1)), (2, .int (nI p2))] := hl
  have K83u : ∀ (r83n : (Nat → VV)) (hj : f_M_copy r0 p1 p2 = f_M_copy_83u r0 p1 p2 r83n) (H : Heap) (locs : List Loc) (hP : va_P (dC, dI) classes (mW ad cJ cZ c0 r83n w0 s0) H) (hD : va_D A (mW ad cJ cZ c0 r83n w0 s0)) (hS : va_S A s.heap H locs) (ls : Array Slot) (hl : lv_has ls 3 []), W p l e (headSpec w_M_copy ({ frames := 0, cells := 0, slots := 0, locals := 0 } : Room)).room s m ([.ref (ad 0), .int (nI p1), .int (nI p2)] : List Value).toArray below meth c H locs 0 0 (MQ below (va_Qv (fun _ : Unit => True) (mB (dC, dI) A (mW ad cJ cZ c0 (f_M_copy r0 p1 p2) w0 s0)) A) ([.ref (ad 0), .int (nI p1), .int (nI p2)] : List Value).toArray s 0 0 A) (F0 m 84 ls []) := by
    intro r83n hj H locs hP hD hS ls hl
    have fe : f_M_copy r0 p1 p2 = r83n := hj.trans rfl
    exact W.vret hx hb hr (fun t ht hW => ⟨⟨(), rfl, trivial, by rw [ht, fe]; exact hP, by rw [fe]; exact hD⟩, hS.F ht⟩) hS.2.2 d_M_copy_84
  have K71u : ∀ (r71n : (Nat → VV)) (hj : f_M_copy r0 p1 p2 = f_M_copy_71u r0 p1 p2 r71n) (H : Heap) (locs : List Loc) (hP : va_P (dC, dI) classes (mW ad cJ cZ c0 r71n w0 s0) H) (hD : va_D A (mW ad cJ cZ c0 r71n w0 s0)) (hS : va_S A s.heap H locs) (ls : Array Slot) (hl : lv_has ls 3 [(0, .ref (ad 0)), (1, .int (nI p1)), (2, .int (nI p2))]), W p l e (headSpec w_M_copy ({ frames := 0, cells := 0, slots := 0, locals := 0 } : Room)).room s m ([.ref (ad 0), .int (nI p1), .int (nI p2)] : List Value).toArray below meth c H locs 0 0 (MQ below (va_Qv (fun _ : Unit => True) (mB (dC, dI) A (mW ad cJ cZ c0 (f_M_copy r0 p1 p2) w0 s0)) A) ([.ref (ad 0), .int (nI p1), .int (nI p2)] : List Value).toArray s 0 0 A) (F0 m 72 ls []) := by
    intro r71n hj H locs hP hD hS ls hl
    refine lv_aload_n hx hb d_M_copy_72 rfl (lv_at hl 0 rfl) ?_
    refine va_get (D := (dC, dI)) (ci := 2) (v := .ref (ad 7)) (C := R_M) (T := F_M) (N := 10) hx hb hts (fun w h => List.mem_cons_of_mem _ (uw_M w h)) hown hK hP 0 rfl rfl 7 (by decide) (hG (.fieldLink R_M 28 "ValueSieveModel" "empty" "[Z") gx16) (fun _ h9 => h9) rfl d_M_copy_73 ?_
    refine lv_iload_n hx hb d_M_copy_76 rfl (lv_at hl 2 rfl) ?_
    refine lv_aload_n hx hb d_M_copy_77 rfl (lv_at hl 0 rfl) ?_
    refine va_get (D := (dC, dI)) (ci := 2) (v := .ref (ad 7)) (C := R_M) (T := F_M) (N := 10) hx hb hts (fun w h => List.mem_cons_of_mem _ (uw_M w h)) hown hK hP 0 rfl rfl 7 (by decide) (hG (.fieldLink R_M 28 "ValueSieveModel" "empty" "[Z") gx16) (fun _ h9 => h9) rfl d_M_copy_78 ?_
    refine lv_iload_n hx hb d_M_copy_81 rfl (lv_at hl 1 rfl) ?_
    refine ml_7 (P := p1) hx hb hK hP rfl b1 d_M_copy_82 ?_
    refine ms_7 (P := p2) (x := (r71n p1).2.2.2.2.2.2) hx hb hK hP hD hS rfl b2 d_M_copy_83 (fun H locs hP hD hS => ?_)
    obtain ⟨r83n, er83n⟩ : ∃ z, z = u7 r71n p2 ((r71n p1).2.2.2.2.2.2) := ⟨_, rfl⟩
    rw [← er83n] at hP hD
    refine K83u r83n (Eq.trans (hj.trans rfl) (congrArg (fun r83n => f_M_copy_83u r0 p1 p2 r83n) er83n.symm)) H locs ?_ ?_ hS ls (lv_sub hl [] rfl)
    · with_reducible exact hP
    · with_reducible exact hD
  have K59u : ∀ (r59n : (Nat → VV)) (hj : f_M_copy r0 p1 p2 = f_M_copy_59u r0 p1 p2 r59n) (H : Heap) (locs : List Loc) (hP : va_P (dC, dI) classes (mW ad cJ cZ c0 r59n w0 s0) H) (hD : va_D A (mW ad cJ cZ c0 r59n w0 s0)) (hS : va_S A s.heap H locs) (ls : Array Slot) (hl : lv_has ls 3 [(0, .ref (ad 0)), (1, .int (nI p1)), (2, .int (nI p2))]), W p l e (headSpec w_M_copy ({ frames := 0, cells := 0, slots := 0, locals := 0 } : Room)).room s m ([.ref (ad 0), .int (nI p1), .int (nI p2)] : List Value).toArray below meth c H locs 0 0 (MQ below (va_Qv (fun _ : Unit => True) (mB (dC, dI) A (mW ad cJ cZ c0 (f_M_copy r0 p1 p2) w0 s0)) A) ([.ref (ad 0), .int (nI p1), .int (nI p2)] : List Value).toArray s 0 0 A) (F0 m 60 ls []) := by
    intro r59n hj H locs hP hD hS ls hl
    refine lv_aload_n hx hb d_M_copy_60 rfl (lv_at hl 0 rfl) ?_
    refine va_get (D := (dC, dI)) (ci := 2) (v := .ref (ad 6)) (C := R_M) (T := F_M) (N := 10) hx hb hts (fun w h => List.mem_cons_of_mem _ (uw_M w h)) hown hK hP 0 rfl rfl 6 (by decide) (hG (.fieldLink R_M 25 "ValueSieveModel" "greatest" "[J") gx15) (fun _ h9 => h9) rfl d_M_copy_61 ?_
    refine lv_iload_n hx hb d_M_copy_64 rfl (lv_at hl 2 rfl) ?_
    refine lv_aload_n hx hb d_M_copy_65 rfl (lv_at hl 0 rfl) ?_
    refine va_get (D := (dC, dI)) (ci := 2) (v := .ref (ad 6)) (C := R_M) (T := F_M) (N := 10) hx hb hts (fun w h => List.mem_cons_of_mem _ (uw_M w h)) hown hK hP 0 rfl rfl 6 (by decide) (hG (.fieldLink R_M 25 "ValueSieveModel" "greatest" "[J") gx15) (fun _ h9 => h9) rfl d_M_copy_66 ?_
    refine lv_iload_n hx hb d_M_copy_69 rfl (lv_at hl 1 rfl) ?_
    refine ml_6 (P := p1) hx hb hK hP rfl b1 d_M_copy_70 ?_
    refine ms_6 (P := p2) (x := (r59n p1).2.2.2.2.2.1) hx hb hK hP hD hS rfl b2 d_M_copy_71 (fun H locs hP hD hS => ?_)
    obtain ⟨r71n, er71n⟩ : ∃ z, z = u6 r59n p2 ((r59n p1).2.2.2.2.2.1) := ⟨_, rfl⟩
    rw [← er71n] at hP hD
    refine K71u r71n (Eq.trans (hj.trans rfl) (congrArg (fun r71n => f_M_copy_71u r0 p1 p2 r71n) er71n.symm)) H locs ?_ ?_ hS ls (lv_sub hl [0, 1, 2] rfl)
    · with_reducible exact hP
    · with_reducible exact hD
  have K47u : ∀ (r47n : (Nat → VV)) (hj : f_M_copy r0 p1 p2 = f_M_copy_47u r0 p1 p2 r47n) (H : Heap) (locs : List Loc) (hP : va_P (dC, dI) classes (mW ad cJ cZ c0 r47n w0 s0) H) (hD : va_D A (mW ad cJ cZ c0 r47n w0 s0)) (hS : va_S A s.heap H locs) (ls : Array Slot) (hl : lv_has ls 3 [(0, .ref (ad 0)), (1, .int (nI p1)), (2, .int (nI p2))]), W p l e (headSpec w_M_copy ({ frames := 0, cells := 0, slots := 0, locals := 0 } : Room)).room s m ([.ref (ad 0), .int (nI p1), .int (nI p2)] : List Value).toArray below meth c H locs 0 0 (MQ below (va_Qv (fun _ : Unit => True) (mB (dC, dI) A (mW ad cJ cZ c0 (f_M_copy r0 p1 p2) w0 s0)) A) ([.ref (ad 0), .int (nI p1), .int (nI p2)] : List Value).toArray s 0 0 A) (F0 m 48 ls []) := by
    intro r47n hj H locs hP hD hS ls hl
    refine lv_aload_n hx hb d_M_copy_48 rfl (lv_at hl 0 rfl) ?_
    refine va_get (D := (dC, dI)) (ci := 2) (v := .ref (ad 5)) (C := R_M) (T := F_M) (N := 10) hx hb hts (fun w h => List.mem_cons_of_mem _ (uw_M w h)) hown hK hP 0 rfl rfl 5 (by decide) (hG (.fieldLink R_M 22 "ValueSieveModel" "least" "[J") gx14) (fun _ h9 => h9) rfl d_M_copy_49 ?_
    refine lv_iload_n hx hb d_M_copy_52 rfl (lv_at hl 2 rfl) ?_
    refine lv_aload_n hx hb d_M_copy_53 rfl (lv_at hl 0 rfl) ?_
    refine va_get (D := (dC, dI)) (ci := 2) (v := .ref (ad 5)) (C := R_M) (T := F_M) (N := 10) hx hb hts (fun w h => List.mem_cons_of_mem _ (uw_M w h)) hown hK hP 0 rfl rfl 5 (by decide) (hG (.fieldLink R_M 22 "ValueSieveModel" "least" "[J") gx14) (fun _ h9 => h9) rfl d_M_copy_54 ?_
    refine lv_iload_n hx hb d_M_copy_57 rfl (lv_at hl 1 rfl) ?_
    refine ml_5 (P := p1) hx hb hK hP rfl b1 d_M_copy_58 ?_
    refine ms_5 (P := p2) (x := (r47n p1).2.2.2.2.1) hx hb hK hP hD hS rfl b2 d_M_copy_59 (fun H locs hP hD hS => ?_)
    obtain ⟨r59n, er59n⟩ : ∃ z, z = u5 r47n p2 ((r47n p1).2.2.2.2.1) := ⟨_, rfl⟩
    rw [← er59n] at hP hD
    refine K59u r59n (Eq.trans (hj.trans rfl) (congrArg (fun r59n => f_M_copy_59u r0 p1 p2 r59n) er59n.symm)) H locs ?_ ?_ hS ls (lv_sub hl [0, 1, 2] rfl)
    · with_reducible exact hP
    · with_reducible exact hD
  have K35u : ∀ (r35n : (Nat → VV)) (hj : f_M_copy r0 p1 p2 = f_M_copy_35u r0 p1 p2 r35n) (H : Heap) (locs : List Loc) (hP : va_P (dC, dI) classes (mW ad cJ cZ c0 r35n w0 s0) H) (hD : va_D A (mW ad cJ cZ c0 r35n w0 s0)) (hS : va_S A s.heap H locs) (ls : Array Slot) (hl : lv_has ls 3 [(0, .ref (ad 0)), (1, .int (nI p1)), (2, .int (nI p2))]), W p l e (headSpec w_M_copy ({ frames := 0, cells := 0, slots := 0, locals := 0 } : Room)).room s m ([.ref (ad 0), .int (nI p1), .int (nI p2)] : List Value).toArray below meth c H locs 0 0 (MQ below (va_Qv (fun _ : Unit => True) (mB (dC, dI) A (mW ad cJ cZ c0 (f_M_copy r0 p1 p2) w0 s0)) A) ([.ref (ad 0), .int (nI p1), .int (nI p2)] : List Value).toArray s 0 0 A) (F0 m 36 ls []) := by
    intro r35n hj H locs hP hD hS ls hl
    refine lv_aload_n hx hb d_M_copy_36 rfl (lv_at hl 0 rfl) ?_
    refine va_get (D := (dC, dI)) (ci := 2) (v := .ref (ad 4)) (C := R_M) (T := F_M) (N := 10) hx hb hts (fun w h => List.mem_cons_of_mem _ (uw_M w h)) hown hK hP 0 rfl rfl 4 (by decide) (hG (.fieldLink R_M 19 "ValueSieveModel" "high" "[J") gx13) (fun _ h9 => h9) rfl d_M_copy_37 ?_
    refine lv_iload_n hx hb d_M_copy_40 rfl (lv_at hl 2 rfl) ?_
    refine lv_aload_n hx hb d_M_copy_41 rfl (lv_at hl 0 rfl) ?_
    refine va_get (D := (dC, dI)) (ci := 2) (v := .ref (ad 4)) (C := R_M) (T := F_M) (N := 10) hx hb hts (fun w h => List.mem_cons_of_mem _ (uw_M w h)) hown hK hP 0 rfl rfl 4 (by decide) (hG (.fieldLink R_M 19 "ValueSieveModel" "high" "[J") gx13) (fun _ h9 => h9) rfl d_M_copy_42 ?_
    refine lv_iload_n hx hb d_M_copy_45 rfl (lv_at hl 1 rfl) ?_
    refine ml_4 (P := p1) hx hb hK hP rfl b1 d_M_copy_46 ?_
    refine ms_4 (P := p2) (x := (r35n p1).2.2.2.1) hx hb hK hP hD hS rfl b2 d_M_copy_47 (fun H locs hP hD hS => ?_)
    obtain ⟨r47n, er47n⟩ : ∃ z, z = u4 r35n p2 ((r35n p1).2.2.2.1) := ⟨_, rfl⟩
    rw [← er47n] at hP hD
    refine K47u r47n (Eq.trans (hj.trans rfl) (congrArg (fun r47n => f_M_copy_47u r0 p1 p2 r47n) er47n.symm)) H locs ?_ ?_ hS ls (lv_sub hl [0, 1, 2] rfl)
    · with_reducible exact hP
    · with_reducible exact hD
  have K23u : ∀ (r23n : (Nat → VV)) (hj : f_M_copy r0 p1 p2 = f_M_copy_23u r0 p1 p2 r23n) (H : Heap) (locs : List Loc) (hP : va_P (dC, dI) classes (mW ad cJ cZ c0 r23n w0 s0) H) (hD : va_D A (mW ad cJ cZ c0 r23n w0 s0)) (hS : va_S A s.heap H locs) (ls : Array Slot) (hl : lv_has ls 3 [(0, .ref (ad 0)), (1, .int (nI p1)), (2, .int (nI p2))]), W p l e (headSpec w_M_copy ({ frames := 0, cells := 0, slots := 0, locals := 0 } : Room)).room s m ([.ref (ad 0), .int (nI p1), .int (nI p2)] : List Value).toArray below meth c H locs 0 0 (MQ below (va_Qv (fun _ : Unit => True) (mB (dC, dI) A (mW ad cJ cZ c0 (f_M_copy r0 p1 p2) w0 s0)) A) ([.ref (ad 0), .int (nI p1), .int (nI p2)] : List Value).toArray s 0 0 A) (F0 m 24 ls []) := by
    intro r23n hj H locs hP hD hS ls hl
    refine lv_aload_n hx hb d_M_copy_24 rfl (lv_at hl 0 rfl) ?_
    refine va_get (D := (dC, dI)) (ci := 2) (v := .ref (ad 3)) (C := R_M) (T := F_M) (N := 10) hx hb hts (fun w h => List.mem_cons_of_mem _ (uw_M w h)) hown hK hP 0 rfl rfl 3 (by decide) (hG (.fieldLink R_M 16 "ValueSieveModel" "low" "[J") gx12) (fun _ h9 => h9) rfl d_M_copy_25 ?_
    refine lv_iload_n hx hb d_M_copy_28 rfl (lv_at hl 2 rfl) ?_
    refine lv_aload_n hx hb d_M_copy_29 rfl (lv_at hl 0 rfl) ?_
    refine va_get (D := (dC, dI)) (ci := 2) (v := .ref (ad 3)) (C := R_M) (T := F_M) (N := 10) hx hb hts (fun w h => List.mem_cons_of_mem _ (uw_M w h)) hown hK hP 0 rfl rfl 3 (by decide) (hG (.fieldLink R_M 16 "ValueSieveModel" "low" "[J") gx12) (fun _ h9 => h9) rfl d_M_copy_30 ?_
    refine lv_iload_n hx hb d_M_copy_33 rfl (lv_at hl 1 rfl) ?_
    refine ml_3 (P := p1) hx hb hK hP rfl b1 d_M_copy_34 ?_
    refine ms_3 (P := p2) (x := (r23n p1).2.2.1) hx hb hK hP hD hS rfl b2 d_M_copy_35 (fun H locs hP hD hS => ?_)
    obtain ⟨r35n, er35n⟩ : ∃ z, z = u3 r23n p2 ((r23n p1).2.2.1) := ⟨_, rfl⟩
    rw [← er35n] at hP hD
    refine K35u r35n (Eq.trans (hj.trans rfl) (congrArg (fun r35n => f_M_copy_35u r0 p1 p2 r35n) er35n.symm)) H locs ?_ ?_ hS ls (lv_sub hl [0, 1, 2] rfl)
    · with_reducible exact hP
    · with_reducible exact hD
  have K11u : ∀ (r11n : (Nat → VV)) (hj : f_M_copy r0 p1 p2 = f_M_copy_11u r0 p1 p2 r11n) (H : Heap) (locs : List Loc) (hP : va_P (dC, dI) classes (mW ad cJ cZ c0 r11n w0 s0) H) (hD : va_D A (mW ad cJ cZ c0 r11n w0 s0)) (hS : va_S A s.heap H locs) (ls : Array Slot) (hl : lv_has ls 3 [(0, .ref (ad 0)), (1, .int (nI p1)), (2, .int (nI p2))]), W p l e (headSpec w_M_copy ({ frames := 0, cells := 0, slots := 0, locals := 0 } : Room)).room s m ([.ref (ad 0), .int (nI p1), .int (nI p2)] : List Value).toArray below meth c H locs 0 0 (MQ below (va_Qv (fun _ : Unit => True) (mB (dC, dI) A (mW ad cJ cZ c0 (f_M_copy r0 p1 p2) w0 s0)) A) ([.ref (ad 0), .int (nI p1), .int (nI p2)] : List Value).toArray s 0 0 A) (F0 m 12 ls []) := by
    intro r11n hj H locs hP hD hS ls hl
    refine lv_aload_n hx hb d_M_copy_12 rfl (lv_at hl 0 rfl) ?_
    refine va_get (D := (dC, dI)) (ci := 2) (v := .ref (ad 2)) (C := R_M) (T := F_M) (N := 10) hx hb hts (fun w h => List.mem_cons_of_mem _ (uw_M w h)) hown hK hP 0 rfl rfl 2 (by decide) (hG (.fieldLink R_M 13 "ValueSieveModel" "open" "[J") gx11) (fun _ h9 => h9) rfl d_M_copy_13 ?_
    refine lv_iload_n hx hb d_M_copy_16 rfl (lv_at hl 2 rfl) ?_
    refine lv_aload_n hx hb d_M_copy_17 rfl (lv_at hl 0 rfl) ?_
    refine va_get (D := (dC, dI)) (ci := 2) (v := .ref (ad 2)) (C := R_M) (T := F_M) (N := 10) hx hb hts (fun w h => List.mem_cons_of_mem _ (uw_M w h)) hown hK hP 0 rfl rfl 2 (by decide) (hG (.fieldLink R_M 13 "ValueSieveModel" "open" "[J") gx11) (fun _ h9 => h9) rfl d_M_copy_18 ?_
    refine lv_iload_n hx hb d_M_copy_21 rfl (lv_at hl 1 rfl) ?_
    refine ml_2 (P := p1) hx hb hK hP rfl b1 d_M_copy_22 ?_
    refine ms_2 (P := p2) (x := (r11n p1).2.1) hx hb hK hP hD hS rfl b2 d_M_copy_23 (fun H locs hP hD hS => ?_)
    obtain ⟨r23n, er23n⟩ : ∃ z, z = u2 r11n p2 ((r11n p1).2.1) := ⟨_, rfl⟩
    rw [← er23n] at hP hD
    refine K23u r23n (Eq.trans (hj.trans rfl) (congrArg (fun r23n => f_M_copy_23u r0 p1 p2 r23n) er23n.symm)) H locs ?_ ?_ hS ls (lv_sub hl [0, 1, 2] rfl)
    · with_reducible exact hP
    · with_reducible exact hD
  refine lv_aload_n hx hb d_M_copy_0 rfl (lv_at hl 0 rfl) ?_
  refine va_get (D := (dC, dI)) (ci := 2) (v := .ref (ad 1)) (C := R_M) (T := F_M) (N := 10) hx hb hts (fun w h => List.mem_cons_of_mem _ (uw_M w h)) hown hK hP 0 rfl rfl 1 (by decide) (hG (.fieldLink R_M 7 "ValueSieveModel" "bits" "[J") gx10) (fun _ h9 => h9) rfl d_M_copy_1 ?_
  refine lv_iload_n hx hb d_M_copy_4 rfl (lv_at hl 2 rfl) ?_
  refine lv_aload_n hx hb d_M_copy_5 rfl (lv_at hl 0 rfl) ?_
  refine va_get (D := (dC, dI)) (ci := 2) (v := .ref (ad 1)) (C := R_M) (T := F_M) (N := 10) hx hb hts (fun w h => List.mem_cons_of_mem _ (uw_M w h)) hown hK hP 0 rfl rfl 1 (by decide) (hG (.fieldLink R_M 7 "ValueSieveModel" "bits" "[J") gx10) (fun _ h9 => h9) rfl d_M_copy_6 ?_
  refine lv_iload_n hx hb d_M_copy_9 rfl (lv_at hl 1 rfl) ?_
  refine ml_1 (P := p1) hx hb hK hP rfl b1 d_M_copy_10 ?_
  refine ms_1 (P := p2) (x := (r0 p1).1) hx hb hK hP hD hS rfl b2 d_M_copy_11 (fun H locs hP hD hS => ?_)
  obtain ⟨r11n, er11n⟩ : ∃ z, z = u1 r0 p2 ((r0 p1).1) := ⟨_, rfl⟩
  rw [← er11n] at hP hD
  refine K11u r11n (Eq.trans (rfl) (congrArg (fun r11n => f_M_copy_11u r0 p1 p2 r11n) er11n.symm)) H locs ?_ ?_ hS ls (lv_sub hl [0, 1, 2] rfl)
  · with_reducible exact hP
  · with_reducible exact hD
-- isNumber
theorem d_M_isNumber_0 : decode b_M_isNumber 0 = .ok (.aload_n 0, 1) := by decide +kernel
theorem d_M_isNumber_1 : decode b_M_isNumber 1 = .ok (.getfield 28, 3) := by decide +kernel
theorem d_M_isNumber_4 : decode b_M_isNumber 4 = .ok (.iload_n 1, 1) := by decide +kernel
theorem d_M_isNumber_5 : decode b_M_isNumber 5 = .ok (.baload, 1) := by decide +kernel
theorem d_M_isNumber_6 : decode b_M_isNumber 6 = .ok (.ifCond .ne 77, 3) := by decide +kernel
theorem d_M_isNumber_9 : decode b_M_isNumber 9 = .ok (.lload_n 2, 1) := by decide +kernel
theorem d_M_isNumber_10 : decode b_M_isNumber 10 = .ok (.aload_n 0, 1) := by decide +kernel
theorem d_M_isNumber_11 : decode b_M_isNumber 11 = .ok (.getfield 13, 3) := by decide +kernel
theorem d_M_isNumber_14 : decode b_M_isNumber 14 = .ok (.iload_n 1, 1) := by decide +kernel
theorem d_M_isNumber_15 : decode b_M_isNumber 15 = .ok (.laload, 1) := by decide +kernel
theorem d_M_isNumber_16 : decode b_M_isNumber 16 = .ok (.ldc2_w 49, 3) := by decide +kernel
theorem d_M_isNumber_19 : decode b_M_isNumber 19 = .ok (.lxor, 1) := by decide +kernel
theorem d_M_isNumber_20 : decode b_M_isNumber 20 = .ok (.land, 1) := by decide +kernel
theorem d_M_isNumber_21 : decode b_M_isNumber 21 = .ok (.aload_n 0, 1) := by decide +kernel
theorem d_M_isNumber_22 : decode b_M_isNumber 22 = .ok (.getfield 7, 3) := by decide +kernel
theorem d_M_isNumber_25 : decode b_M_isNumber 25 = .ok (.iload_n 1, 1) := by decide +kernel
theorem d_M_isNumber_26 : decode b_M_isNumber 26 = .ok (.laload, 1) := by decide +kernel
theorem d_M_isNumber_27 : decode b_M_isNumber 27 = .ok (.lcmp, 1) := by decide +kernel
theorem d_M_isNumber_28 : decode b_M_isNumber 28 = .ok (.ifCond .ne 55, 3) := by decide +kernel
theorem d_M_isNumber_31 : decode b_M_isNumber 31 = .ok (.lload_n 2, 1) := by decide +kernel
theorem d_M_isNumber_32 : decode b_M_isNumber 32 = .ok (.aload_n 0, 1) := by decide +kernel
theorem d_M_isNumber_33 : decode b_M_isNumber 33 = .ok (.getfield 16, 3) := by decide +kernel
theorem d_M_isNumber_36 : decode b_M_isNumber 36 = .ok (.iload_n 1, 1) := by decide +kernel
theorem d_M_isNumber_37 : decode b_M_isNumber 37 = .ok (.laload, 1) := by decide +kernel
theorem d_M_isNumber_38 : decode b_M_isNumber 38 = .ok (.invokestatic 39, 3) := by decide +kernel
theorem d_M_isNumber_41 : decode b_M_isNumber 41 = .ok (.ifCond .ne 42, 3) := by decide +kernel
theorem d_M_isNumber_44 : decode b_M_isNumber 44 = .ok (.aload_n 0, 1) := by decide +kernel
theorem d_M_isNumber_45 : decode b_M_isNumber 45 = .ok (.getfield 19, 3) := by decide +kernel
theorem d_M_isNumber_48 : decode b_M_isNumber 48 = .ok (.iload_n 1, 1) := by decide +kernel
theorem d_M_isNumber_49 : decode b_M_isNumber 49 = .ok (.laload, 1) := by decide +kernel
theorem d_M_isNumber_50 : decode b_M_isNumber 50 = .ok (.lload_n 2, 1) := by decide +kernel
theorem d_M_isNumber_51 : decode b_M_isNumber 51 = .ok (.invokestatic 39, 3) := by decide +kernel
theorem d_M_isNumber_54 : decode b_M_isNumber 54 = .ok (.ifCond .ne 29, 3) := by decide +kernel
theorem d_M_isNumber_57 : decode b_M_isNumber 57 = .ok (.lload_n 2, 1) := by decide +kernel
theorem d_M_isNumber_58 : decode b_M_isNumber 58 = .ok (.aload_n 0, 1) := by decide +kernel
theorem d_M_isNumber_59 : decode b_M_isNumber 59 = .ok (.getfield 22, 3) := by decide +kernel
theorem d_M_isNumber_62 : decode b_M_isNumber 62 = .ok (.iload_n 1, 1) := by decide +kernel
theorem d_M_isNumber_63 : decode b_M_isNumber 63 = .ok (.laload, 1) := by decide +kernel
theorem d_M_isNumber_64 : decode b_M_isNumber 64 = .ok (.lcmp, 1) := by decide +kernel
theorem d_M_isNumber_65 : decode b_M_isNumber 65 = .ok (.ifCond .lt 18, 3) := by decide +kernel
theorem d_M_isNumber_68 : decode b_M_isNumber 68 = .ok (.lload_n 2, 1) := by decide +kernel
theorem d_M_isNumber_69 : decode b_M_isNumber 69 = .ok (.aload_n 0, 1) := by decide +kernel
theorem d_M_isNumber_70 : decode b_M_isNumber 70 = .ok (.getfield 25, 3) := by decide +kernel
theorem d_M_isNumber_73 : decode b_M_isNumber 73 = .ok (.iload_n 1, 1) := by decide +kernel
theorem d_M_isNumber_74 : decode b_M_isNumber 74 = .ok (.laload, 1) := by decide +kernel
theorem d_M_isNumber_75 : decode b_M_isNumber 75 = .ok (.lcmp, 1) := by decide +kernel
theorem d_M_isNumber_76 : decode b_M_isNumber 76 = .ok (.ifCond .gt 7, 3) := by decide +kernel
theorem d_M_isNumber_79 : decode b_M_isNumber 79 = .ok (.iconst 1, 1) := by decide +kernel
theorem d_M_isNumber_80 : decode b_M_isNumber 80 = .ok (.goto 4, 3) := by decide +kernel
theorem d_M_isNumber_83 : decode b_M_isNumber 83 = .ok (.iconst 0, 1) := by decide +kernel
theorem d_M_isNumber_84 : decode b_M_isNumber 84 = .ok (.ireturn, 1) := by decide +kernel
def f_M_isNumber_83 (r0 : (Nat → VV)) (p1 : Nat) (p2 : Int64) : Bool := false
def f_M_isNumber (r0 : (Nat → VV)) (p1 : Nat) (p2 : Int64) : Bool := (if ((r0 p1).2.2.2.2.2.2) = true then f_M_isNumber_83 r0 p1 p2 else (if (p2 &&& (((r0 p1).2.1) ^^^ (-1 : Int64))) = ((r0 p1).1) then (if (f_M_below p2 ((r0 p1).2.2.1)) = true then f_M_isNumber_83 r0 p1 p2 else (if (f_M_below ((r0 p1).2.2.2.1) p2) = true then f_M_isNumber_83 r0 p1 p2 else (if p2 < ((r0 p1).2.2.2.2.1) then f_M_isNumber_83 r0 p1 p2 else (if ((r0 p1).2.2.2.2.2.1) < p2 then f_M_isNumber_83 r0 p1 p2 else true)))) else f_M_isNumber_83 r0 p1 p2))
set_option maxRecDepth 100000 in
set_option maxHeartbeats 4000000 in
theorem c_M_isNumber (l : Launch) (dC : Nat → ClassId) (dI : Nat → Nat → Nat) (ad : Nat → Nat) (cJ cZ : ClassId) (c0 : Int32) (r0 : (Nat → VV)) (w0 : (Nat → Int64)) (s0 : Int32) (p1 : Nat) (p2 : Int64) (b1 : p1 < 24) : Met l y_M_isNumber w_M_isNumber ({ frames := 1, cells := 0, slots := 0, locals := 23 } : Room) (va_Pc [.ref (ad 0), .int (nI p1), .long (p2)] (nR (dC, dI) (mT cJ cZ) (mW ad cJ cZ c0 r0 w0 s0))) (vp_Si (fun r => r = bI (f_M_isNumber r0 p1 p2))) 0 0 (fun _ => False) := by
  refine Met.ofW (cc := b_M_isNumber) (maxL := 4) (ret := (some .boolean)) (by decide) rfl ?_
  intro p e s m args below meth c s₁ B hml hv
  obtain ⟨rfl, hP, hK⟩ := hv
  have hx := B.exec
  have hb := B.bytes
  have hr := B.returns
  have hts := atoms_spec (ws := w_M_isNumber) B.pre
  have hG : ∀ w ∈ gM, w.before _ s = true := fun w h => hts w (List.mem_cons_of_mem _ h)
  have hown : s.vm.findClass R_M = some m.cls := findClass_of_methodNamed B.named
  have hlocks := B.notSynchronized
  have hl := lv_entry ([.ref (ad 0), .int (nI p1), .long (p2)]) (n := 4) (Nat.le_of_ble_eq_true rfl)
  rw [lg_entry_eq]
  generalize (lg_sl ([.ref (ad 0), .int (nI p1), .long (p2)]) ++ List.replicate (4 - (lg_sl ([.ref (ad 0), .int (nI p1), .long (p2)])).length) Slot.unset).toArray = ls at hl ⊢
  have hl : lv_has ls 4 [(0, .ref (ad 0)), (1, .int (nI p1)), (2, .long (p2))] := hl
  have K83 : ∀ (hj : f_M_isNumber r0 p1 p2 = f_M_isNumber_83 r0 p1 p2) (ls : Array Slot) (hl : lv_has ls 4 []), W p l e (headSpec w_M_isNumber ({ frames := 1, cells := 0, slots := 0, locals := 23 } : Room)).room s m ([.ref (ad 0), .int (nI p1), .long (p2)] : List Value).toArray below meth c s.heap [] 0 0 (MQ below (vp_Si (fun r => r = bI (f_M_isNumber r0 p1 p2))) ([.ref (ad 0), .int (nI p1), .long (p2)] : List Value).toArray s 0 0 (fun _ => False)) (F0 m 83 ls []) := by
    intro hj ls hl
    refine lv_iconst (v := 0) hx hb d_M_isNumber_83 (by decide) ?_
    have fe : f_M_isNumber r0 p1 p2 = false := hj.trans rfl
    exact W.zret (v := bI false) hx hb hr (bI_n false) (fun t ht hW => ⟨_, rfl, by rw [fe], ht⟩) t_nil d_M_isNumber_84
  refine lv_aload_n hx hb d_M_isNumber_0 rfl (lv_at hl 0 rfl) ?_
  refine va_get (D := (dC, dI)) (ci := 2) (v := .ref (ad 7)) (C := R_M) (T := F_M) (N := 10) hx hb hts (fun w h => List.mem_cons_of_mem _ (uw_M w h)) hown hK hP 0 rfl rfl 7 (by decide) (hG (.fieldLink R_M 28 "ValueSieveModel" "empty" "[Z") gx16) (fun _ h9 => h9) rfl d_M_isNumber_1 ?_
  refine lv_iload_n hx hb d_M_isNumber_4 rfl (lv_at hl 1 rfl) ?_
  refine ml_7 (P := p1) hx hb hK hP rfl b1 d_M_isNumber_5 ?_
  refine wz_ne (tgt := 83) hx hb d_M_isNumber_6 (by decide) (fun e1_83 => ?_) (fun e1_83 => ?_)
  · exact K83 (by unfold f_M_isNumber; first | with_reducible exact if_pos e1_83 | exact if_pos e1_83) ls (lv_sub hl [] rfl)
  · refine lv_lload_n hx hb d_M_isNumber_9 rfl (lv_at hl 2 rfl) ?_
    refine lv_aload_n hx hb d_M_isNumber_10 rfl (lv_at hl 0 rfl) ?_
    refine va_get (D := (dC, dI)) (ci := 2) (v := .ref (ad 2)) (C := R_M) (T := F_M) (N := 10) hx hb hts (fun w h => List.mem_cons_of_mem _ (uw_M w h)) hown hK hP 0 rfl rfl 2 (by decide) (hG (.fieldLink R_M 13 "ValueSieveModel" "open" "[J") gx11) (fun _ h9 => h9) rfl d_M_isNumber_11 ?_
    refine lv_iload_n hx hb d_M_isNumber_14 rfl (lv_at hl 1 rfl) ?_
    refine ml_2 (P := p1) hx hb hK hP rfl b1 d_M_isNumber_15 ?_
    refine lv_ldc2 (v := -1) hx hb hown (hG (.constantLong R_M 49 (-1)) gx42) d_M_isNumber_16 ?_
    refine lv_lxor hx hb d_M_isNumber_19 ?_
    refine lv_land hx hb d_M_isNumber_20 ?_
    refine lv_aload_n hx hb d_M_isNumber_21 rfl (lv_at hl 0 rfl) ?_
    refine va_get (D := (dC, dI)) (ci := 2) (v := .ref (ad 1)) (C := R_M) (T := F_M) (N := 10) hx hb hts (fun w h => List.mem_cons_of_mem _ (uw_M w h)) hown hK hP 0 rfl rfl 1 (by decide) (hG (.fieldLink R_M 7 "ValueSieveModel" "bits" "[J") gx10) (fun _ h9 => h9) rfl d_M_isNumber_22 ?_
    refine lv_iload_n hx hb d_M_isNumber_25 rfl (lv_at hl 1 rfl) ?_
    refine ml_1 (P := p1) hx hb hK hP rfl b1 d_M_isNumber_26 ?_
    refine wl_ne (tgt := 83) hx hb d_M_isNumber_27 d_M_isNumber_28 (by decide) (fun e2_83 => ?_) (fun e2_83 => ?_)
    · exact K83 (by unfold f_M_isNumber; first | with_reducible exact (if_neg e1_83).trans (if_neg e2_83) | exact (if_neg e1_83).trans (if_neg e2_83)) ls (lv_sub hl [] rfl)
    · refine lv_lload_n hx hb d_M_isNumber_31 rfl (lv_at hl 2 rfl) ?_
      refine lv_aload_n hx hb d_M_isNumber_32 rfl (lv_at hl 0 rfl) ?_
      refine va_get (D := (dC, dI)) (ci := 2) (v := .ref (ad 3)) (C := R_M) (T := F_M) (N := 10) hx hb hts (fun w h => List.mem_cons_of_mem _ (uw_M w h)) hown hK hP 0 rfl rfl 3 (by decide) (hG (.fieldLink R_M 16 "ValueSieveModel" "low" "[J") gx12) (fun _ h9 => h9) rfl d_M_isNumber_33 ?_
      refine lv_iload_n hx hb d_M_isNumber_36 rfl (lv_at hl 1 rfl) ?_
      refine ml_3 (P := p1) hx hb hK hP rfl b1 d_M_isNumber_37 ?_
      refine rc_i (W.runS (As := [.long (p2), .long ((r0 p1).2.2.1)]) (rest := []) ⟨hx, hb, hml, hown, hts⟩ (c_M_below l p2 ((r0 p1).2.2.1)) (va_cwS 2 hts (gxS gx57 gx58 gx0 gx59) rfl rfl rfl (by decide +kernel) ⟨(Nat.le_of_ble_eq_true rfl), (Nat.le_of_ble_eq_true rfl)⟩) ⟨bl0, fun U hU hW => ⟨rfl, trivial⟩⟩ rfl rfl hl.1 rfl (lv_room (Nat.le_of_ble_eq_true rfl)) d_M_isNumber_38 ⟨Nat.zero_le _, Nat.zero_le _⟩) ?_
      refine wz_ne (tgt := 83) hx hb d_M_isNumber_41 (by decide) (fun e3_83 => ?_) (fun e3_83 => ?_)
      · exact K83 (by unfold f_M_isNumber; first | with_reducible exact (if_neg e1_83).trans ((if_pos e2_83).trans (if_pos e3_83)) | exact (if_neg e1_83).trans ((if_pos e2_83).trans (if_pos e3_83))) ls (lv_sub hl [] rfl)
      · refine lv_aload_n hx hb d_M_isNumber_44 rfl (lv_at hl 0 rfl) ?_
        refine va_get (D := (dC, dI)) (ci := 2) (v := .ref (ad 4)) (C := R_M) (T := F_M) (N := 10) hx hb hts (fun w h => List.mem_cons_of_mem _ (uw_M w h)) hown hK hP 0 rfl rfl 4 (by decide) (hG (.fieldLink R_M 19 "ValueSieveModel" "high" "[J") gx13) (fun _ h9 => h9) rfl d_M_isNumber_45 ?_
        refine lv_iload_n hx hb d_M_isNumber_48 rfl (lv_at hl 1 rfl) ?_
        refine ml_4 (P := p1) hx hb hK hP rfl b1 d_M_isNumber_49 ?_
        refine lv_lload_n hx hb d_M_isNumber_50 rfl (lv_at hl 2 rfl) ?_
        refine rc_i (W.runS (As := [.long ((r0 p1).2.2.2.1), .long (p2)]) (rest := []) ⟨hx, hb, hml, hown, hts⟩ (c_M_below l ((r0 p1).2.2.2.1) p2) (va_cwS 2 hts (gxS gx57 gx58 gx0 gx59) rfl rfl rfl (by decide +kernel) ⟨(Nat.le_of_ble_eq_true rfl), (Nat.le_of_ble_eq_true rfl)⟩) ⟨bl0, fun U hU hW => ⟨rfl, trivial⟩⟩ rfl rfl hl.1 rfl (lv_room (Nat.le_of_ble_eq_true rfl)) d_M_isNumber_51 ⟨Nat.zero_le _, Nat.zero_le _⟩) ?_
        refine wz_ne (tgt := 83) hx hb d_M_isNumber_54 (by decide) (fun e4_83 => ?_) (fun e4_83 => ?_)
        · exact K83 (by unfold f_M_isNumber; first | with_reducible exact (if_neg e1_83).trans ((if_pos e2_83).trans ((if_neg e3_83).trans (if_pos e4_83))) | exact (if_neg e1_83).trans ((if_pos e2_83).trans ((if_neg e3_83).trans (if_pos e4_83)))) ls (lv_sub hl [] rfl)
        · refine lv_lload_n hx hb d_M_isNumber_57 rfl (lv_at hl 2 rfl) ?_
          refine lv_aload_n hx hb d_M_isNumber_58 rfl (lv_at hl 0 rfl) ?_
          refine va_get (D := (dC, dI)) (ci := 2) (v := .ref (ad 5)) (C := R_M) (T := F_M) (N := 10) hx hb hts (fun w h => List.mem_cons_of_mem _ (uw_M w h)) hown hK hP 0 rfl rfl 5 (by decide) (hG (.fieldLink R_M 22 "ValueSieveModel" "least" "[J") gx14) (fun _ h9 => h9) rfl d_M_isNumber_59 ?_
          refine lv_iload_n hx hb d_M_isNumber_62 rfl (lv_at hl 1 rfl) ?_
          refine ml_5 (P := p1) hx hb hK hP rfl b1 d_M_isNumber_63 ?_
          refine wl_lt (tgt := 83) hx hb d_M_isNumber_64 d_M_isNumber_65 (by decide) (fun e5_83 => ?_) (fun e5_83 => ?_)
          · exact K83 (by unfold f_M_isNumber; first | with_reducible exact (if_neg e1_83).trans ((if_pos e2_83).trans ((if_neg e3_83).trans ((if_neg e4_83).trans (if_pos e5_83)))) | exact (if_neg e1_83).trans ((if_pos e2_83).trans ((if_neg e3_83).trans ((if_neg e4_83).trans (if_pos e5_83))))) ls (lv_sub hl [] rfl)
          · refine lv_lload_n hx hb d_M_isNumber_68 rfl (lv_at hl 2 rfl) ?_
            refine lv_aload_n hx hb d_M_isNumber_69 rfl (lv_at hl 0 rfl) ?_
            refine va_get (D := (dC, dI)) (ci := 2) (v := .ref (ad 6)) (C := R_M) (T := F_M) (N := 10) hx hb hts (fun w h => List.mem_cons_of_mem _ (uw_M w h)) hown hK hP 0 rfl rfl 6 (by decide) (hG (.fieldLink R_M 25 "ValueSieveModel" "greatest" "[J") gx15) (fun _ h9 => h9) rfl d_M_isNumber_70 ?_
            refine lv_iload_n hx hb d_M_isNumber_73 rfl (lv_at hl 1 rfl) ?_
            refine ml_6 (P := p1) hx hb hK hP rfl b1 d_M_isNumber_74 ?_
            refine wl_gt (tgt := 83) hx hb d_M_isNumber_75 d_M_isNumber_76 (by decide) (fun e6_83 => ?_) (fun e6_83 => ?_)
            · exact K83 (by unfold f_M_isNumber; first | with_reducible exact (if_neg e1_83).trans ((if_pos e2_83).trans ((if_neg e3_83).trans ((if_neg e4_83).trans ((if_neg e5_83).trans (if_pos e6_83))))) | exact (if_neg e1_83).trans ((if_pos e2_83).trans ((if_neg e3_83).trans ((if_neg e4_83).trans ((if_neg e5_83).trans (if_pos e6_83)))))) ls (lv_sub hl [] rfl)
            · refine lv_iconst (v := 1) hx hb d_M_isNumber_79 (by decide) ?_
              refine lv_goto (tgt := 84) hx hb d_M_isNumber_80 (by decide) ?_
              have fe : f_M_isNumber r0 p1 p2 = true := by unfold f_M_isNumber; first | with_reducible exact (if_neg e1_83).trans ((if_pos e2_83).trans ((if_neg e3_83).trans ((if_neg e4_83).trans ((if_neg e5_83).trans (if_neg e6_83))))) | exact (if_neg e1_83).trans ((if_pos e2_83).trans ((if_neg e3_83).trans ((if_neg e4_83).trans ((if_neg e5_83).trans (if_neg e6_83)))))
              exact W.zret (v := bI true) hx hb hr (bI_n true) (fun t ht hW => ⟨_, rfl, by rw [fe], ht⟩) t_nil d_M_isNumber_84
-- isSingle
theorem d_M_isSingle_0 : decode b_M_isSingle 0 = .ok (.aload_n 0, 1) := by decide +kernel
theorem d_M_isSingle_1 : decode b_M_isSingle 1 = .ok (.getfield 16, 3) := by decide +kernel
theorem d_M_isSingle_4 : decode b_M_isSingle 4 = .ok (.iload_n 1, 1) := by decide +kernel
theorem d_M_isSingle_5 : decode b_M_isSingle 5 = .ok (.laload, 1) := by decide +kernel
theorem d_M_isSingle_6 : decode b_M_isSingle 6 = .ok (.aload_n 0, 1) := by decide +kernel
theorem d_M_isSingle_7 : decode b_M_isSingle 7 = .ok (.getfield 19, 3) := by decide +kernel
theorem d_M_isSingle_10 : decode b_M_isSingle 10 = .ok (.iload_n 1, 1) := by decide +kernel
theorem d_M_isSingle_11 : decode b_M_isSingle 11 = .ok (.laload, 1) := by decide +kernel
theorem d_M_isSingle_12 : decode b_M_isSingle 12 = .ok (.lcmp, 1) := by decide +kernel
theorem d_M_isSingle_13 : decode b_M_isSingle 13 = .ok (.ifCond .ne 7, 3) := by decide +kernel
theorem d_M_isSingle_16 : decode b_M_isSingle 16 = .ok (.iconst 1, 1) := by decide +kernel
theorem d_M_isSingle_17 : decode b_M_isSingle 17 = .ok (.goto 4, 3) := by decide +kernel
theorem d_M_isSingle_20 : decode b_M_isSingle 20 = .ok (.iconst 0, 1) := by decide +kernel
theorem d_M_isSingle_21 : decode b_M_isSingle 21 = .ok (.ireturn, 1) := by decide +kernel
def f_M_isSingle (r0 : (Nat → VV)) (p1 : Nat) : Bool := (if ((r0 p1).2.2.1) = ((r0 p1).2.2.2.1) then true else false)
set_option maxRecDepth 100000 in
set_option maxHeartbeats 4000000 in
theorem c_M_isSingle (l : Launch) (dC : Nat → ClassId) (dI : Nat → Nat → Nat) (ad : Nat → Nat) (cJ cZ : ClassId) (c0 : Int32) (r0 : (Nat → VV)) (w0 : (Nat → Int64)) (s0 : Int32) (p1 : Nat) (b1 : p1 < 24) : Met l y_M_isSingle w_M_isSingle ({ frames := 0, cells := 0, slots := 0, locals := 0 } : Room) (va_Pc [.ref (ad 0), .int (nI p1)] (nR (dC, dI) (mT cJ cZ) (mW ad cJ cZ c0 r0 w0 s0))) (vp_Si (fun r => r = bI (f_M_isSingle r0 p1))) 0 0 (fun _ => False) := by
  refine Met.ofW (cc := b_M_isSingle) (maxL := 2) (ret := (some .boolean)) (by decide) rfl ?_
  intro p e s m args below meth c s₁ B hml hv
  obtain ⟨rfl, hP, hK⟩ := hv
  have hx := B.exec
  have hb := B.bytes
  have hr := B.returns
  have hts := atoms_spec (ws := w_M_isSingle) B.pre
  have hG : ∀ w ∈ gM, w.before _ s = true := fun w h => hts w (List.mem_cons_of_mem _ h)
  have hown : s.vm.findClass R_M = some m.cls := findClass_of_methodNamed B.named
  have hlocks := B.notSynchronized
  have hl := lv_entry ([.ref (ad 0), .int (nI p1)]) (n := 2) (Nat.le_of_ble_eq_true rfl)
  rw [lg_entry_eq]
  generalize (lg_sl ([.ref (ad 0), .int (nI p1)]) ++ List.replicate (2 - (lg_sl ([.ref (ad 0), .int (nI p1)])).length) Slot.unset).toArray = ls at hl ⊢
  have hl : lv_has ls 2 [(0, .ref (ad 0)), (1, .int (nI p1))] := hl
  refine lv_aload_n hx hb d_M_isSingle_0 rfl (lv_at hl 0 rfl) ?_
  refine va_get (D := (dC, dI)) (ci := 2) (v := .ref (ad 3)) (C := R_M) (T := F_M) (N := 10) hx hb hts (fun w h => List.mem_cons_of_mem _ (uw_M w h)) hown hK hP 0 rfl rfl 3 (by decide) (hG (.fieldLink R_M 16 "ValueSieveModel" "low" "[J") gx12) (fun _ h9 => h9) rfl d_M_isSingle_1 ?_
  refine lv_iload_n hx hb d_M_isSingle_4 rfl (lv_at hl 1 rfl) ?_
  refine ml_3 (P := p1) hx hb hK hP rfl b1 d_M_isSingle_5 ?_
  refine lv_aload_n hx hb d_M_isSingle_6 rfl (lv_at hl 0 rfl) ?_
  refine va_get (D := (dC, dI)) (ci := 2) (v := .ref (ad 4)) (C := R_M) (T := F_M) (N := 10) hx hb hts (fun w h => List.mem_cons_of_mem _ (uw_M w h)) hown hK hP 0 rfl rfl 4 (by decide) (hG (.fieldLink R_M 19 "ValueSieveModel" "high" "[J") gx13) (fun _ h9 => h9) rfl d_M_isSingle_7 ?_
  refine lv_iload_n hx hb d_M_isSingle_10 rfl (lv_at hl 1 rfl) ?_
  refine ml_4 (P := p1) hx hb hK hP rfl b1 d_M_isSingle_11 ?_
  refine wl_ne (tgt := 20) hx hb d_M_isSingle_12 d_M_isSingle_13 (by decide) (fun e1_20 => ?_) (fun e1_20 => ?_)
  · refine lv_iconst (v := 0) hx hb d_M_isSingle_20 (by decide) ?_
    have fe : f_M_isSingle r0 p1 = false := by unfold f_M_isSingle; first | with_reducible exact if_neg e1_20 | exact if_neg e1_20
    exact W.zret (v := bI false) hx hb hr (bI_n false) (fun t ht hW => ⟨_, rfl, by rw [fe], ht⟩) t_nil d_M_isSingle_21
  · refine lv_iconst (v := 1) hx hb d_M_isSingle_16 (by decide) ?_
    refine lv_goto (tgt := 21) hx hb d_M_isSingle_17 (by decide) ?_
    have fe : f_M_isSingle r0 p1 = true := by unfold f_M_isSingle; first | with_reducible exact if_pos e1_20 | exact if_pos e1_20
    exact W.zret (v := bI true) hx hb hr (bI_n true) (fun t ht hW => ⟨_, rfl, by rw [fe], ht⟩) t_nil d_M_isSingle_21
-- end
theorem d_M_end__0 : decode b_M_end_ 0 = .ok (.iload 6, 2) := by decide +kernel
theorem d_M_end__2 : decode b_M_end_ 2 = .ok (.ifCond .eq 9, 3) := by decide +kernel
theorem d_M_end__5 : decode b_M_end_ 5 = .ok (.ldc2_w 54, 3) := by decide +kernel
theorem d_M_end__8 : decode b_M_end_ 8 = .ok (.goto 4, 3) := by decide +kernel
theorem d_M_end__11 : decode b_M_end_ 11 = .ok (.lconst 0, 1) := by decide +kernel
theorem d_M_end__12 : decode b_M_end_ 12 = .ok (.lstore 8, 2) := by decide +kernel
theorem d_M_end__14 : decode b_M_end_ 14 = .ok (.aload_n 0, 1) := by decide +kernel
theorem d_M_end__15 : decode b_M_end_ 15 = .ok (.getfield 16, 3) := by decide +kernel
theorem d_M_end__18 : decode b_M_end_ 18 = .ok (.iload_n 1, 1) := by decide +kernel
theorem d_M_end__19 : decode b_M_end_ 19 = .ok (.laload, 1) := by decide +kernel
theorem d_M_end__20 : decode b_M_end_ 20 = .ok (.lload 8, 2) := by decide +kernel
theorem d_M_end__22 : decode b_M_end_ 22 = .ok (.invokestatic 58, 3) := by decide +kernel
theorem d_M_end__25 : decode b_M_end_ 25 = .ok (.iload 6, 2) := by decide +kernel
theorem d_M_end__27 : decode b_M_end_ 27 = .ok (.aload_n 0, 1) := by decide +kernel
theorem d_M_end__28 : decode b_M_end_ 28 = .ok (.getfield 22, 3) := by decide +kernel
theorem d_M_end__31 : decode b_M_end_ 31 = .ok (.iload_n 1, 1) := by decide +kernel
theorem d_M_end__32 : decode b_M_end_ 32 = .ok (.laload, 1) := by decide +kernel
theorem d_M_end__33 : decode b_M_end_ 33 = .ok (.lconst 0, 1) := by decide +kernel
theorem d_M_end__34 : decode b_M_end_ 34 = .ok (.lcmp, 1) := by decide +kernel
theorem d_M_end__35 : decode b_M_end_ 35 = .ok (.ifCond .ge 7, 3) := by decide +kernel
theorem d_M_end__38 : decode b_M_end_ 38 = .ok (.iconst 1, 1) := by decide +kernel
theorem d_M_end__39 : decode b_M_end_ 39 = .ok (.goto 4, 3) := by decide +kernel
theorem d_M_end__42 : decode b_M_end_ 42 = .ok (.iconst 0, 1) := by decide +kernel
theorem d_M_end__43 : decode b_M_end_ 43 = .ok (.if_icmp .ne 12, 3) := by decide +kernel
theorem d_M_end__46 : decode b_M_end_ 46 = .ok (.aload_n 0, 1) := by decide +kernel
theorem d_M_end__47 : decode b_M_end_ 47 = .ok (.getfield 22, 3) := by decide +kernel
theorem d_M_end__50 : decode b_M_end_ 50 = .ok (.iload_n 1, 1) := by decide +kernel
theorem d_M_end__51 : decode b_M_end_ 51 = .ok (.laload, 1) := by decide +kernel
theorem d_M_end__52 : decode b_M_end_ 52 = .ok (.goto 5, 3) := by decide +kernel
theorem d_M_end__55 : decode b_M_end_ 55 = .ok (.lload 8, 2) := by decide +kernel
theorem d_M_end__57 : decode b_M_end_ 57 = .ok (.invokestatic 58, 3) := by decide +kernel
theorem d_M_end__60 : decode b_M_end_ 60 = .ok (.lstore 10, 2) := by decide +kernel
theorem d_M_end__62 : decode b_M_end_ 62 = .ok (.aload_n 0, 1) := by decide +kernel
theorem d_M_end__63 : decode b_M_end_ 63 = .ok (.getfield 19, 3) := by decide +kernel
theorem d_M_end__66 : decode b_M_end_ 66 = .ok (.iload_n 1, 1) := by decide +kernel
theorem d_M_end__67 : decode b_M_end_ 67 = .ok (.laload, 1) := by decide +kernel
theorem d_M_end__68 : decode b_M_end_ 68 = .ok (.iload 6, 2) := by decide +kernel
theorem d_M_end__70 : decode b_M_end_ 70 = .ok (.ifCond .eq 9, 3) := by decide +kernel
theorem d_M_end__73 : decode b_M_end_ 73 = .ok (.ldc2_w 49, 3) := by decide +kernel
theorem d_M_end__76 : decode b_M_end_ 76 = .ok (.goto 6, 3) := by decide +kernel
theorem d_M_end__79 : decode b_M_end_ 79 = .ok (.ldc2_w 56, 3) := by decide +kernel
theorem d_M_end__82 : decode b_M_end_ 82 = .ok (.invokestatic 61, 3) := by decide +kernel
theorem d_M_end__85 : decode b_M_end_ 85 = .ok (.iload 6, 2) := by decide +kernel
theorem d_M_end__87 : decode b_M_end_ 87 = .ok (.aload_n 0, 1) := by decide +kernel
theorem d_M_end__88 : decode b_M_end_ 88 = .ok (.getfield 25, 3) := by decide +kernel
theorem d_M_end__91 : decode b_M_end_ 91 = .ok (.iload_n 1, 1) := by decide +kernel
theorem d_M_end__92 : decode b_M_end_ 92 = .ok (.laload, 1) := by decide +kernel
theorem d_M_end__93 : decode b_M_end_ 93 = .ok (.lconst 0, 1) := by decide +kernel
theorem d_M_end__94 : decode b_M_end_ 94 = .ok (.lcmp, 1) := by decide +kernel
theorem d_M_end__95 : decode b_M_end_ 95 = .ok (.ifCond .ge 7, 3) := by decide +kernel
theorem d_M_end__98 : decode b_M_end_ 98 = .ok (.iconst 1, 1) := by decide +kernel
theorem d_M_end__99 : decode b_M_end_ 99 = .ok (.goto 4, 3) := by decide +kernel
theorem d_M_end__102 : decode b_M_end_ 102 = .ok (.iconst 0, 1) := by decide +kernel
theorem d_M_end__103 : decode b_M_end_ 103 = .ok (.if_icmp .ne 12, 3) := by decide +kernel
theorem d_M_end__106 : decode b_M_end_ 106 = .ok (.aload_n 0, 1) := by decide +kernel
theorem d_M_end__107 : decode b_M_end_ 107 = .ok (.getfield 25, 3) := by decide +kernel
theorem d_M_end__110 : decode b_M_end_ 110 = .ok (.iload_n 1, 1) := by decide +kernel
theorem d_M_end__111 : decode b_M_end_ 111 = .ok (.laload, 1) := by decide +kernel
theorem d_M_end__112 : decode b_M_end_ 112 = .ok (.goto 17, 3) := by decide +kernel
theorem d_M_end__115 : decode b_M_end_ 115 = .ok (.iload 6, 2) := by decide +kernel
theorem d_M_end__117 : decode b_M_end_ 117 = .ok (.ifCond .eq 9, 3) := by decide +kernel
theorem d_M_end__120 : decode b_M_end_ 120 = .ok (.ldc2_w 49, 3) := by decide +kernel
theorem d_M_end__123 : decode b_M_end_ 123 = .ok (.goto 6, 3) := by decide +kernel
theorem d_M_end__126 : decode b_M_end_ 126 = .ok (.ldc2_w 56, 3) := by decide +kernel
theorem d_M_end__129 : decode b_M_end_ 129 = .ok (.invokestatic 61, 3) := by decide +kernel
theorem d_M_end__132 : decode b_M_end_ 132 = .ok (.lstore 12, 2) := by decide +kernel
theorem d_M_end__134 : decode b_M_end_ 134 = .ok (.iload 7, 2) := by decide +kernel
theorem d_M_end__136 : decode b_M_end_ 136 = .ok (.ifCond .eq 25, 3) := by decide +kernel
theorem d_M_end__139 : decode b_M_end_ 139 = .ok (.lload_n 2, 1) := by decide +kernel
theorem d_M_end__140 : decode b_M_end_ 140 = .ok (.ldc2_w 56, 3) := by decide +kernel
theorem d_M_end__143 : decode b_M_end_ 143 = .ok (.land, 1) := by decide +kernel
theorem d_M_end__144 : decode b_M_end_ 144 = .ok (.lload 8, 2) := by decide +kernel
theorem d_M_end__146 : decode b_M_end_ 146 = .ok (.lor, 1) := by decide +kernel
theorem d_M_end__147 : decode b_M_end_ 147 = .ok (.lload 4, 2) := by decide +kernel
theorem d_M_end__149 : decode b_M_end_ 149 = .ok (.ldc2_w 56, 3) := by decide +kernel
theorem d_M_end__152 : decode b_M_end_ 152 = .ok (.land, 1) := by decide +kernel
theorem d_M_end__153 : decode b_M_end_ 153 = .ok (.lload 10, 2) := by decide +kernel
theorem d_M_end__155 : decode b_M_end_ 155 = .ok (.invokestatic 64, 3) := by decide +kernel
theorem d_M_end__158 : decode b_M_end_ 158 = .ok (.goto 22, 3) := by decide +kernel
theorem d_M_end__161 : decode b_M_end_ 161 = .ok (.lload_n 2, 1) := by decide +kernel
theorem d_M_end__162 : decode b_M_end_ 162 = .ok (.ldc2_w 56, 3) := by decide +kernel
theorem d_M_end__165 : decode b_M_end_ 165 = .ok (.land, 1) := by decide +kernel
theorem d_M_end__166 : decode b_M_end_ 166 = .ok (.lload 8, 2) := by decide +kernel
theorem d_M_end__168 : decode b_M_end_ 168 = .ok (.lor, 1) := by decide +kernel
theorem d_M_end__169 : decode b_M_end_ 169 = .ok (.lload 4, 2) := by decide +kernel
theorem d_M_end__171 : decode b_M_end_ 171 = .ok (.ldc2_w 56, 3) := by decide +kernel
theorem d_M_end__174 : decode b_M_end_ 174 = .ok (.land, 1) := by decide +kernel
theorem d_M_end__175 : decode b_M_end_ 175 = .ok (.lload 12, 2) := by decide +kernel
theorem d_M_end__177 : decode b_M_end_ 177 = .ok (.invokestatic 68, 3) := by decide +kernel
theorem d_M_end__180 : decode b_M_end_ 180 = .ok (.lreturn, 1) := by decide +kernel
def f_M_end__132v (r0 : (Nat → VV)) (p1 : Nat) (p2 : Int64) (p3 : Int64) (p4 : Bool) (p5 : Bool) (v132 : Int64) (v60 : Int64) (s12_0 : Int64) : Int64 := (if p5 = true then (f_M_upFrom ((p2 &&& (9223372036854775807 : Int64)) ||| s12_0) (p3 &&& (9223372036854775807 : Int64)) v60) else (f_M_downFrom ((p2 &&& (9223372036854775807 : Int64)) ||| s12_0) (p3 &&& (9223372036854775807 : Int64)) v132))
def f_M_end__129 (r0 : (Nat → VV)) (p1 : Nat) (p2 : Int64) (p3 : Int64) (p4 : Bool) (p5 : Bool) (v60 : Int64) (s12_0 : Int64) (s129_0 : Int64) (s129_1 : Int64) : Int64 := f_M_end__132v r0 p1 p2 p3 p4 p5 (f_M_lesser s129_1 s129_0) v60 s12_0
def f_M_end__103 (r0 : (Nat → VV)) (p1 : Nat) (p2 : Int64) (p3 : Int64) (p4 : Bool) (p5 : Bool) (v60 : Int64) (s12_0 : Int64) (s103_0 : Bool) (s103_2 : Int64) : Int64 := (if (bI p4) = (bI s103_0) then f_M_end__129 r0 p1 p2 p3 p4 p5 v60 s12_0 ((r0 p1).2.2.2.2.2.1) s103_2 else (if p4 = true then f_M_end__129 r0 p1 p2 p3 p4 p5 v60 s12_0 (-1) s103_2 else f_M_end__129 r0 p1 p2 p3 p4 p5 v60 s12_0 9223372036854775807 s103_2))
def f_M_end__82 (r0 : (Nat → VV)) (p1 : Nat) (p2 : Int64) (p3 : Int64) (p4 : Bool) (p5 : Bool) (v60 : Int64) (s12_0 : Int64) (s82_0 : Int64) (s82_1 : Int64) : Int64 := (if ((r0 p1).2.2.2.2.2.1) < 0 then f_M_end__103 r0 p1 p2 p3 p4 p5 v60 s12_0 true (f_M_lesser s82_1 s82_0) else f_M_end__103 r0 p1 p2 p3 p4 p5 v60 s12_0 false (f_M_lesser s82_1 s82_0))
def f_M_end__60v (r0 : (Nat → VV)) (p1 : Nat) (p2 : Int64) (p3 : Int64) (p4 : Bool) (p5 : Bool) (v60 : Int64) (s12_0 : Int64) : Int64 := (if p4 = true then f_M_end__82 r0 p1 p2 p3 p4 p5 v60 s12_0 (-1) ((r0 p1).2.2.2.1) else f_M_end__82 r0 p1 p2 p3 p4 p5 v60 s12_0 9223372036854775807 ((r0 p1).2.2.2.1))
def f_M_end__57 (r0 : (Nat → VV)) (p1 : Nat) (p2 : Int64) (p3 : Int64) (p4 : Bool) (p5 : Bool) (s12_0 : Int64) (s57_0 : Int64) (s57_1 : Int64) : Int64 := f_M_end__60v r0 p1 p2 p3 p4 p5 (f_M_larger s57_1 s57_0) s12_0
def f_M_end__43 (r0 : (Nat → VV)) (p1 : Nat) (p2 : Int64) (p3 : Int64) (p4 : Bool) (p5 : Bool) (s12_0 : Int64) (s43_0 : Bool) (s43_2 : Int64) : Int64 := (if (bI p4) = (bI s43_0) then f_M_end__57 r0 p1 p2 p3 p4 p5 s12_0 ((r0 p1).2.2.2.2.1) s43_2 else f_M_end__57 r0 p1 p2 p3 p4 p5 s12_0 s12_0 s43_2)
def f_M_end__12 (r0 : (Nat → VV)) (p1 : Nat) (p2 : Int64) (p3 : Int64) (p4 : Bool) (p5 : Bool) (s12_0 : Int64) : Int64 := (if ((r0 p1).2.2.2.2.1) < 0 then f_M_end__43 r0 p1 p2 p3 p4 p5 s12_0 true (f_M_larger ((r0 p1).2.2.1) s12_0) else f_M_end__43 r0 p1 p2 p3 p4 p5 s12_0 false (f_M_larger ((r0 p1).2.2.1) s12_0))
def f_M_end_ (r0 : (Nat → VV)) (p1 : Nat) (p2 : Int64) (p3 : Int64) (p4 : Bool) (p5 : Bool) : Int64 := (if p4 = true then f_M_end__12 r0 p1 p2 p3 p4 p5 (-9223372036854775808) else f_M_end__12 r0 p1 p2 p3 p4 p5 0)
set_option maxRecDepth 100000 in
set_option maxHeartbeats 4000000 in
theorem c_M_end_ (l : Launch) (dC : Nat → ClassId) (dI : Nat → Nat → Nat) (ad : Nat → Nat) (cJ cZ : ClassId) (c0 : Int32) (r0 : (Nat → VV)) (w0 : (Nat → Int64)) (s0 : Int32) (p1 : Nat) (p2 : Int64) (p3 : Int64) (p4 : Bool) (p5 : Bool) (b1 : p1 < 24) : Met l y_M_end_ w_M_end_ ({ frames := 2, cells := 0, slots := 0, locals := 55 } : Room) (va_Pc [.ref (ad 0), .int (nI p1), .long (p2), .long (p3), .int (bI p4), .int (bI p5)] (nR (dC, dI) (mT cJ cZ) (mW ad cJ cZ c0 r0 w0 s0))) (vp_Sl (fun r => r = (f_M_end_ r0 p1 p2 p3 p4 p5))) 0 0 (fun _ => False) := by
  refine Met.ofW (cc := b_M_end_) (maxL := 14) (ret := (some .long)) (by decide) rfl ?_
  intro p e s m args below meth c s₁ B hml hv
  obtain ⟨rfl, hP, hK⟩ := hv
  have hx := B.exec
  have hb := B.bytes
  have hr := B.returns
  have hts := atoms_spec (ws := w_M_end_) B.pre
  have hG : ∀ w ∈ gM, w.before _ s = true := fun w h => hts w (List.mem_cons_of_mem _ h)
  have hown : s.vm.findClass R_M = some m.cls := findClass_of_methodNamed B.named
  have hlocks := B.notSynchronized
  have hl := lv_entry ([.ref (ad 0), .int (nI p1), .long (p2), .long (p3), .int (bI p4), .int (bI p5)]) (n := 14) (Nat.le_of_ble_eq_true rfl)
  rw [lg_entry_eq]
  generalize (lg_sl ([.ref (ad 0), .int (nI p1), .long (p2), .long (p3), .int (bI p4), .int (bI p5)]) ++ List.replicate (14 - (lg_sl ([.ref (ad 0), .int (nI p1), .long (p2), .long (p3), .int (bI p4), .int (bI p5)])).length) Slot.unset).toArray = ls at hl ⊢
  have hl : lv_has ls 14 [(0, .ref (ad 0)), (1, .int (nI p1)), (2, .long (p2)), (4, .long (p3)), (6, .int (bI p4)), (7, .int (bI p5))] := hl
  have K132v : ∀ (v132 : Int64) (v60 : Int64) (s12_0 : Int64) (hj : f_M_end_ r0 p1 p2 p3 p4 p5 = f_M_end__132v r0 p1 p2 p3 p4 p5 v132 v60 s12_0) (ls : Array Slot) (hl : lv_has ls 14 [(12, .long (v132)), (10, .long (v60)), (8, .long (s12_0)), (2, .long (p2)), (4, .long (p3)), (7, .int (bI p5))]), W p l e (headSpec w_M_end_ ({ frames := 2, cells := 0, slots := 0, locals := 55 } : Room)).room s m ([.ref (ad 0), .int (nI p1), .long (p2), .long (p3), .int (bI p4), .int (bI p5)] : List Value).toArray below meth c s.heap [] 0 0 (MQ below (vp_Sl (fun r => r = (f_M_end_ r0 p1 p2 p3 p4 p5))) ([.ref (ad 0), .int (nI p1), .long (p2), .long (p3), .int (bI p4), .int (bI p5)] : List Value).toArray s 0 0 (fun _ => False)) (F0 m 134 ls []) := by
    intro v132 v60 s12_0 hj ls hl
    refine lv_iload hx hb d_M_end__134 (lv_at hl 5 rfl) ?_
    refine wz_eq (tgt := 161) hx hb d_M_end__136 (by decide) (fun e1_161 => ?_) (fun e1_161 => ?_)
    · refine lv_lload_n hx hb d_M_end__161 rfl (lv_at hl 3 rfl) ?_
      refine lv_ldc2 (v := 9223372036854775807) hx hb hown (hG (.constantLong R_M 56 (9223372036854775807)) gx44) d_M_end__162 ?_
      refine lv_land hx hb d_M_end__165 ?_
      refine lv_lload hx hb d_M_end__166 (lv_at hl 2 rfl) ?_
      refine lv_lor hx hb d_M_end__168 ?_
      refine lv_lload hx hb d_M_end__169 (lv_at hl 4 rfl) ?_
      refine lv_ldc2 (v := 9223372036854775807) hx hb hown (hG (.constantLong R_M 56 (9223372036854775807)) gx44) d_M_end__171 ?_
      refine lv_land hx hb d_M_end__174 ?_
      refine lv_lload hx hb d_M_end__175 (lv_at hl 0 rfl) ?_
      refine rc_l (W.runS (As := [.long ((p2 &&& (9223372036854775807 : Int64)) ||| s12_0), .long (p3 &&& (9223372036854775807 : Int64)), .long (v132)]) (rest := []) ⟨hx, hb, hml, hown, hts⟩ (c_M_downFrom l ((p2 &&& (9223372036854775807 : Int64)) ||| s12_0) (p3 &&& (9223372036854775807 : Int64)) v132) (va_cwS 3 hts (gxS gx90 gx91 gx0 gx92) rfl rfl rfl (by decide +kernel) ⟨(Nat.le_of_ble_eq_true rfl), (Nat.le_of_ble_eq_true rfl)⟩) ⟨bl0, fun U hU hW => ⟨rfl, trivial⟩⟩ rfl rfl hl.1 rfl (lv_room (Nat.le_of_ble_eq_true rfl)) d_M_end__177 ⟨Nat.zero_le _, Nat.zero_le _⟩) ?_
      have fe : f_M_end_ r0 p1 p2 p3 p4 p5 = (f_M_downFrom ((p2 &&& (9223372036854775807 : Int64)) ||| s12_0) (p3 &&& (9223372036854775807 : Int64)) v132) := hj.trans (by unfold f_M_end__132v; first | with_reducible exact if_neg e1_161 | exact if_neg e1_161)
      exact W.lret (v := f_M_downFrom ((p2 &&& (9223372036854775807 : Int64)) ||| s12_0) (p3 &&& (9223372036854775807 : Int64)) v132) hx hb hr (fun t ht hW => ⟨_, rfl, by rw [fe], ht⟩) t_nil d_M_end__180
    · refine lv_lload_n hx hb d_M_end__139 rfl (lv_at hl 3 rfl) ?_
      refine lv_ldc2 (v := 9223372036854775807) hx hb hown (hG (.constantLong R_M 56 (9223372036854775807)) gx44) d_M_end__140 ?_
      refine lv_land hx hb d_M_end__143 ?_
      refine lv_lload hx hb d_M_end__144 (lv_at hl 2 rfl) ?_
      refine lv_lor hx hb d_M_end__146 ?_
      refine lv_lload hx hb d_M_end__147 (lv_at hl 4 rfl) ?_
      refine lv_ldc2 (v := 9223372036854775807) hx hb hown (hG (.constantLong R_M 56 (9223372036854775807)) gx44) d_M_end__149 ?_
      refine lv_land hx hb d_M_end__152 ?_
      refine lv_lload hx hb d_M_end__153 (lv_at hl 1 rfl) ?_
      refine rc_l (W.runS (As := [.long ((p2 &&& (9223372036854775807 : Int64)) ||| s12_0), .long (p3 &&& (9223372036854775807 : Int64)), .long (v60)]) (rest := []) ⟨hx, hb, hml, hown, hts⟩ (c_M_upFrom l ((p2 &&& (9223372036854775807 : Int64)) ||| s12_0) (p3 &&& (9223372036854775807 : Int64)) v60) (va_cwS 3 hts (gxS gx87 gx88 gx0 gx89) rfl rfl rfl (by decide +kernel) ⟨(Nat.le_of_ble_eq_true rfl), (Nat.le_of_ble_eq_true rfl)⟩) ⟨bl0, fun U hU hW => ⟨rfl, trivial⟩⟩ rfl rfl hl.1 rfl (lv_room (Nat.le_of_ble_eq_true rfl)) d_M_end__155 ⟨Nat.zero_le _, Nat.zero_le _⟩) ?_
      refine lv_goto (tgt := 180) hx hb d_M_end__158 (by decide) ?_
      have fe : f_M_end_ r0 p1 p2 p3 p4 p5 = (f_M_upFrom ((p2 &&& (9223372036854775807 : Int64)) ||| s12_0) (p3 &&& (9223372036854775807 : Int64)) v60) := hj.trans (by unfold f_M_end__132v; first | with_reducible exact if_pos e1_161 | exact if_pos e1_161)
      exact W.lret (v := f_M_upFrom ((p2 &&& (9223372036854775807 : Int64)) ||| s12_0) (p3 &&& (9223372036854775807 : Int64)) v60) hx hb hr (fun t ht hW => ⟨_, rfl, by rw [fe], ht⟩) t_nil d_M_end__180
  have K129 : ∀ (v60 : Int64) (s12_0 : Int64) (s129_0 : Int64) (s129_1 : Int64) (hj : f_M_end_ r0 p1 p2 p3 p4 p5 = f_M_end__129 r0 p1 p2 p3 p4 p5 v60 s12_0 s129_0 s129_1) (ls : Array Slot) (hl : lv_has ls 14 [(10, .long (v60)), (8, .long (s12_0)), (2, .long (p2)), (4, .long (p3)), (7, .int (bI p5))]), W p l e (headSpec w_M_end_ ({ frames := 2, cells := 0, slots := 0, locals := 55 } : Room)).room s m ([.ref (ad 0), .int (nI p1), .long (p2), .long (p3), .int (bI p4), .int (bI p5)] : List Value).toArray below meth c s.heap [] 0 0 (MQ below (vp_Sl (fun r => r = (f_M_end_ r0 p1 p2 p3 p4 p5))) ([.ref (ad 0), .int (nI p1), .long (p2), .long (p3), .int (bI p4), .int (bI p5)] : List Value).toArray s 0 0 (fun _ => False)) (F0 m 129 ls [.long (s129_0), .long (s129_1)]) := by
    intro v60 s12_0 s129_0 s129_1 hj ls hl
    refine rc_l (W.runS (As := [.long (s129_1), .long (s129_0)]) (rest := []) ⟨hx, hb, hml, hown, hts⟩ (c_M_lesser l s129_1 s129_0) (va_cwS 2 hts (gxS gx84 gx85 gx0 gx86) rfl rfl rfl (by decide +kernel) ⟨(Nat.le_of_ble_eq_true rfl), (Nat.le_of_ble_eq_true rfl)⟩) ⟨bl0, fun U hU hW => ⟨rfl, trivial⟩⟩ rfl rfl hl.1 rfl (lv_room (Nat.le_of_ble_eq_true rfl)) d_M_end__129 ⟨Nat.zero_le _, Nat.zero_le _⟩) ?_
    refine lv_topl (fun v132 ev132 => ?_)
    refine lv_lstore (lv' := [(12, .long (v132)), (10, .long (v60)), (8, .long (s12_0)), (2, .long (p2)), (4, .long (p3)), (7, .int (bI p5))]) hx hb d_M_end__132 hl (by decide) rfl (fun ls hl => ?_)
    exact K132v v132 v60 s12_0 (Eq.trans (hj.trans rfl) (congrArg (fun v132 => f_M_end__132v r0 p1 p2 p3 p4 p5 v132 v60 s12_0) ev132.symm)) ls (lv_sub hl [0, 1, 2, 3, 4, 5] rfl)
  have K103 : ∀ (v60 : Int64) (s12_0 : Int64) (s103_0 : Bool) (s103_2 : Int64) (hj : f_M_end_ r0 p1 p2 p3 p4 p5 = f_M_end__103 r0 p1 p2 p3 p4 p5 v60 s12_0 s103_0 s103_2) (ls : Array Slot) (hl : lv_has ls 14 [(10, .long (v60)), (8, .long (s12_0)), (0, .ref (ad 0)), (1, .int (nI p1)), (2, .long (p2)), (4, .long (p3)), (6, .int (bI p4)), (7, .int (bI p5))]), W p l e (headSpec w_M_end_ ({ frames := 2, cells := 0, slots := 0, locals := 55 } : Room)).room s m ([.ref (ad 0), .int (nI p1), .long (p2), .long (p3), .int (bI p4), .int (bI p5)] : List Value).toArray below meth c s.heap [] 0 0 (MQ below (vp_Sl (fun r => r = (f_M_end_ r0 p1 p2 p3 p4 p5))) ([.ref (ad 0), .int (nI p1), .long (p2), .long (p3), .int (bI p4), .int (bI p5)] : List Value).toArray s 0 0 (fun _ => False)) (F0 m 103 ls [.int (bI s103_0), .int (bI p4), .long (s103_2)]) := by
    intro v60 s12_0 s103_0 s103_2 hj ls hl
    refine lv_icmp_ne (tgt := 115) hx hb d_M_end__103 (by decide) (fun e1_115 => ?_) (fun e1_115 => ?_)
    · refine lv_iload hx hb d_M_end__115 (lv_at hl 6 rfl) ?_
      refine wz_eq (tgt := 126) hx hb d_M_end__117 (by decide) (fun e2_126 => ?_) (fun e2_126 => ?_)
      · refine lv_ldc2 (v := 9223372036854775807) hx hb hown (hG (.constantLong R_M 56 (9223372036854775807)) gx44) d_M_end__126 ?_
        exact K129 v60 s12_0 9223372036854775807 s103_2 (hj.trans (by unfold f_M_end__103; first | with_reducible exact (if_neg e1_115).trans (if_neg e2_126) | exact (if_neg e1_115).trans (if_neg e2_126))) ls (lv_sub hl [0, 1, 4, 5, 7] rfl)
      · refine lv_ldc2 (v := -1) hx hb hown (hG (.constantLong R_M 49 (-1)) gx42) d_M_end__120 ?_
        refine lv_goto (tgt := 129) hx hb d_M_end__123 (by decide) ?_
        exact K129 v60 s12_0 (-1) s103_2 (hj.trans (by unfold f_M_end__103; first | with_reducible exact (if_neg e1_115).trans (if_pos e2_126) | exact (if_neg e1_115).trans (if_pos e2_126))) ls (lv_sub hl [0, 1, 4, 5, 7] rfl)
    · refine lv_aload_n hx hb d_M_end__106 rfl (lv_at hl 2 rfl) ?_
      refine va_get (D := (dC, dI)) (ci := 2) (v := .ref (ad 6)) (C := R_M) (T := F_M) (N := 10) hx hb hts (fun w h => List.mem_cons_of_mem _ (uw_M w h)) hown hK hP 0 rfl rfl 6 (by decide) (hG (.fieldLink R_M 25 "ValueSieveModel" "greatest" "[J") gx15) (fun _ h9 => h9) rfl d_M_end__107 ?_
      refine lv_iload_n hx hb d_M_end__110 rfl (lv_at hl 3 rfl) ?_
      refine ml_6 (P := p1) hx hb hK hP rfl b1 d_M_end__111 ?_
      refine lv_goto (tgt := 129) hx hb d_M_end__112 (by decide) ?_
      exact K129 v60 s12_0 ((r0 p1).2.2.2.2.2.1) s103_2 (hj.trans (by unfold f_M_end__103; first | with_reducible exact if_pos e1_115 | exact if_pos e1_115)) ls (lv_sub hl [0, 1, 4, 5, 7] rfl)
  have K82 : ∀ (v60 : Int64) (s12_0 : Int64) (s82_0 : Int64) (s82_1 : Int64) (hj : f_M_end_ r0 p1 p2 p3 p4 p5 = f_M_end__82 r0 p1 p2 p3 p4 p5 v60 s12_0 s82_0 s82_1) (ls : Array Slot) (hl : lv_has ls 14 [(10, .long (v60)), (8, .long (s12_0)), (0, .ref (ad 0)), (1, .int (nI p1)), (2, .long (p2)), (4, .long (p3)), (6, .int (bI p4)), (7, .int (bI p5))]), W p l e (headSpec w_M_end_ ({ frames := 2, cells := 0, slots := 0, locals := 55 } : Room)).room s m ([.ref (ad 0), .int (nI p1), .long (p2), .long (p3), .int (bI p4), .int (bI p5)] : List Value).toArray below meth c s.heap [] 0 0 (MQ below (vp_Sl (fun r => r = (f_M_end_ r0 p1 p2 p3 p4 p5))) ([.ref (ad 0), .int (nI p1), .long (p2), .long (p3), .int (bI p4), .int (bI p5)] : List Value).toArray s 0 0 (fun _ => False)) (F0 m 82 ls [.long (s82_0), .long (s82_1)]) := by
    intro v60 s12_0 s82_0 s82_1 hj ls hl
    refine rc_l (W.runS (As := [.long (s82_1), .long (s82_0)]) (rest := []) ⟨hx, hb, hml, hown, hts⟩ (c_M_lesser l s82_1 s82_0) (va_cwS 2 hts (gxS gx84 gx85 gx0 gx86) rfl rfl rfl (by decide +kernel) ⟨(Nat.le_of_ble_eq_true rfl), (Nat.le_of_ble_eq_true rfl)⟩) ⟨bl0, fun U hU hW => ⟨rfl, trivial⟩⟩ rfl rfl hl.1 rfl (lv_room (Nat.le_of_ble_eq_true rfl)) d_M_end__82 ⟨Nat.zero_le _, Nat.zero_le _⟩) ?_
    refine lv_iload hx hb d_M_end__85 (lv_at hl 6 rfl) ?_
    refine lv_aload_n hx hb d_M_end__87 rfl (lv_at hl 2 rfl) ?_
    refine va_get (D := (dC, dI)) (ci := 2) (v := .ref (ad 6)) (C := R_M) (T := F_M) (N := 10) hx hb hts (fun w h => List.mem_cons_of_mem _ (uw_M w h)) hown hK hP 0 rfl rfl 6 (by decide) (hG (.fieldLink R_M 25 "ValueSieveModel" "greatest" "[J") gx15) (fun _ h9 => h9) rfl d_M_end__88 ?_
    refine lv_iload_n hx hb d_M_end__91 rfl (lv_at hl 3 rfl) ?_
    refine ml_6 (P := p1) hx hb hK hP rfl b1 d_M_end__92 ?_
    refine lv_lconst (v := 0) hx hb d_M_end__93 (by decide) ?_
    refine wl_ge (tgt := 102) hx hb d_M_end__94 d_M_end__95 (by decide) (fun e1_102 => ?_) (fun e1_102 => ?_)
    · refine lv_iconst (v := 0) hx hb d_M_end__102 (by decide) ?_
      exact K103 v60 s12_0 false (f_M_lesser s82_1 s82_0) (hj.trans (by unfold f_M_end__82; first | with_reducible exact if_neg e1_102 | exact if_neg e1_102)) ls (lv_sub hl [0, 1, 2, 3, 4, 5, 6, 7] rfl)
    · refine lv_iconst (v := 1) hx hb d_M_end__98 (by decide) ?_
      refine lv_goto (tgt := 103) hx hb d_M_end__99 (by decide) ?_
      exact K103 v60 s12_0 true (f_M_lesser s82_1 s82_0) (hj.trans (by unfold f_M_end__82; first | with_reducible exact if_pos e1_102 | exact if_pos e1_102)) ls (lv_sub hl [0, 1, 2, 3, 4, 5, 6, 7] rfl)
  have K60v : ∀ (v60 : Int64) (s12_0 : Int64) (hj : f_M_end_ r0 p1 p2 p3 p4 p5 = f_M_end__60v r0 p1 p2 p3 p4 p5 v60 s12_0) (ls : Array Slot) (hl : lv_has ls 14 [(10, .long (v60)), (8, .long (s12_0)), (0, .ref (ad 0)), (1, .int (nI p1)), (2, .long (p2)), (4, .long (p3)), (6, .int (bI p4)), (7, .int (bI p5))]), W p l e (headSpec w_M_end_ ({ frames := 2, cells := 0, slots := 0, locals := 55 } : Room)).room s m ([.ref (ad 0), .int (nI p1), .long (p2), .long (p3), .int (bI p4), .int (bI p5)] : List Value).toArray below meth c s.heap [] 0 0 (MQ below (vp_Sl (fun r => r = (f_M_end_ r0 p1 p2 p3 p4 p5))) ([.ref (ad 0), .int (nI p1), .long (p2), .long (p3), .int (bI p4), .int (bI p5)] : List Value).toArray s 0 0 (fun _ => False)) (F0 m 62 ls []) := by
    intro v60 s12_0 hj ls hl
    refine lv_aload_n hx hb d_M_end__62 rfl (lv_at hl 2 rfl) ?_
    refine va_get (D := (dC, dI)) (ci := 2) (v := .ref (ad 4)) (C := R_M) (T := F_M) (N := 10) hx hb hts (fun w h => List.mem_cons_of_mem _ (uw_M w h)) hown hK hP 0 rfl rfl 4 (by decide) (hG (.fieldLink R_M 19 "ValueSieveModel" "high" "[J") gx13) (fun _ h9 => h9) rfl d_M_end__63 ?_
    refine lv_iload_n hx hb d_M_end__66 rfl (lv_at hl 3 rfl) ?_
    refine ml_4 (P := p1) hx hb hK hP rfl b1 d_M_end__67 ?_
    refine lv_iload hx hb d_M_end__68 (lv_at hl 6 rfl) ?_
    refine wz_eq (tgt := 79) hx hb d_M_end__70 (by decide) (fun e1_79 => ?_) (fun e1_79 => ?_)
    · refine lv_ldc2 (v := 9223372036854775807) hx hb hown (hG (.constantLong R_M 56 (9223372036854775807)) gx44) d_M_end__79 ?_
      exact K82 v60 s12_0 9223372036854775807 ((r0 p1).2.2.2.1) (hj.trans (by unfold f_M_end__60v; first | with_reducible exact if_neg e1_79 | exact if_neg e1_79)) ls (lv_sub hl [0, 1, 2, 3, 4, 5, 6, 7] rfl)
    · refine lv_ldc2 (v := -1) hx hb hown (hG (.constantLong R_M 49 (-1)) gx42) d_M_end__73 ?_
      refine lv_goto (tgt := 82) hx hb d_M_end__76 (by decide) ?_
      exact K82 v60 s12_0 (-1) ((r0 p1).2.2.2.1) (hj.trans (by unfold f_M_end__60v; first | with_reducible exact if_pos e1_79 | exact if_pos e1_79)) ls (lv_sub hl [0, 1, 2, 3, 4, 5, 6, 7] rfl)
  have K57 : ∀ (s12_0 : Int64) (s57_0 : Int64) (s57_1 : Int64) (hj : f_M_end_ r0 p1 p2 p3 p4 p5 = f_M_end__57 r0 p1 p2 p3 p4 p5 s12_0 s57_0 s57_1) (ls : Array Slot) (hl : lv_has ls 14 [(8, .long (s12_0)), (0, .ref (ad 0)), (1, .int (nI p1)), (2, .long (p2)), (4, .long (p3)), (6, .int (bI p4)), (7, .int (bI p5))]), W p l e (headSpec w_M_end_ ({ frames := 2, cells := 0, slots := 0, locals := 55 } : Room)).room s m ([.ref (ad 0), .int (nI p1), .long (p2), .long (p3), .int (bI p4), .int (bI p5)] : List Value).toArray below meth c s.heap [] 0 0 (MQ below (vp_Sl (fun r => r = (f_M_end_ r0 p1 p2 p3 p4 p5))) ([.ref (ad 0), .int (nI p1), .long (p2), .long (p3), .int (bI p4), .int (bI p5)] : List Value).toArray s 0 0 (fun _ => False)) (F0 m 57 ls [.long (s57_0), .long (s57_1)]) := by
    intro s12_0 s57_0 s57_1 hj ls hl
    refine rc_l (W.runS (As := [.long (s57_1), .long (s57_0)]) (rest := []) ⟨hx, hb, hml, hown, hts⟩ (c_M_larger l s57_1 s57_0) (va_cwS 2 hts (gxS gx81 gx82 gx0 gx83) rfl rfl rfl (by decide +kernel) ⟨(Nat.le_of_ble_eq_true rfl), (Nat.le_of_ble_eq_true rfl)⟩) ⟨bl0, fun U hU hW => ⟨rfl, trivial⟩⟩ rfl rfl hl.1 rfl (lv_room (Nat.le_of_ble_eq_true rfl)) d_M_end__57 ⟨Nat.zero_le _, Nat.zero_le _⟩) ?_
    refine lv_topl (fun v60 ev60 => ?_)
    refine lv_lstore (lv' := [(10, .long (v60)), (8, .long (s12_0)), (0, .ref (ad 0)), (1, .int (nI p1)), (2, .long (p2)), (4, .long (p3)), (6, .int (bI p4)), (7, .int (bI p5))]) hx hb d_M_end__60 hl (by decide) rfl (fun ls hl => ?_)
    exact K60v v60 s12_0 (Eq.trans (hj.trans rfl) (congrArg (fun v60 => f_M_end__60v r0 p1 p2 p3 p4 p5 v60 s12_0) ev60.symm)) ls (lv_sub hl [0, 1, 2, 3, 4, 5, 6, 7] rfl)
  have K43 : ∀ (s12_0 : Int64) (s43_0 : Bool) (s43_2 : Int64) (hj : f_M_end_ r0 p1 p2 p3 p4 p5 = f_M_end__43 r0 p1 p2 p3 p4 p5 s12_0 s43_0 s43_2) (ls : Array Slot) (hl : lv_has ls 14 [(8, .long (s12_0)), (0, .ref (ad 0)), (1, .int (nI p1)), (2, .long (p2)), (4, .long (p3)), (6, .int (bI p4)), (7, .int (bI p5))]), W p l e (headSpec w_M_end_ ({ frames := 2, cells := 0, slots := 0, locals := 55 } : Room)).room s m ([.ref (ad 0), .int (nI p1), .long (p2), .long (p3), .int (bI p4), .int (bI p5)] : List Value).toArray below meth c s.heap [] 0 0 (MQ below (vp_Sl (fun r => r = (f_M_end_ r0 p1 p2 p3 p4 p5))) ([.ref (ad 0), .int (nI p1), .long (p2), .long (p3), .int (bI p4), .int (bI p5)] : List Value).toArray s 0 0 (fun _ => False)) (F0 m 43 ls [.int (bI s43_0), .int (bI p4), .long (s43_2)]) := by
    intro s12_0 s43_0 s43_2 hj ls hl
    refine lv_icmp_ne (tgt := 55) hx hb d_M_end__43 (by decide) (fun e1_55 => ?_) (fun e1_55 => ?_)
    · refine lv_lload hx hb d_M_end__55 (lv_at hl 0 rfl) ?_
      exact K57 s12_0 s12_0 s43_2 (hj.trans (by unfold f_M_end__43; first | with_reducible exact if_neg e1_55 | exact if_neg e1_55)) ls (lv_sub hl [0, 1, 2, 3, 4, 5, 6] rfl)
    · refine lv_aload_n hx hb d_M_end__46 rfl (lv_at hl 1 rfl) ?_
      refine va_get (D := (dC, dI)) (ci := 2) (v := .ref (ad 5)) (C := R_M) (T := F_M) (N := 10) hx hb hts (fun w h => List.mem_cons_of_mem _ (uw_M w h)) hown hK hP 0 rfl rfl 5 (by decide) (hG (.fieldLink R_M 22 "ValueSieveModel" "least" "[J") gx14) (fun _ h9 => h9) rfl d_M_end__47 ?_
      refine lv_iload_n hx hb d_M_end__50 rfl (lv_at hl 2 rfl) ?_
      refine ml_5 (P := p1) hx hb hK hP rfl b1 d_M_end__51 ?_
      refine lv_goto (tgt := 57) hx hb d_M_end__52 (by decide) ?_
      exact K57 s12_0 ((r0 p1).2.2.2.2.1) s43_2 (hj.trans (by unfold f_M_end__43; first | with_reducible exact if_pos e1_55 | exact if_pos e1_55)) ls (lv_sub hl [0, 1, 2, 3, 4, 5, 6] rfl)
  have K12 : ∀ (s12_0 : Int64) (hj : f_M_end_ r0 p1 p2 p3 p4 p5 = f_M_end__12 r0 p1 p2 p3 p4 p5 s12_0) (ls : Array Slot) (hl : lv_has ls 14 [(0, .ref (ad 0)), (1, .int (nI p1)), (2, .long (p2)), (4, .long (p3)), (6, .int (bI p4)), (7, .int (bI p5))]), W p l e (headSpec w_M_end_ ({ frames := 2, cells := 0, slots := 0, locals := 55 } : Room)).room s m ([.ref (ad 0), .int (nI p1), .long (p2), .long (p3), .int (bI p4), .int (bI p5)] : List Value).toArray below meth c s.heap [] 0 0 (MQ below (vp_Sl (fun r => r = (f_M_end_ r0 p1 p2 p3 p4 p5))) ([.ref (ad 0), .int (nI p1), .long (p2), .long (p3), .int (bI p4), .int (bI p5)] : List Value).toArray s 0 0 (fun _ => False)) (F0 m 12 ls [.long (s12_0)]) := by
    intro s12_0 hj ls hl
    refine lv_lstore (lv' := [(8, .long (s12_0)), (0, .ref (ad 0)), (1, .int (nI p1)), (2, .long (p2)), (4, .long (p3)), (6, .int (bI p4)), (7, .int (bI p5))]) hx hb d_M_end__12 hl (by decide) rfl (fun ls hl => ?_)
    refine lv_aload_n hx hb d_M_end__14 rfl (lv_at hl 1 rfl) ?_
    refine va_get (D := (dC, dI)) (ci := 2) (v := .ref (ad 3)) (C := R_M) (T := F_M) (N := 10) hx hb hts (fun w h => List.mem_cons_of_mem _ (uw_M w h)) hown hK hP 0 rfl rfl 3 (by decide) (hG (.fieldLink R_M 16 "ValueSieveModel" "low" "[J") gx12) (fun _ h9 => h9) rfl d_M_end__15 ?_
    refine lv_iload_n hx hb d_M_end__18 rfl (lv_at hl 2 rfl) ?_
    refine ml_3 (P := p1) hx hb hK hP rfl b1 d_M_end__19 ?_
    refine lv_lload hx hb d_M_end__20 (lv_at hl 0 rfl) ?_
    refine rc_l (W.runS (As := [.long ((r0 p1).2.2.1), .long (s12_0)]) (rest := []) ⟨hx, hb, hml, hown, hts⟩ (c_M_larger l ((r0 p1).2.2.1) s12_0) (va_cwS 2 hts (gxS gx81 gx82 gx0 gx83) rfl rfl rfl (by decide +kernel) ⟨(Nat.le_of_ble_eq_true rfl), (Nat.le_of_ble_eq_true rfl)⟩) ⟨bl0, fun U hU hW => ⟨rfl, trivial⟩⟩ rfl rfl hl.1 rfl (lv_room (Nat.le_of_ble_eq_true rfl)) d_M_end__22 ⟨Nat.zero_le _, Nat.zero_le _⟩) ?_
    refine lv_iload hx hb d_M_end__25 (lv_at hl 5 rfl) ?_
    refine lv_aload_n hx hb d_M_end__27 rfl (lv_at hl 1 rfl) ?_
    refine va_get (D := (dC, dI)) (ci := 2) (v := .ref (ad 5)) (C := R_M) (T := F_M) (N := 10) hx hb hts (fun w h => List.mem_cons_of_mem _ (uw_M w h)) hown hK hP 0 rfl rfl 5 (by decide) (hG (.fieldLink R_M 22 "ValueSieveModel" "least" "[J") gx14) (fun _ h9 => h9) rfl d_M_end__28 ?_
    refine lv_iload_n hx hb d_M_end__31 rfl (lv_at hl 2 rfl) ?_
    refine ml_5 (P := p1) hx hb hK hP rfl b1 d_M_end__32 ?_
    refine lv_lconst (v := 0) hx hb d_M_end__33 (by decide) ?_
    refine wl_ge (tgt := 42) hx hb d_M_end__34 d_M_end__35 (by decide) (fun e1_42 => ?_) (fun e1_42 => ?_)
    · refine lv_iconst (v := 0) hx hb d_M_end__42 (by decide) ?_
      exact K43 s12_0 false (f_M_larger ((r0 p1).2.2.1) s12_0) (hj.trans (by unfold f_M_end__12; first | with_reducible exact if_neg e1_42 | exact if_neg e1_42)) ls (lv_sub hl [0, 1, 2, 3, 4, 5, 6] rfl)
    · refine lv_iconst (v := 1) hx hb d_M_end__38 (by decide) ?_
      refine lv_goto (tgt := 43) hx hb d_M_end__39 (by decide) ?_
      exact K43 s12_0 true (f_M_larger ((r0 p1).2.2.1) s12_0) (hj.trans (by unfold f_M_end__12; first | with_reducible exact if_pos e1_42 | exact if_pos e1_42)) ls (lv_sub hl [0, 1, 2, 3, 4, 5, 6] rfl)
  refine lv_iload hx hb d_M_end__0 (lv_at hl 4 rfl) ?_
  refine wz_eq (tgt := 11) hx hb d_M_end__2 (by decide) (fun e1_11 => ?_) (fun e1_11 => ?_)
  · refine lv_lconst (v := 0) hx hb d_M_end__11 (by decide) ?_
    exact K12 0 (by unfold f_M_end_; first | with_reducible exact if_neg e1_11 | exact if_neg e1_11) ls (lv_sub hl [0, 1, 2, 3, 4, 5] rfl)
  · refine lv_ldc2 (v := -9223372036854775808) hx hb hown (hG (.constantLong R_M 54 (-9223372036854775808)) gx43) d_M_end__5 ?_
    refine lv_goto (tgt := 12) hx hb d_M_end__8 (by decide) ?_
    exact K12 (-9223372036854775808) (by unfold f_M_end_; first | with_reducible exact if_pos e1_11 | exact if_pos e1_11) ls (lv_sub hl [0, 1, 2, 3, 4, 5] rfl)
-- has
theorem d_M_has1_0 : decode b_M_has1 0 = .ok (.lload 4, 2) := by decide +kernel
theorem d_M_has1_2 : decode b_M_has1 2 = .ok (.ldc2_w 54, 3) := by decide +kernel
theorem d_M_has1_5 : decode b_M_has1 5 = .ok (.land, 1) := by decide +kernel
theorem d_M_has1_6 : decode b_M_has1 6 = .ok (.lconst 0, 1) := by decide +kernel
theorem d_M_has1_7 : decode b_M_has1 7 = .ok (.lcmp, 1) := by decide +kernel
theorem d_M_has1_8 : decode b_M_has1 8 = .ok (.ifCond .ne 19, 3) := by decide +kernel
theorem d_M_has1_11 : decode b_M_has1 11 = .ok (.lload_n 2, 1) := by decide +kernel
theorem d_M_has1_12 : decode b_M_has1 12 = .ok (.lconst 0, 1) := by decide +kernel
theorem d_M_has1_13 : decode b_M_has1 13 = .ok (.lcmp, 1) := by decide +kernel
theorem d_M_has1_14 : decode b_M_has1 14 = .ok (.ifCond .ge 7, 3) := by decide +kernel
theorem d_M_has1_17 : decode b_M_has1 17 = .ok (.iconst 1, 1) := by decide +kernel
theorem d_M_has1_18 : decode b_M_has1 18 = .ok (.goto 4, 3) := by decide +kernel
theorem d_M_has1_21 : decode b_M_has1 21 = .ok (.iconst 0, 1) := by decide +kernel
theorem d_M_has1_22 : decode b_M_has1 22 = .ok (.iload 6, 2) := by decide +kernel
theorem d_M_has1_24 : decode b_M_has1 24 = .ok (.if_icmp .ne 7, 3) := by decide +kernel
theorem d_M_has1_27 : decode b_M_has1 27 = .ok (.iconst 1, 1) := by decide +kernel
theorem d_M_has1_28 : decode b_M_has1 28 = .ok (.goto 4, 3) := by decide +kernel
theorem d_M_has1_31 : decode b_M_has1 31 = .ok (.iconst 0, 1) := by decide +kernel
theorem d_M_has1_32 : decode b_M_has1 32 = .ok (.istore 7, 2) := by decide +kernel
theorem d_M_has1_34 : decode b_M_has1 34 = .ok (.iload 6, 2) := by decide +kernel
theorem d_M_has1_36 : decode b_M_has1 36 = .ok (.ifCond .eq 22, 3) := by decide +kernel
theorem d_M_has1_39 : decode b_M_has1 39 = .ok (.aload_n 0, 1) := by decide +kernel
theorem d_M_has1_40 : decode b_M_has1 40 = .ok (.getfield 22, 3) := by decide +kernel
theorem d_M_has1_43 : decode b_M_has1 43 = .ok (.iload_n 1, 1) := by decide +kernel
theorem d_M_has1_44 : decode b_M_has1 44 = .ok (.laload, 1) := by decide +kernel
theorem d_M_has1_45 : decode b_M_has1 45 = .ok (.lconst 0, 1) := by decide +kernel
theorem d_M_has1_46 : decode b_M_has1 46 = .ok (.lcmp, 1) := by decide +kernel
theorem d_M_has1_47 : decode b_M_has1 47 = .ok (.ifCond .ge 7, 3) := by decide +kernel
theorem d_M_has1_50 : decode b_M_has1 50 = .ok (.iconst 1, 1) := by decide +kernel
theorem d_M_has1_51 : decode b_M_has1 51 = .ok (.goto 23, 3) := by decide +kernel
theorem d_M_has1_54 : decode b_M_has1 54 = .ok (.iconst 0, 1) := by decide +kernel
theorem d_M_has1_55 : decode b_M_has1 55 = .ok (.goto 19, 3) := by decide +kernel
theorem d_M_has1_58 : decode b_M_has1 58 = .ok (.aload_n 0, 1) := by decide +kernel
theorem d_M_has1_59 : decode b_M_has1 59 = .ok (.getfield 25, 3) := by decide +kernel
theorem d_M_has1_62 : decode b_M_has1 62 = .ok (.iload_n 1, 1) := by decide +kernel
theorem d_M_has1_63 : decode b_M_has1 63 = .ok (.laload, 1) := by decide +kernel
theorem d_M_has1_64 : decode b_M_has1 64 = .ok (.lconst 0, 1) := by decide +kernel
theorem d_M_has1_65 : decode b_M_has1 65 = .ok (.lcmp, 1) := by decide +kernel
theorem d_M_has1_66 : decode b_M_has1 66 = .ok (.ifCond .lt 7, 3) := by decide +kernel
theorem d_M_has1_69 : decode b_M_has1 69 = .ok (.iconst 1, 1) := by decide +kernel
theorem d_M_has1_70 : decode b_M_has1 70 = .ok (.goto 4, 3) := by decide +kernel
theorem d_M_has1_73 : decode b_M_has1 73 = .ok (.iconst 0, 1) := by decide +kernel
theorem d_M_has1_74 : decode b_M_has1 74 = .ok (.istore 8, 2) := by decide +kernel
theorem d_M_has1_76 : decode b_M_has1 76 = .ok (.iload 7, 2) := by decide +kernel
theorem d_M_has1_78 : decode b_M_has1 78 = .ok (.ifCond .eq 8, 3) := by decide +kernel
theorem d_M_has1_81 : decode b_M_has1 81 = .ok (.iload 8, 2) := by decide +kernel
theorem d_M_has1_83 : decode b_M_has1 83 = .ok (.ifCond .ne 5, 3) := by decide +kernel
theorem d_M_has1_86 : decode b_M_has1 86 = .ok (.iconst 0, 1) := by decide +kernel
theorem d_M_has1_87 : decode b_M_has1 87 = .ok (.ireturn, 1) := by decide +kernel
theorem d_M_has1_88 : decode b_M_has1 88 = .ok (.aload_n 0, 1) := by decide +kernel
theorem d_M_has1_89 : decode b_M_has1 89 = .ok (.iload_n 1, 1) := by decide +kernel
theorem d_M_has1_90 : decode b_M_has1 90 = .ok (.lload_n 2, 1) := by decide +kernel
theorem d_M_has1_91 : decode b_M_has1 91 = .ok (.lload 4, 2) := by decide +kernel
theorem d_M_has1_93 : decode b_M_has1 93 = .ok (.iload 6, 2) := by decide +kernel
theorem d_M_has1_95 : decode b_M_has1 95 = .ok (.iconst 1, 1) := by decide +kernel
theorem d_M_has1_96 : decode b_M_has1 96 = .ok (.invokevirtual 71, 3) := by decide +kernel
theorem d_M_has1_99 : decode b_M_has1 99 = .ok (.lstore 9, 2) := by decide +kernel
theorem d_M_has1_101 : decode b_M_has1 101 = .ok (.lload 9, 2) := by decide +kernel
theorem d_M_has1_103 : decode b_M_has1 103 = .ok (.lload 4, 2) := by decide +kernel
theorem d_M_has1_105 : decode b_M_has1 105 = .ok (.ldc2_w 54, 3) := by decide +kernel
theorem d_M_has1_108 : decode b_M_has1 108 = .ok (.lor, 1) := by decide +kernel
theorem d_M_has1_109 : decode b_M_has1 109 = .ok (.ldc2_w 49, 3) := by decide +kernel
theorem d_M_has1_112 : decode b_M_has1 112 = .ok (.lxor, 1) := by decide +kernel
theorem d_M_has1_113 : decode b_M_has1 113 = .ok (.land, 1) := by decide +kernel
theorem d_M_has1_114 : decode b_M_has1 114 = .ok (.lload_n 2, 1) := by decide +kernel
theorem d_M_has1_115 : decode b_M_has1 115 = .ok (.lload 4, 2) := by decide +kernel
theorem d_M_has1_117 : decode b_M_has1 117 = .ok (.ldc2_w 54, 3) := by decide +kernel
theorem d_M_has1_120 : decode b_M_has1 120 = .ok (.lor, 1) := by decide +kernel
theorem d_M_has1_121 : decode b_M_has1 121 = .ok (.ldc2_w 49, 3) := by decide +kernel
theorem d_M_has1_124 : decode b_M_has1 124 = .ok (.lxor, 1) := by decide +kernel
theorem d_M_has1_125 : decode b_M_has1 125 = .ok (.land, 1) := by decide +kernel
theorem d_M_has1_126 : decode b_M_has1 126 = .ok (.lcmp, 1) := by decide +kernel
theorem d_M_has1_127 : decode b_M_has1 127 = .ok (.ifCond .ne 59, 3) := by decide +kernel
theorem d_M_has1_130 : decode b_M_has1 130 = .ok (.lload 9, 2) := by decide +kernel
theorem d_M_has1_132 : decode b_M_has1 132 = .ok (.aload_n 0, 1) := by decide +kernel
theorem d_M_has1_133 : decode b_M_has1 133 = .ok (.getfield 16, 3) := by decide +kernel
theorem d_M_has1_136 : decode b_M_has1 136 = .ok (.iload_n 1, 1) := by decide +kernel
theorem d_M_has1_137 : decode b_M_has1 137 = .ok (.laload, 1) := by decide +kernel
theorem d_M_has1_138 : decode b_M_has1 138 = .ok (.invokestatic 39, 3) := by decide +kernel
theorem d_M_has1_141 : decode b_M_has1 141 = .ok (.ifCond .ne 45, 3) := by decide +kernel
theorem d_M_has1_144 : decode b_M_has1 144 = .ok (.aload_n 0, 1) := by decide +kernel
theorem d_M_has1_145 : decode b_M_has1 145 = .ok (.getfield 19, 3) := by decide +kernel
theorem d_M_has1_148 : decode b_M_has1 148 = .ok (.iload_n 1, 1) := by decide +kernel
theorem d_M_has1_149 : decode b_M_has1 149 = .ok (.laload, 1) := by decide +kernel
theorem d_M_has1_150 : decode b_M_has1 150 = .ok (.lload 9, 2) := by decide +kernel
theorem d_M_has1_152 : decode b_M_has1 152 = .ok (.invokestatic 39, 3) := by decide +kernel
theorem d_M_has1_155 : decode b_M_has1 155 = .ok (.ifCond .ne 31, 3) := by decide +kernel
theorem d_M_has1_158 : decode b_M_has1 158 = .ok (.lload 9, 2) := by decide +kernel
theorem d_M_has1_160 : decode b_M_has1 160 = .ok (.aload_n 0, 1) := by decide +kernel
theorem d_M_has1_161 : decode b_M_has1 161 = .ok (.getfield 22, 3) := by decide +kernel
theorem d_M_has1_164 : decode b_M_has1 164 = .ok (.iload_n 1, 1) := by decide +kernel
theorem d_M_has1_165 : decode b_M_has1 165 = .ok (.laload, 1) := by decide +kernel
theorem d_M_has1_166 : decode b_M_has1 166 = .ok (.lcmp, 1) := by decide +kernel
theorem d_M_has1_167 : decode b_M_has1 167 = .ok (.ifCond .lt 19, 3) := by decide +kernel
theorem d_M_has1_170 : decode b_M_has1 170 = .ok (.lload 9, 2) := by decide +kernel
theorem d_M_has1_172 : decode b_M_has1 172 = .ok (.aload_n 0, 1) := by decide +kernel
theorem d_M_has1_173 : decode b_M_has1 173 = .ok (.getfield 25, 3) := by decide +kernel
theorem d_M_has1_176 : decode b_M_has1 176 = .ok (.iload_n 1, 1) := by decide +kernel
theorem d_M_has1_177 : decode b_M_has1 177 = .ok (.laload, 1) := by decide +kernel
theorem d_M_has1_178 : decode b_M_has1 178 = .ok (.lcmp, 1) := by decide +kernel
theorem d_M_has1_179 : decode b_M_has1 179 = .ok (.ifCond .gt 7, 3) := by decide +kernel
theorem d_M_has1_182 : decode b_M_has1 182 = .ok (.iconst 1, 1) := by decide +kernel
theorem d_M_has1_183 : decode b_M_has1 183 = .ok (.goto 4, 3) := by decide +kernel
theorem d_M_has1_186 : decode b_M_has1 186 = .ok (.iconst 0, 1) := by decide +kernel
theorem d_M_has1_187 : decode b_M_has1 187 = .ok (.ireturn, 1) := by decide +kernel
def f_M_has1_186 (r0 : (Nat → VV)) (p1 : Nat) (p2 : Int64) (p3 : Int64) (p4 : Bool) : Bool := false
def f_M_has1_99v (r0 : (Nat → VV)) (p1 : Nat) (p2 : Int64) (p3 : Int64) (p4 : Bool) (v99 : Int64) : Bool := (if (v99 &&& ((p3 ||| (-9223372036854775808 : Int64)) ^^^ (-1 : Int64))) = (p2 &&& ((p3 ||| (-9223372036854775808 : Int64)) ^^^ (-1 : Int64))) then (if (f_M_below v99 ((r0 p1).2.2.1)) = true then f_M_has1_186 r0 p1 p2 p3 p4 else (if (f_M_below ((r0 p1).2.2.2.1) v99) = true then f_M_has1_186 r0 p1 p2 p3 p4 else (if v99 < ((r0 p1).2.2.2.2.1) then f_M_has1_186 r0 p1 p2 p3 p4 else (if ((r0 p1).2.2.2.2.2.1) < v99 then f_M_has1_186 r0 p1 p2 p3 p4 else true)))) else f_M_has1_186 r0 p1 p2 p3 p4)
def f_M_has1_86 (r0 : (Nat → VV)) (p1 : Nat) (p2 : Int64) (p3 : Int64) (p4 : Bool) : Bool := false
def f_M_has1_74 (r0 : (Nat → VV)) (p1 : Nat) (p2 : Int64) (p3 : Int64) (p4 : Bool) (s32_0 : Bool) (s74_0 : Bool) : Bool := (if s32_0 = true then (if s74_0 = true then f_M_has1_99v r0 p1 p2 p3 p4 (f_M_end_ r0 p1 p2 p3 p4 true) else f_M_has1_86 r0 p1 p2 p3 p4) else f_M_has1_86 r0 p1 p2 p3 p4)
def f_M_has1_32 (r0 : (Nat → VV)) (p1 : Nat) (p2 : Int64) (p3 : Int64) (p4 : Bool) (s32_0 : Bool) : Bool := (if p4 = true then (if ((r0 p1).2.2.2.2.1) < 0 then f_M_has1_74 r0 p1 p2 p3 p4 s32_0 true else f_M_has1_74 r0 p1 p2 p3 p4 s32_0 false) else (if ((r0 p1).2.2.2.2.2.1) < 0 then f_M_has1_74 r0 p1 p2 p3 p4 s32_0 false else f_M_has1_74 r0 p1 p2 p3 p4 s32_0 true))
def f_M_has1_27 (r0 : (Nat → VV)) (p1 : Nat) (p2 : Int64) (p3 : Int64) (p4 : Bool) : Bool := f_M_has1_32 r0 p1 p2 p3 p4 true
def f_M_has1_22 (r0 : (Nat → VV)) (p1 : Nat) (p2 : Int64) (p3 : Int64) (p4 : Bool) (s22_0 : Bool) : Bool := (if (bI s22_0) = (bI p4) then f_M_has1_27 r0 p1 p2 p3 p4 else f_M_has1_32 r0 p1 p2 p3 p4 false)
def f_M_has1 (r0 : (Nat → VV)) (p1 : Nat) (p2 : Int64) (p3 : Int64) (p4 : Bool) : Bool := (if (p3 &&& (-9223372036854775808 : Int64)) = 0 then (if p2 < 0 then f_M_has1_22 r0 p1 p2 p3 p4 true else f_M_has1_22 r0 p1 p2 p3 p4 false) else f_M_has1_27 r0 p1 p2 p3 p4)
set_option maxRecDepth 100000 in
set_option maxHeartbeats 4000000 in
theorem c_M_has1 (l : Launch) (dC : Nat → ClassId) (dI : Nat → Nat → Nat) (ad : Nat → Nat) (cJ cZ : ClassId) (c0 : Int32) (r0 : (Nat → VV)) (w0 : (Nat → Int64)) (s0 : Int32) (p1 : Nat) (p2 : Int64) (p3 : Int64) (p4 : Bool) (b1 : p1 < 24) : Met l y_M_has1 w_M_has1 ({ frames := 3, cells := 0, slots := 0, locals := 88 } : Room) (va_Pc [.ref (ad 0), .int (nI p1), .long (p2), .long (p3), .int (bI p4)] (nR (dC, dI) (mT cJ cZ) (mW ad cJ cZ c0 r0 w0 s0))) (vp_Si (fun r => r = bI (f_M_has1 r0 p1 p2 p3 p4))) 0 0 (fun _ => False) := by
  refine Met.ofW (cc := b_M_has1) (maxL := 11) (ret := (some .boolean)) (by decide) rfl ?_
  intro p e s m args below meth c s₁ B hml hv
  obtain ⟨rfl, hP, hK⟩ := hv
  have hx := B.exec
  have hb := B.bytes
  have hr := B.returns
  have hts := atoms_spec (ws := w_M_has1) B.pre
  have hG : ∀ w ∈ gM, w.before _ s = true := fun w h => hts w (List.mem_cons_of_mem _ h)
  have hown : s.vm.findClass R_M = some m.cls := findClass_of_methodNamed B.named
  have hlocks := B.notSynchronized
  have hl := lv_entry ([.ref (ad 0), .int (nI p1), .long (p2), .long (p3), .int (bI p4)]) (n := 11) (Nat.le_of_ble_eq_true rfl)
  rw [lg_entry_eq]
  generalize (lg_sl ([.ref (ad 0), .int (nI p1), .long (p2), .long (p3), .int (bI p4)]) ++ List.replicate (11 - (lg_sl ([.ref (ad 0), .int (nI p1), .long (p2), .long (p3), .int (bI p4)])).length) Slot.unset).toArray = ls at hl ⊢
  have hl : lv_has ls 11 [(0, .ref (ad 0)), (1, .int (nI p1)), (2, .long (p2)), (4, .long (p3)), (6, .int (bI p4))] := hl
  have K186 : ∀ (hj : f_M_has1 r0 p1 p2 p3 p4 = f_M_has1_186 r0 p1 p2 p3 p4) (ls : Array Slot) (hl : lv_has ls 11 []), W p l e (headSpec w_M_has1 ({ frames := 3, cells := 0, slots := 0, locals := 88 } : Room)).room s m ([.ref (ad 0), .int (nI p1), .long (p2), .long (p3), .int (bI p4)] : List Value).toArray below meth c s.heap [] 0 0 (MQ below (vp_Si (fun r => r = bI (f_M_has1 r0 p1 p2 p3 p4))) ([.ref (ad 0), .int (nI p1), .long (p2), .long (p3), .int (bI p4)] : List Value).toArray s 0 0 (fun _ => False)) (F0 m 186 ls []) := by
    intro hj ls hl
    refine lv_iconst (v := 0) hx hb d_M_has1_186 (by decide) ?_
    have fe : f_M_has1 r0 p1 p2 p3 p4 = false := hj.trans rfl
    exact W.zret (v := bI false) hx hb hr (bI_n false) (fun t ht hW => ⟨_, rfl, by rw [fe], ht⟩) t_nil d_M_has1_187
  have K99v : ∀ (v99 : Int64) (hj : f_M_has1 r0 p1 p2 p3 p4 = f_M_has1_99v r0 p1 p2 p3 p4 v99) (ls : Array Slot) (hl : lv_has ls 11 [(9, .long (v99)), (0, .ref (ad 0)), (1, .int (nI p1)), (2, .long (p2)), (4, .long (p3))]), W p l e (headSpec w_M_has1 ({ frames := 3, cells := 0, slots := 0, locals := 88 } : Room)).room s m ([.ref (ad 0), .int (nI p1), .long (p2), .long (p3), .int (bI p4)] : List Value).toArray below meth c s.heap [] 0 0 (MQ below (vp_Si (fun r => r = bI (f_M_has1 r0 p1 p2 p3 p4))) ([.ref (ad 0), .int (nI p1), .long (p2), .long (p3), .int (bI p4)] : List Value).toArray s 0 0 (fun _ => False)) (F0 m 101 ls []) := by
    intro v99 hj ls hl
    refine lv_lload hx hb d_M_has1_101 (lv_at hl 0 rfl) ?_
    refine lv_lload hx hb d_M_has1_103 (lv_at hl 4 rfl) ?_
    refine lv_ldc2 (v := -9223372036854775808) hx hb hown (hG (.constantLong R_M 54 (-9223372036854775808)) gx43) d_M_has1_105 ?_
    refine lv_lor hx hb d_M_has1_108 ?_
    refine lv_ldc2 (v := -1) hx hb hown (hG (.constantLong R_M 49 (-1)) gx42) d_M_has1_109 ?_
    refine lv_lxor hx hb d_M_has1_112 ?_
    refine lv_land hx hb d_M_has1_113 ?_
    refine lv_lload_n hx hb d_M_has1_114 rfl (lv_at hl 3 rfl) ?_
    refine lv_lload hx hb d_M_has1_115 (lv_at hl 4 rfl) ?_
    refine lv_ldc2 (v := -9223372036854775808) hx hb hown (hG (.constantLong R_M 54 (-9223372036854775808)) gx43) d_M_has1_117 ?_
    refine lv_lor hx hb d_M_has1_120 ?_
    refine lv_ldc2 (v := -1) hx hb hown (hG (.constantLong R_M 49 (-1)) gx42) d_M_has1_121 ?_
    refine lv_lxor hx hb d_M_has1_124 ?_
    refine lv_land hx hb d_M_has1_125 ?_
    refine wl_ne (tgt := 186) hx hb d_M_has1_126 d_M_has1_127 (by decide) (fun e1_186 => ?_) (fun e1_186 => ?_)
    · exact K186 (hj.trans (by unfold f_M_has1_99v; first | with_reducible exact if_neg e1_186 | exact if_neg e1_186)) ls (lv_sub hl [] rfl)
    · refine lv_lload hx hb d_M_has1_130 (lv_at hl 0 rfl) ?_
      refine lv_aload_n hx hb d_M_has1_132 rfl (lv_at hl 1 rfl) ?_
      refine va_get (D := (dC, dI)) (ci := 2) (v := .ref (ad 3)) (C := R_M) (T := F_M) (N := 10) hx hb hts (fun w h => List.mem_cons_of_mem _ (uw_M w h)) hown hK hP 0 rfl rfl 3 (by decide) (hG (.fieldLink R_M 16 "ValueSieveModel" "low" "[J") gx12) (fun _ h9 => h9) rfl d_M_has1_133 ?_
      refine lv_iload_n hx hb d_M_has1_136 rfl (lv_at hl 2 rfl) ?_
      refine ml_3 (P := p1) hx hb hK hP rfl b1 d_M_has1_137 ?_
      refine rc_i (W.runS (As := [.long (v99), .long ((r0 p1).2.2.1)]) (rest := []) ⟨hx, hb, hml, hown, hts⟩ (c_M_below l v99 ((r0 p1).2.2.1)) (va_cwS 2 hts (gxS gx57 gx58 gx0 gx59) rfl rfl rfl (by decide +kernel) ⟨(Nat.le_of_ble_eq_true rfl), (Nat.le_of_ble_eq_true rfl)⟩) ⟨bl0, fun U hU hW => ⟨rfl, trivial⟩⟩ rfl rfl hl.1 rfl (lv_room (Nat.le_of_ble_eq_true rfl)) d_M_has1_138 ⟨Nat.zero_le _, Nat.zero_le _⟩) ?_
      refine wz_ne (tgt := 186) hx hb d_M_has1_141 (by decide) (fun e2_186 => ?_) (fun e2_186 => ?_)
      · exact K186 (hj.trans (by unfold f_M_has1_99v; first | with_reducible exact (if_pos e1_186).trans (if_pos e2_186) | exact (if_pos e1_186).trans (if_pos e2_186))) ls (lv_sub hl [] rfl)
      · refine lv_aload_n hx hb d_M_has1_144 rfl (lv_at hl 1 rfl) ?_
        refine va_get (D := (dC, dI)) (ci := 2) (v := .ref (ad 4)) (C := R_M) (T := F_M) (N := 10) hx hb hts (fun w h => List.mem_cons_of_mem _ (uw_M w h)) hown hK hP 0 rfl rfl 4 (by decide) (hG (.fieldLink R_M 19 "ValueSieveModel" "high" "[J") gx13) (fun _ h9 => h9) rfl d_M_has1_145 ?_
        refine lv_iload_n hx hb d_M_has1_148 rfl (lv_at hl 2 rfl) ?_
        refine ml_4 (P := p1) hx hb hK hP rfl b1 d_M_has1_149 ?_
        refine lv_lload hx hb d_M_has1_150 (lv_at hl 0 rfl) ?_
        refine rc_i (W.runS (As := [.long ((r0 p1).2.2.2.1), .long (v99)]) (rest := []) ⟨hx, hb, hml, hown, hts⟩ (c_M_below l ((r0 p1).2.2.2.1) v99) (va_cwS 2 hts (gxS gx57 gx58 gx0 gx59) rfl rfl rfl (by decide +kernel) ⟨(Nat.le_of_ble_eq_true rfl), (Nat.le_of_ble_eq_true rfl)⟩) ⟨bl0, fun U hU hW => ⟨rfl, trivial⟩⟩ rfl rfl hl.1 rfl (lv_room (Nat.le_of_ble_eq_true rfl)) d_M_has1_152 ⟨Nat.zero_le _, Nat.zero_le _⟩) ?_
        refine wz_ne (tgt := 186) hx hb d_M_has1_155 (by decide) (fun e3_186 => ?_) (fun e3_186 => ?_)
        · exact K186 (hj.trans (by unfold f_M_has1_99v; first | with_reducible exact (if_pos e1_186).trans ((if_neg e2_186).trans (if_pos e3_186)) | exact (if_pos e1_186).trans ((if_neg e2_186).trans (if_pos e3_186)))) ls (lv_sub hl [] rfl)
        · refine lv_lload hx hb d_M_has1_158 (lv_at hl 0 rfl) ?_
          refine lv_aload_n hx hb d_M_has1_160 rfl (lv_at hl 1 rfl) ?_
          refine va_get (D := (dC, dI)) (ci := 2) (v := .ref (ad 5)) (C := R_M) (T := F_M) (N := 10) hx hb hts (fun w h => List.mem_cons_of_mem _ (uw_M w h)) hown hK hP 0 rfl rfl 5 (by decide) (hG (.fieldLink R_M 22 "ValueSieveModel" "least" "[J") gx14) (fun _ h9 => h9) rfl d_M_has1_161 ?_
          refine lv_iload_n hx hb d_M_has1_164 rfl (lv_at hl 2 rfl) ?_
          refine ml_5 (P := p1) hx hb hK hP rfl b1 d_M_has1_165 ?_
          refine wl_lt (tgt := 186) hx hb d_M_has1_166 d_M_has1_167 (by decide) (fun e4_186 => ?_) (fun e4_186 => ?_)
          · exact K186 (hj.trans (by unfold f_M_has1_99v; first | with_reducible exact (if_pos e1_186).trans ((if_neg e2_186).trans ((if_neg e3_186).trans (if_pos e4_186))) | exact (if_pos e1_186).trans ((if_neg e2_186).trans ((if_neg e3_186).trans (if_pos e4_186))))) ls (lv_sub hl [] rfl)
          · refine lv_lload hx hb d_M_has1_170 (lv_at hl 0 rfl) ?_
            refine lv_aload_n hx hb d_M_has1_172 rfl (lv_at hl 1 rfl) ?_
            refine va_get (D := (dC, dI)) (ci := 2) (v := .ref (ad 6)) (C := R_M) (T := F_M) (N := 10) hx hb hts (fun w h => List.mem_cons_of_mem _ (uw_M w h)) hown hK hP 0 rfl rfl 6 (by decide) (hG (.fieldLink R_M 25 "ValueSieveModel" "greatest" "[J") gx15) (fun _ h9 => h9) rfl d_M_has1_173 ?_
            refine lv_iload_n hx hb d_M_has1_176 rfl (lv_at hl 2 rfl) ?_
            refine ml_6 (P := p1) hx hb hK hP rfl b1 d_M_has1_177 ?_
            refine wl_gt (tgt := 186) hx hb d_M_has1_178 d_M_has1_179 (by decide) (fun e5_186 => ?_) (fun e5_186 => ?_)
            · exact K186 (hj.trans (by unfold f_M_has1_99v; first | with_reducible exact (if_pos e1_186).trans ((if_neg e2_186).trans ((if_neg e3_186).trans ((if_neg e4_186).trans (if_pos e5_186)))) | exact (if_pos e1_186).trans ((if_neg e2_186).trans ((if_neg e3_186).trans ((if_neg e4_186).trans (if_pos e5_186)))))) ls (lv_sub hl [] rfl)
            · refine lv_iconst (v := 1) hx hb d_M_has1_182 (by decide) ?_
              refine lv_goto (tgt := 187) hx hb d_M_has1_183 (by decide) ?_
              have fe : f_M_has1 r0 p1 p2 p3 p4 = true := hj.trans (by unfold f_M_has1_99v; first | with_reducible exact (if_pos e1_186).trans ((if_neg e2_186).trans ((if_neg e3_186).trans ((if_neg e4_186).trans (if_neg e5_186)))) | exact (if_pos e1_186).trans ((if_neg e2_186).trans ((if_neg e3_186).trans ((if_neg e4_186).trans (if_neg e5_186)))))
              exact W.zret (v := bI true) hx hb hr (bI_n true) (fun t ht hW => ⟨_, rfl, by rw [fe], ht⟩) t_nil d_M_has1_187
  have K86 : ∀ (hj : f_M_has1 r0 p1 p2 p3 p4 = f_M_has1_86 r0 p1 p2 p3 p4) (ls : Array Slot) (hl : lv_has ls 11 []), W p l e (headSpec w_M_has1 ({ frames := 3, cells := 0, slots := 0, locals := 88 } : Room)).room s m ([.ref (ad 0), .int (nI p1), .long (p2), .long (p3), .int (bI p4)] : List Value).toArray below meth c s.heap [] 0 0 (MQ below (vp_Si (fun r => r = bI (f_M_has1 r0 p1 p2 p3 p4))) ([.ref (ad 0), .int (nI p1), .long (p2), .long (p3), .int (bI p4)] : List Value).toArray s 0 0 (fun _ => False)) (F0 m 86 ls []) := by
    intro hj ls hl
    refine lv_iconst (v := 0) hx hb d_M_has1_86 (by decide) ?_
    have fe : f_M_has1 r0 p1 p2 p3 p4 = false := hj.trans rfl
    exact W.zret (v := bI false) hx hb hr (bI_n false) (fun t ht hW => ⟨_, rfl, by rw [fe], ht⟩) t_nil d_M_has1_87
  have K74 : ∀ (s32_0 : Bool) (s74_0 : Bool) (hj : f_M_has1 r0 p1 p2 p3 p4 = f_M_has1_74 r0 p1 p2 p3 p4 s32_0 s74_0) (ls : Array Slot) (hl : lv_has ls 11 [(7, .int (bI s32_0)), (0, .ref (ad 0)), (1, .int (nI p1)), (2, .long (p2)), (4, .long (p3)), (6, .int (bI p4))]), W p l e (headSpec w_M_has1 ({ frames := 3, cells := 0, slots := 0, locals := 88 } : Room)).room s m ([.ref (ad 0), .int (nI p1), .long (p2), .long (p3), .int (bI p4)] : List Value).toArray below meth c s.heap [] 0 0 (MQ below (vp_Si (fun r => r = bI (f_M_has1 r0 p1 p2 p3 p4))) ([.ref (ad 0), .int (nI p1), .long (p2), .long (p3), .int (bI p4)] : List Value).toArray s 0 0 (fun _ => False)) (F0 m 74 ls [.int (bI s74_0)]) := by
    intro s32_0 s74_0 hj ls hl
    refine lv_istore (lv' := [(8, .int (bI s74_0)), (7, .int (bI s32_0)), (0, .ref (ad 0)), (1, .int (nI p1)), (2, .long (p2)), (4, .long (p3)), (6, .int (bI p4))]) hx hb d_M_has1_74 hl (by decide) rfl (fun ls hl => ?_)
    refine lv_iload hx hb d_M_has1_76 (lv_at hl 1 rfl) ?_
    refine wz_eq (tgt := 86) hx hb d_M_has1_78 (by decide) (fun e1_86 => ?_) (fun e1_86 => ?_)
    · exact K86 (hj.trans (by unfold f_M_has1_74; first | with_reducible exact if_neg e1_86 | exact if_neg e1_86)) ls (lv_sub hl [] rfl)
    · refine lv_iload hx hb d_M_has1_81 (lv_at hl 0 rfl) ?_
      refine wz_ne (tgt := 88) hx hb d_M_has1_83 (by decide) (fun e2_88 => ?_) (fun e2_88 => ?_)
      · refine lv_aload_n hx hb d_M_has1_88 rfl (lv_at hl 2 rfl) ?_
        refine lv_iload_n hx hb d_M_has1_89 rfl (lv_at hl 3 rfl) ?_
        refine lv_lload_n hx hb d_M_has1_90 rfl (lv_at hl 4 rfl) ?_
        refine lv_lload hx hb d_M_has1_91 (lv_at hl 5 rfl) ?_
        refine lv_iload hx hb d_M_has1_93 (lv_at hl 6 rfl) ?_
        refine lv_iconst (v := 1) hx hb d_M_has1_95 (by decide) ?_
        refine rc_l (W.runV (As := [.int (nI p1), .long (p2), .long (p3), .int (bI p4), .int (1)]) (rest := []) ⟨hx, hb, hml, hown, hts⟩ (c_M_end_ l dC dI ad cJ cZ c0 r0 w0 s0 p1 p2 p3 p4 true b1) (cwV 5 hts (gxV gx78 gx79 gx271 gx0 gx80) rfl rfl rfl (by decide +kernel) ⟨(Nat.le_of_ble_eq_true rfl), (Nat.le_of_ble_eq_true rfl)⟩) ⟨bln, va_recv hK hP (ci := 2) (q0 := 0) rfl rfl, fun U hU hW => ⟨rfl, by rw [hU]; exact hP, va_K.moved hW.alike hK⟩⟩ rfl rfl hl.1 rfl (lv_room (Nat.le_of_ble_eq_true rfl)) d_M_has1_96 ⟨Nat.zero_le _, Nat.zero_le _⟩) ?_
        refine lv_topl (fun v99 ev99 => ?_)
        refine lv_lstore (lv' := [(9, .long (v99)), (8, .int (bI s74_0)), (7, .int (bI s32_0)), (0, .ref (ad 0)), (1, .int (nI p1)), (2, .long (p2)), (4, .long (p3)), (6, .int (bI p4))]) hx hb d_M_has1_99 hl (by decide) rfl (fun ls hl => ?_)
        exact K99v v99 (Eq.trans (hj.trans (by unfold f_M_has1_74; first | with_reducible exact (if_pos e1_86).trans (if_pos e2_88) | exact (if_pos e1_86).trans (if_pos e2_88))) (congrArg (fun v99 => f_M_has1_99v r0 p1 p2 p3 p4 v99) ev99.symm)) ls (lv_sub hl [0, 3, 4, 5, 6] rfl)
      · exact K86 (hj.trans (by unfold f_M_has1_74; first | with_reducible exact (if_pos e1_86).trans (if_neg e2_88) | exact (if_pos e1_86).trans (if_neg e2_88))) ls (lv_sub hl [] rfl)
  have K32 : ∀ (s32_0 : Bool) (hj : f_M_has1 r0 p1 p2 p3 p4 = f_M_has1_32 r0 p1 p2 p3 p4 s32_0) (ls : Array Slot) (hl : lv_has ls 11 [(0, .ref (ad 0)), (1, .int (nI p1)), (2, .long (p2)), (4, .long (p3)), (6, .int (bI p4))]), W p l e (headSpec w_M_has1 ({ frames := 3, cells := 0, slots := 0, locals := 88 } : Room)).room s m ([.ref (ad 0), .int (nI p1), .long (p2), .long (p3), .int (bI p4)] : List Value).toArray below meth c s.heap [] 0 0 (MQ below (vp_Si (fun r => r = bI (f_M_has1 r0 p1 p2 p3 p4))) ([.ref (ad 0), .int (nI p1), .long (p2), .long (p3), .int (bI p4)] : List Value).toArray s 0 0 (fun _ => False)) (F0 m 32 ls [.int (bI s32_0)]) := by
    intro s32_0 hj ls hl
    refine lv_istore (lv' := [(7, .int (bI s32_0)), (0, .ref (ad 0)), (1, .int (nI p1)), (2, .long (p2)), (4, .long (p3)), (6, .int (bI p4))]) hx hb d_M_has1_32 hl (by decide) rfl (fun ls hl => ?_)
    refine lv_iload hx hb d_M_has1_34 (lv_at hl 5 rfl) ?_
    refine wz_eq (tgt := 58) hx hb d_M_has1_36 (by decide) (fun e1_58 => ?_) (fun e1_58 => ?_)
    · refine lv_aload_n hx hb d_M_has1_58 rfl (lv_at hl 1 rfl) ?_
      refine va_get (D := (dC, dI)) (ci := 2) (v := .ref (ad 6)) (C := R_M) (T := F_M) (N := 10) hx hb hts (fun w h => List.mem_cons_of_mem _ (uw_M w h)) hown hK hP 0 rfl rfl 6 (by decide) (hG (.fieldLink R_M 25 "ValueSieveModel" "greatest" "[J") gx15) (fun _ h9 => h9) rfl d_M_has1_59 ?_
      refine lv_iload_n hx hb d_M_has1_62 rfl (lv_at hl 2 rfl) ?_
      refine ml_6 (P := p1) hx hb hK hP rfl b1 d_M_has1_63 ?_
      refine lv_lconst (v := 0) hx hb d_M_has1_64 (by decide) ?_
      refine wl_lt (tgt := 73) hx hb d_M_has1_65 d_M_has1_66 (by decide) (fun e2_73 => ?_) (fun e2_73 => ?_)
      · refine lv_iconst (v := 0) hx hb d_M_has1_73 (by decide) ?_
        exact K74 s32_0 false (hj.trans (by unfold f_M_has1_32; first | with_reducible exact (if_neg e1_58).trans (if_pos e2_73) | exact (if_neg e1_58).trans (if_pos e2_73))) ls (lv_sub hl [0, 1, 2, 3, 4, 5] rfl)
      · refine lv_iconst (v := 1) hx hb d_M_has1_69 (by decide) ?_
        refine lv_goto (tgt := 74) hx hb d_M_has1_70 (by decide) ?_
        exact K74 s32_0 true (hj.trans (by unfold f_M_has1_32; first | with_reducible exact (if_neg e1_58).trans (if_neg e2_73) | exact (if_neg e1_58).trans (if_neg e2_73))) ls (lv_sub hl [0, 1, 2, 3, 4, 5] rfl)
    · refine lv_aload_n hx hb d_M_has1_39 rfl (lv_at hl 1 rfl) ?_
      refine va_get (D := (dC, dI)) (ci := 2) (v := .ref (ad 5)) (C := R_M) (T := F_M) (N := 10) hx hb hts (fun w h => List.mem_cons_of_mem _ (uw_M w h)) hown hK hP 0 rfl rfl 5 (by decide) (hG (.fieldLink R_M 22 "ValueSieveModel" "least" "[J") gx14) (fun _ h9 => h9) rfl d_M_has1_40 ?_
      refine lv_iload_n hx hb d_M_has1_43 rfl (lv_at hl 2 rfl) ?_
      refine ml_5 (P := p1) hx hb hK hP rfl b1 d_M_has1_44 ?_
      refine lv_lconst (v := 0) hx hb d_M_has1_45 (by decide) ?_
      refine wl_ge (tgt := 54) hx hb d_M_has1_46 d_M_has1_47 (by decide) (fun e3_54 => ?_) (fun e3_54 => ?_)
      · refine lv_iconst (v := 0) hx hb d_M_has1_54 (by decide) ?_
        refine lv_goto (tgt := 74) hx hb d_M_has1_55 (by decide) ?_
        exact K74 s32_0 false (hj.trans (by unfold f_M_has1_32; first | with_reducible exact (if_pos e1_58).trans (if_neg e3_54) | exact (if_pos e1_58).trans (if_neg e3_54))) ls (lv_sub hl [0, 1, 2, 3, 4, 5] rfl)
      · refine lv_iconst (v := 1) hx hb d_M_has1_50 (by decide) ?_
        refine lv_goto (tgt := 74) hx hb d_M_has1_51 (by decide) ?_
        exact K74 s32_0 true (hj.trans (by unfold f_M_has1_32; first | with_reducible exact (if_pos e1_58).trans (if_pos e3_54) | exact (if_pos e1_58).trans (if_pos e3_54))) ls (lv_sub hl [0, 1, 2, 3, 4, 5] rfl)
  have K27 : ∀ (hj : f_M_has1 r0 p1 p2 p3 p4 = f_M_has1_27 r0 p1 p2 p3 p4) (ls : Array Slot) (hl : lv_has ls 11 [(0, .ref (ad 0)), (1, .int (nI p1)), (2, .long (p2)), (4, .long (p3)), (6, .int (bI p4))]), W p l e (headSpec w_M_has1 ({ frames := 3, cells := 0, slots := 0, locals := 88 } : Room)).room s m ([.ref (ad 0), .int (nI p1), .long (p2), .long (p3), .int (bI p4)] : List Value).toArray below meth c s.heap [] 0 0 (MQ below (vp_Si (fun r => r = bI (f_M_has1 r0 p1 p2 p3 p4))) ([.ref (ad 0), .int (nI p1), .long (p2), .long (p3), .int (bI p4)] : List Value).toArray s 0 0 (fun _ => False)) (F0 m 27 ls []) := by
    intro hj ls hl
    refine lv_iconst (v := 1) hx hb d_M_has1_27 (by decide) ?_
    refine lv_goto (tgt := 32) hx hb d_M_has1_28 (by decide) ?_
    exact K32 true (hj.trans rfl) ls (lv_sub hl [0, 1, 2, 3, 4] rfl)
  have K22 : ∀ (s22_0 : Bool) (hj : f_M_has1 r0 p1 p2 p3 p4 = f_M_has1_22 r0 p1 p2 p3 p4 s22_0) (ls : Array Slot) (hl : lv_has ls 11 [(0, .ref (ad 0)), (1, .int (nI p1)), (2, .long (p2)), (4, .long (p3)), (6, .int (bI p4))]), W p l e (headSpec w_M_has1 ({ frames := 3, cells := 0, slots := 0, locals := 88 } : Room)).room s m ([.ref (ad 0), .int (nI p1), .long (p2), .long (p3), .int (bI p4)] : List Value).toArray below meth c s.heap [] 0 0 (MQ below (vp_Si (fun r => r = bI (f_M_has1 r0 p1 p2 p3 p4))) ([.ref (ad 0), .int (nI p1), .long (p2), .long (p3), .int (bI p4)] : List Value).toArray s 0 0 (fun _ => False)) (F0 m 22 ls [.int (bI s22_0)]) := by
    intro s22_0 hj ls hl
    refine lv_iload hx hb d_M_has1_22 (lv_at hl 4 rfl) ?_
    refine lv_icmp_ne (tgt := 31) hx hb d_M_has1_24 (by decide) (fun e1_31 => ?_) (fun e1_31 => ?_)
    · refine lv_iconst (v := 0) hx hb d_M_has1_31 (by decide) ?_
      exact K32 false (hj.trans (by unfold f_M_has1_22; first | with_reducible exact if_neg e1_31 | exact if_neg e1_31)) ls (lv_sub hl [0, 1, 2, 3, 4] rfl)
    · exact K27 (hj.trans (by unfold f_M_has1_22; first | with_reducible exact if_pos e1_31 | exact if_pos e1_31)) ls (lv_sub hl [0, 1, 2, 3, 4] rfl)
  refine lv_lload hx hb d_M_has1_0 (lv_at hl 3 rfl) ?_
  refine lv_ldc2 (v := -9223372036854775808) hx hb hown (hG (.constantLong R_M 54 (-9223372036854775808)) gx43) d_M_has1_2 ?_
  refine lv_land hx hb d_M_has1_5 ?_
  refine lv_lconst (v := 0) hx hb d_M_has1_6 (by decide) ?_
  refine wl_ne (tgt := 27) hx hb d_M_has1_7 d_M_has1_8 (by decide) (fun e1_27 => ?_) (fun e1_27 => ?_)
  · exact K27 (by unfold f_M_has1; first | with_reducible exact if_neg e1_27 | exact if_neg e1_27) ls (lv_sub hl [0, 1, 2, 3, 4] rfl)
  · refine lv_lload_n hx hb d_M_has1_11 rfl (lv_at hl 2 rfl) ?_
    refine lv_lconst (v := 0) hx hb d_M_has1_12 (by decide) ?_
    refine wl_ge (tgt := 21) hx hb d_M_has1_13 d_M_has1_14 (by decide) (fun e2_21 => ?_) (fun e2_21 => ?_)
    · refine lv_iconst (v := 0) hx hb d_M_has1_21 (by decide) ?_
      exact K22 false (by unfold f_M_has1; first | with_reducible exact (if_pos e1_27).trans (if_neg e2_21) | exact (if_pos e1_27).trans (if_neg e2_21)) ls (lv_sub hl [0, 1, 2, 3, 4] rfl)
    · refine lv_iconst (v := 1) hx hb d_M_has1_17 (by decide) ?_
      refine lv_goto (tgt := 22) hx hb d_M_has1_18 (by decide) ?_
      exact K22 true (by unfold f_M_has1; first | with_reducible exact (if_pos e1_27).trans (if_pos e2_21) | exact (if_pos e1_27).trans (if_pos e2_21)) ls (lv_sub hl [0, 1, 2, 3, 4] rfl)
-- hasAny
theorem d_M_hasAny_0 : decode b_M_hasAny 0 = .ok (.aload_n 0, 1) := by decide +kernel
theorem d_M_hasAny_1 : decode b_M_hasAny 1 = .ok (.iload_n 1, 1) := by decide +kernel
theorem d_M_hasAny_2 : decode b_M_hasAny 2 = .ok (.lload_n 2, 1) := by decide +kernel
theorem d_M_hasAny_3 : decode b_M_hasAny 3 = .ok (.lload 4, 2) := by decide +kernel
theorem d_M_hasAny_5 : decode b_M_hasAny 5 = .ok (.iconst 0, 1) := by decide +kernel
theorem d_M_hasAny_6 : decode b_M_hasAny 6 = .ok (.invokevirtual 75, 3) := by decide +kernel
theorem d_M_hasAny_9 : decode b_M_hasAny 9 = .ok (.ifCond .ne 15, 3) := by decide +kernel
theorem d_M_hasAny_12 : decode b_M_hasAny 12 = .ok (.aload_n 0, 1) := by decide +kernel
theorem d_M_hasAny_13 : decode b_M_hasAny 13 = .ok (.iload_n 1, 1) := by decide +kernel
theorem d_M_hasAny_14 : decode b_M_hasAny 14 = .ok (.lload_n 2, 1) := by decide +kernel
theorem d_M_hasAny_15 : decode b_M_hasAny 15 = .ok (.lload 4, 2) := by decide +kernel
theorem d_M_hasAny_17 : decode b_M_hasAny 17 = .ok (.iconst 1, 1) := by decide +kernel
theorem d_M_hasAny_18 : decode b_M_hasAny 18 = .ok (.invokevirtual 75, 3) := by decide +kernel
theorem d_M_hasAny_21 : decode b_M_hasAny 21 = .ok (.ifCond .eq 7, 3) := by decide +kernel
theorem d_M_hasAny_24 : decode b_M_hasAny 24 = .ok (.iconst 1, 1) := by decide +kernel
theorem d_M_hasAny_25 : decode b_M_hasAny 25 = .ok (.goto 4, 3) := by decide +kernel
theorem d_M_hasAny_28 : decode b_M_hasAny 28 = .ok (.iconst 0, 1) := by decide +kernel
theorem d_M_hasAny_29 : decode b_M_hasAny 29 = .ok (.ireturn, 1) := by decide +kernel
def f_M_hasAny_24 (r0 : (Nat → VV)) (p1 : Nat) (p2 : Int64) (p3 : Int64) : Bool := true
def f_M_hasAny (r0 : (Nat → VV)) (p1 : Nat) (p2 : Int64) (p3 : Int64) : Bool := (if (f_M_has1 r0 p1 p2 p3 false) = true then f_M_hasAny_24 r0 p1 p2 p3 else (if (f_M_has1 r0 p1 p2 p3 true) = true then f_M_hasAny_24 r0 p1 p2 p3 else false))
set_option maxRecDepth 100000 in
set_option maxHeartbeats 4000000 in
theorem c_M_hasAny (l : Launch) (dC : Nat → ClassId) (dI : Nat → Nat → Nat) (ad : Nat → Nat) (cJ cZ : ClassId) (c0 : Int32) (r0 : (Nat → VV)) (w0 : (Nat → Int64)) (s0 : Int32) (p1 : Nat) (p2 : Int64) (p3 : Int64) (b1 : p1 < 24) : Met l y_M_hasAny w_M_hasAny ({ frames := 4, cells := 0, slots := 0, locals := 118 } : Room) (va_Pc [.ref (ad 0), .int (nI p1), .long (p2), .long (p3)] (nR (dC, dI) (mT cJ cZ) (mW ad cJ cZ c0 r0 w0 s0))) (vp_Si (fun r => r = bI (f_M_hasAny r0 p1 p2 p3))) 0 0 (fun _ => False) := by
  refine Met.ofW (cc := b_M_hasAny) (maxL := 6) (ret := (some .boolean)) (by decide) rfl ?_
  intro p e s m args below meth c s₁ B hml hv
  obtain ⟨rfl, hP, hK⟩ := hv
  have hx := B.exec
  have hb := B.bytes
  have hr := B.returns
  have hts := atoms_spec (ws := w_M_hasAny) B.pre
  have hG : ∀ w ∈ gM, w.before _ s = true := fun w h => hts w (List.mem_cons_of_mem _ h)
  have hown : s.vm.findClass R_M = some m.cls := findClass_of_methodNamed B.named
  have hlocks := B.notSynchronized
  have hl := lv_entry ([.ref (ad 0), .int (nI p1), .long (p2), .long (p3)]) (n := 6) (Nat.le_of_ble_eq_true rfl)
  rw [lg_entry_eq]
  generalize (lg_sl ([.ref (ad 0), .int (nI p1), .long (p2), .long (p3)]) ++ List.replicate (6 - (lg_sl ([.ref (ad 0), .int (nI p1), .long (p2), .long (p3)])).length) Slot.unset).toArray = ls at hl ⊢
  have hl : lv_has ls 6 [(0, .ref (ad 0)), (1, .int (nI p1)), (2, .long (p2)), (4, .long (p3))] := hl
  have K24 : ∀ (hj : f_M_hasAny r0 p1 p2 p3 = f_M_hasAny_24 r0 p1 p2 p3) (ls : Array Slot) (hl : lv_has ls 6 []), W p l e (headSpec w_M_hasAny ({ frames := 4, cells := 0, slots := 0, locals := 118 } : Room)).room s m ([.ref (ad 0), .int (nI p1), .long (p2), .long (p3)] : List Value).toArray below meth c s.heap [] 0 0 (MQ below (vp_Si (fun r => r = bI (f_M_hasAny r0 p1 p2 p3))) ([.ref (ad 0), .int (nI p1), .long (p2), .long (p3)] : List Value).toArray s 0 0 (fun _ => False)) (F0 m 24 ls []) := by
    intro hj ls hl
    refine lv_iconst (v := 1) hx hb d_M_hasAny_24 (by decide) ?_
    refine lv_goto (tgt := 29) hx hb d_M_hasAny_25 (by decide) ?_
    have fe : f_M_hasAny r0 p1 p2 p3 = true := hj.trans rfl
    exact W.zret (v := bI true) hx hb hr (bI_n true) (fun t ht hW => ⟨_, rfl, by rw [fe], ht⟩) t_nil d_M_hasAny_29
  refine lv_aload_n hx hb d_M_hasAny_0 rfl (lv_at hl 0 rfl) ?_
  refine lv_iload_n hx hb d_M_hasAny_1 rfl (lv_at hl 1 rfl) ?_
  refine lv_lload_n hx hb d_M_hasAny_2 rfl (lv_at hl 2 rfl) ?_
  refine lv_lload hx hb d_M_hasAny_3 (lv_at hl 3 rfl) ?_
  refine lv_iconst (v := 0) hx hb d_M_hasAny_5 (by decide) ?_
  refine rc_i (W.runV (As := [.int (nI p1), .long (p2), .long (p3), .int (0)]) (rest := []) ⟨hx, hb, hml, hown, hts⟩ (c_M_has1 l dC dI ad cJ cZ c0 r0 w0 s0 p1 p2 p3 false b1) (cwV 4 hts (gxV gx75 gx76 gx272 gx0 gx77) rfl rfl rfl (by decide +kernel) ⟨(Nat.le_of_ble_eq_true rfl), (Nat.le_of_ble_eq_true rfl)⟩) ⟨bln, va_recv hK hP (ci := 2) (q0 := 0) rfl rfl, fun U hU hW => ⟨rfl, by rw [hU]; exact hP, va_K.moved hW.alike hK⟩⟩ rfl rfl hl.1 rfl (lv_room (Nat.le_of_ble_eq_true rfl)) d_M_hasAny_6 ⟨Nat.zero_le _, Nat.zero_le _⟩) ?_
  refine wz_ne (tgt := 24) hx hb d_M_hasAny_9 (by decide) (fun e1_24 => ?_) (fun e1_24 => ?_)
  · exact K24 (by unfold f_M_hasAny; first | with_reducible exact if_pos e1_24 | exact if_pos e1_24) ls (lv_sub hl [] rfl)
  · refine lv_aload_n hx hb d_M_hasAny_12 rfl (lv_at hl 0 rfl) ?_
    refine lv_iload_n hx hb d_M_hasAny_13 rfl (lv_at hl 1 rfl) ?_
    refine lv_lload_n hx hb d_M_hasAny_14 rfl (lv_at hl 2 rfl) ?_
    refine lv_lload hx hb d_M_hasAny_15 (lv_at hl 3 rfl) ?_
    refine lv_iconst (v := 1) hx hb d_M_hasAny_17 (by decide) ?_
    refine rc_i (W.runV (As := [.int (nI p1), .long (p2), .long (p3), .int (1)]) (rest := []) ⟨hx, hb, hml, hown, hts⟩ (c_M_has1 l dC dI ad cJ cZ c0 r0 w0 s0 p1 p2 p3 true b1) (cwV 4 hts (gxV gx75 gx76 gx272 gx0 gx77) rfl rfl rfl (by decide +kernel) ⟨(Nat.le_of_ble_eq_true rfl), (Nat.le_of_ble_eq_true rfl)⟩) ⟨bln, va_recv hK hP (ci := 2) (q0 := 0) rfl rfl, fun U hU hW => ⟨rfl, by rw [hU]; exact hP, va_K.moved hW.alike hK⟩⟩ rfl rfl hl.1 rfl (lv_room (Nat.le_of_ble_eq_true rfl)) d_M_hasAny_18 ⟨Nat.zero_le _, Nat.zero_le _⟩) ?_
    refine wz_eq (tgt := 28) hx hb d_M_hasAny_21 (by decide) (fun e2_28 => ?_) (fun e2_28 => ?_)
    · refine lv_iconst (v := 0) hx hb d_M_hasAny_28 (by decide) ?_
      have fe : f_M_hasAny r0 p1 p2 p3 = false := by unfold f_M_hasAny; first | with_reducible exact (if_neg e1_24).trans (if_neg e2_28) | exact (if_neg e1_24).trans (if_neg e2_28)
      exact W.zret (v := bI false) hx hb hr (bI_n false) (fun t ht hW => ⟨_, rfl, by rw [fe], ht⟩) t_nil d_M_hasAny_29
    · exact K24 (by unfold f_M_hasAny; first | with_reducible exact (if_neg e1_24).trans (if_pos e2_28) | exact (if_neg e1_24).trans (if_pos e2_28)) ls (lv_sub hl [] rfl)
-- single
theorem d_M_single_0 : decode b_M_single 0 = .ok (.aload_n 0, 1) := by decide +kernel
theorem d_M_single_1 : decode b_M_single 1 = .ok (.getfield 7, 3) := by decide +kernel
theorem d_M_single_4 : decode b_M_single 4 = .ok (.iload_n 1, 1) := by decide +kernel
theorem d_M_single_5 : decode b_M_single 5 = .ok (.lload_n 2, 1) := by decide +kernel
theorem d_M_single_6 : decode b_M_single 6 = .ok (.lastore, 1) := by decide +kernel
theorem d_M_single_7 : decode b_M_single 7 = .ok (.aload_n 0, 1) := by decide +kernel
theorem d_M_single_8 : decode b_M_single 8 = .ok (.getfield 13, 3) := by decide +kernel
theorem d_M_single_11 : decode b_M_single 11 = .ok (.iload_n 1, 1) := by decide +kernel
theorem d_M_single_12 : decode b_M_single 12 = .ok (.lconst 0, 1) := by decide +kernel
theorem d_M_single_13 : decode b_M_single 13 = .ok (.lastore, 1) := by decide +kernel
theorem d_M_single_14 : decode b_M_single 14 = .ok (.aload_n 0, 1) := by decide +kernel
theorem d_M_single_15 : decode b_M_single 15 = .ok (.getfield 16, 3) := by decide +kernel
theorem d_M_single_18 : decode b_M_single 18 = .ok (.iload_n 1, 1) := by decide +kernel
theorem d_M_single_19 : decode b_M_single 19 = .ok (.lload_n 2, 1) := by decide +kernel
theorem d_M_single_20 : decode b_M_single 20 = .ok (.lastore, 1) := by decide +kernel
theorem d_M_single_21 : decode b_M_single 21 = .ok (.aload_n 0, 1) := by decide +kernel
theorem d_M_single_22 : decode b_M_single 22 = .ok (.getfield 19, 3) := by decide +kernel
theorem d_M_single_25 : decode b_M_single 25 = .ok (.iload_n 1, 1) := by decide +kernel
theorem d_M_single_26 : decode b_M_single 26 = .ok (.lload_n 2, 1) := by decide +kernel
theorem d_M_single_27 : decode b_M_single 27 = .ok (.lastore, 1) := by decide +kernel
theorem d_M_single_28 : decode b_M_single 28 = .ok (.aload_n 0, 1) := by decide +kernel
theorem d_M_single_29 : decode b_M_single 29 = .ok (.getfield 22, 3) := by decide +kernel
theorem d_M_single_32 : decode b_M_single 32 = .ok (.iload_n 1, 1) := by decide +kernel
theorem d_M_single_33 : decode b_M_single 33 = .ok (.lload_n 2, 1) := by decide +kernel
theorem d_M_single_34 : decode b_M_single 34 = .ok (.lastore, 1) := by decide +kernel
theorem d_M_single_35 : decode b_M_single 35 = .ok (.aload_n 0, 1) := by decide +kernel
theorem d_M_single_36 : decode b_M_single 36 = .ok (.getfield 25, 3) := by decide +kernel
theorem d_M_single_39 : decode b_M_single 39 = .ok (.iload_n 1, 1) := by decide +kernel
theorem d_M_single_40 : decode b_M_single 40 = .ok (.lload_n 2, 1) := by decide +kernel
theorem d_M_single_41 : decode b_M_single 41 = .ok (.lastore, 1) := by decide +kernel
theorem d_M_single_42 : decode b_M_single 42 = .ok (.aload_n 0, 1) := by decide +kernel
theorem d_M_single_43 : decode b_M_single 43 = .ok (.getfield 28, 3) := by decide +kernel
theorem d_M_single_46 : decode b_M_single 46 = .ok (.iload_n 1, 1) := by decide +kernel
theorem d_M_single_47 : decode b_M_single 47 = .ok (.iconst 0, 1) := by decide +kernel
theorem d_M_single_48 : decode b_M_single 48 = .ok (.bastore, 1) := by decide +kernel
theorem d_M_single_49 : decode b_M_single 49 = .ok (.return_, 1) := by decide +kernel
def f_M_single_48u (r0 : (Nat → VV)) (p1 : Nat) (p2 : Int64) (r48n : (Nat → VV)) : (Nat → VV) := r48n
def f_M_single_41u (r0 : (Nat → VV)) (p1 : Nat) (p2 : Int64) (r41n : (Nat → VV)) : (Nat → VV) := f_M_single_48u r0 p1 p2 (u7 r41n p1 false)
def f_M_single_34u (r0 : (Nat → VV)) (p1 : Nat) (p2 : Int64) (r34n : (Nat → VV)) : (Nat → VV) := f_M_single_41u r0 p1 p2 (u6 r34n p1 p2)
def f_M_single_27u (r0 : (Nat → VV)) (p1 : Nat) (p2 : Int64) (r27n : (Nat → VV)) : (Nat → VV) := f_M_single_34u r0 p1 p2 (u5 r27n p1 p2)
def f_M_single_20u (r0 : (Nat → VV)) (p1 : Nat) (p2 : Int64) (r20n : (Nat → VV)) : (Nat → VV) := f_M_single_27u r0 p1 p2 (u4 r20n p1 p2)
def f_M_single_13u (r0 : (Nat → VV)) (p1 : Nat) (p2 : Int64) (r13n : (Nat → VV)) : (Nat → VV) := f_M_single_20u r0 p1 p2 (u3 r13n p1 p2)
def f_M_single_6u (r0 : (Nat → VV)) (p1 : Nat) (p2 : Int64) (r6n : (Nat → VV)) : (Nat → VV) := f_M_single_13u r0 p1 p2 (u2 r6n p1 0)
def f_M_single (r0 : (Nat → VV)) (p1 : Nat) (p2 : Int64) : (Nat → VV) := f_M_single_6u r0 p1 p2 (u1 r0 p1 p2)
set_option maxRecDepth 100000 in
set_option maxHeartbeats 4000000 in
theorem c_M_single (l : Launch) (dC : Nat → ClassId) (dI : Nat → Nat → Nat) (ad : Nat → Nat) (cJ cZ : ClassId) (sz : Nat) (c0 : Int32) (r0 : (Nat → VV)) (w0 : (Nat → Int64)) (s0 : Int32) (p1 : Nat) (p2 : Int64) (b1 : p1 < 24) : Met l y_M_single w_M_single ({ frames := 0, cells := 0, slots := 0, locals := 0 } : Room) (va_Pc [.ref (ad 0), .int (nI p1), .long (p2)] (nP (dC, dI) (mT cJ cZ) (mW ad cJ cZ c0 r0 w0 s0) sz)) (va_Qv (fun _ : Unit => True) (mB (dC, dI) (va_A (mW ad cJ cZ c0 r0 w0 s0) sz) (mW ad cJ cZ c0 (f_M_single r0 p1 p2) w0 s0)) (va_A (mW ad cJ cZ c0 r0 w0 s0) sz)) 0 0 (va_A (mW ad cJ cZ c0 r0 w0 s0) sz) := by
  refine Met.ofW (cc := b_M_single) (maxL := 4) (ret := none) (by decide) rfl ?_
  intro p e s m args below meth c s₁ B hml hv
  obtain ⟨rfl, hsz, hP, hK, hD0⟩ := hv
  have hx := B.exec
  have hb := B.bytes
  have hr := B.returns
  have hts := atoms_spec (ws := w_M_single) B.pre
  have hG : ∀ w ∈ gM, w.before _ s = true := fun w h => hts w (List.mem_cons_of_mem _ h)
  have hown : s.vm.findClass R_M = some m.cls := findClass_of_methodNamed B.named
  have hlocks := B.notSynchronized
  subst hsz
  have hD := hD0.self (sz := s.heap.size)
  generalize hAe : va_A (mW ad cJ cZ c0 r0 w0 s0) s.heap.size = A at hD ⊢
  have hA : ∀ q : Nat, s.heap.size ≤ q → A q := fun q h => by rw [← hAe]; exact Or.inr h
  have hS : va_S A s.heap s.heap [] := va_S.rf
  have hl := lv_entry ([.ref (ad 0), .int (nI p1), .long (p2)]) (n := 4) (Nat.le_of_ble_eq_true rfl)
  rw [lg_entry_eq]
  generalize (lg_sl ([.ref (ad 0), .int (nI p1), .long (p2)]) ++ List.replicate (4 - (lg_sl ([.ref (ad 0), .int (nI p1), .long (p2)])).length) Slot.unset).toArray = ls at hl ⊢
  have hl : lv_has ls 4 [(0, .ref (ad 0)), (1, .int (nI p1)), (2, .long (p2))] := hl
  have K48u : ∀ (r48n : (Nat → VV)) (hj : f_M_single r0 p1 p2 = f_M_single_48u r0 p1 p2 r48n) (H : Heap) (locs : List Loc) (hP : va_P (dC, dI) classes (mW ad cJ cZ c0 r48n w0 s0) H) (hD : va_D A (mW ad cJ cZ c0 r48n w0 s0)) (hS : va_S A s.heap H locs) (ls : Array Slot) (hl : lv_has ls 4 []), W p l e (headSpec w_M_single ({ frames := 0, cells := 0, slots := 0, locals := 0 } : Room)).room s m ([.ref (ad 0), .int (nI p1), .long (p2)] : List Value).toArray below meth c H locs 0 0 (MQ below (va_Qv (fun _ : Unit => True) (mB (dC, dI) A (mW ad cJ cZ c0 (f_M_single r0 p1 p2) w0 s0)) A) ([.ref (ad 0), .int (nI p1), .long (p2)] : List Value).toArray s 0 0 A) (F0 m 49 ls []) := by
    intro r48n hj H locs hP hD hS ls hl
    have fe : f_M_single r0 p1 p2 = r48n := hj.trans rfl
    exact W.vret hx hb hr (fun t ht hW => ⟨⟨(), rfl, trivial, by rw [ht, fe]; exact hP, by rw [fe]; exact hD⟩, hS.F ht⟩) hS.2.2 d_M_single_49
  have K41u : ∀ (r41n : (Nat → VV)) (hj : f_M_single r0 p1 p2 = f_M_single_41u r0 p1 p2 r41n) (H : Heap) (locs : List Loc) (hP : va_P (dC, dI) classes (mW ad cJ cZ c0 r41n w0 s0) H) (hD : va_D A (mW ad cJ cZ c0 r41n w0 s0)) (hS : va_S A s.heap H locs) (ls : Array Slot) (hl : lv_has ls 4 [(0, .ref (ad 0)), (1, .int (nI p1))]), W p l e (headSpec w_M_single ({ frames := 0, cells := 0, slots := 0, locals := 0 } : Room)).room s m ([.ref (ad 0), .int (nI p1), .long (p2)] : List Value).toArray below meth c H locs 0 0 (MQ below (va_Qv (fun _ : Unit => True) (mB (dC, dI) A (mW ad cJ cZ c0 (f_M_single r0 p1 p2) w0 s0)) A) ([.ref (ad 0), .int (nI p1), .long (p2)] : List Value).toArray s 0 0 A) (F0 m 42 ls []) := by
    intro r41n hj H locs hP hD hS ls hl
    refine lv_aload_n hx hb d_M_single_42 rfl (lv_at hl 0 rfl) ?_
    refine va_get (D := (dC, dI)) (ci := 2) (v := .ref (ad 7)) (C := R_M) (T := F_M) (N := 10) hx hb hts (fun w h => List.mem_cons_of_mem _ (uw_M w h)) hown hK hP 0 rfl rfl 7 (by decide) (hG (.fieldLink R_M 28 "ValueSieveModel" "empty" "[Z") gx16) (fun _ h9 => h9) rfl d_M_single_43 ?_
    refine lv_iload_n hx hb d_M_single_46 rfl (lv_at hl 1 rfl) ?_
    refine lv_iconst (v := 0) hx hb d_M_single_47 (by decide) ?_
    refine ms_7 (P := p1) (x := false) hx hb hK hP hD hS rfl b1 d_M_single_48 (fun H locs hP hD hS => ?_)
    obtain ⟨r48n, er48n⟩ : ∃ z, z = u7 r41n p1 false := ⟨_, rfl⟩
    rw [← er48n] at hP hD
    refine K48u r48n (Eq.trans (hj.trans rfl) (congrArg (fun r48n => f_M_single_48u r0 p1 p2 r48n) er48n.symm)) H locs ?_ ?_ hS ls (lv_sub hl [] rfl)
    · with_reducible exact hP
    · with_reducible exact hD
  have K34u : ∀ (r34n : (Nat → VV)) (hj : f_M_single r0 p1 p2 = f_M_single_34u r0 p1 p2 r34n) (H : Heap) (locs : List Loc) (hP : va_P (dC, dI) classes (mW ad cJ cZ c0 r34n w0 s0) H) (hD : va_D A (mW ad cJ cZ c0 r34n w0 s0)) (hS : va_S A s.heap H locs) (ls : Array Slot) (hl : lv_has ls 4 [(0, .ref (ad 0)), (1, .int (nI p1)), (2, .long (p2))]), W p l e (headSpec w_M_single ({ frames := 0, cells := 0, slots := 0, locals := 0 } : Room)).room s m ([.ref (ad 0), .int (nI p1), .long (p2)] : List Value).toArray below meth c H locs 0 0 (MQ below (va_Qv (fun _ : Unit => True) (mB (dC, dI) A (mW ad cJ cZ c0 (f_M_single r0 p1 p2) w0 s0)) A) ([.ref (ad 0), .int (nI p1), .long (p2)] : List Value).toArray s 0 0 A) (F0 m 35 ls []) := by
    intro r34n hj H locs hP hD hS ls hl
    refine lv_aload_n hx hb d_M_single_35 rfl (lv_at hl 0 rfl) ?_
    refine va_get (D := (dC, dI)) (ci := 2) (v := .ref (ad 6)) (C := R_M) (T := F_M) (N := 10) hx hb hts (fun w h => List.mem_cons_of_mem _ (uw_M w h)) hown hK hP 0 rfl rfl 6 (by decide) (hG (.fieldLink R_M 25 "ValueSieveModel" "greatest" "[J") gx15) (fun _ h9 => h9) rfl d_M_single_36 ?_
    refine lv_iload_n hx hb d_M_single_39 rfl (lv_at hl 1 rfl) ?_
    refine lv_lload_n hx hb d_M_single_40 rfl (lv_at hl 2 rfl) ?_
    refine ms_6 (P := p1) (x := p2) hx hb hK hP hD hS rfl b1 d_M_single_41 (fun H locs hP hD hS => ?_)
    obtain ⟨r41n, er41n⟩ : ∃ z, z = u6 r34n p1 p2 := ⟨_, rfl⟩
    rw [← er41n] at hP hD
    refine K41u r41n (Eq.trans (hj.trans rfl) (congrArg (fun r41n => f_M_single_41u r0 p1 p2 r41n) er41n.symm)) H locs ?_ ?_ hS ls (lv_sub hl [0, 1] rfl)
    · with_reducible exact hP
    · with_reducible exact hD
  have K27u : ∀ (r27n : (Nat → VV)) (hj : f_M_single r0 p1 p2 = f_M_single_27u r0 p1 p2 r27n) (H : Heap) (locs : List Loc) (hP : va_P (dC, dI) classes (mW ad cJ cZ c0 r27n w0 s0) H) (hD : va_D A (mW ad cJ cZ c0 r27n w0 s0)) (hS : va_S A s.heap H locs) (ls : Array Slot) (hl : lv_has ls 4 [(0, .ref (ad 0)), (1, .int (nI p1)), (2, .long (p2))]), W p l e (headSpec w_M_single ({ frames := 0, cells := 0, slots := 0, locals := 0 } : Room)).room s m ([.ref (ad 0), .int (nI p1), .long (p2)] : List Value).toArray below meth c H locs 0 0 (MQ below (va_Qv (fun _ : Unit => True) (mB (dC, dI) A (mW ad cJ cZ c0 (f_M_single r0 p1 p2) w0 s0)) A) ([.ref (ad 0), .int (nI p1), .long (p2)] : List Value).toArray s 0 0 A) (F0 m 28 ls []) := by
    intro r27n hj H locs hP hD hS ls hl
    refine lv_aload_n hx hb d_M_single_28 rfl (lv_at hl 0 rfl) ?_
    refine va_get (D := (dC, dI)) (ci := 2) (v := .ref (ad 5)) (C := R_M) (T := F_M) (N := 10) hx hb hts (fun w h => List.mem_cons_of_mem _ (uw_M w h)) hown hK hP 0 rfl rfl 5 (by decide) (hG (.fieldLink R_M 22 "ValueSieveModel" "least" "[J") gx14) (fun _ h9 => h9) rfl d_M_single_29 ?_
    refine lv_iload_n hx hb d_M_single_32 rfl (lv_at hl 1 rfl) ?_
    refine lv_lload_n hx hb d_M_single_33 rfl (lv_at hl 2 rfl) ?_
    refine ms_5 (P := p1) (x := p2) hx hb hK hP hD hS rfl b1 d_M_single_34 (fun H locs hP hD hS => ?_)
    obtain ⟨r34n, er34n⟩ : ∃ z, z = u5 r27n p1 p2 := ⟨_, rfl⟩
    rw [← er34n] at hP hD
    refine K34u r34n (Eq.trans (hj.trans rfl) (congrArg (fun r34n => f_M_single_34u r0 p1 p2 r34n) er34n.symm)) H locs ?_ ?_ hS ls (lv_sub hl [0, 1, 2] rfl)
    · with_reducible exact hP
    · with_reducible exact hD
  have K20u : ∀ (r20n : (Nat → VV)) (hj : f_M_single r0 p1 p2 = f_M_single_20u r0 p1 p2 r20n) (H : Heap) (locs : List Loc) (hP : va_P (dC, dI) classes (mW ad cJ cZ c0 r20n w0 s0) H) (hD : va_D A (mW ad cJ cZ c0 r20n w0 s0)) (hS : va_S A s.heap H locs) (ls : Array Slot) (hl : lv_has ls 4 [(0, .ref (ad 0)), (1, .int (nI p1)), (2, .long (p2))]), W p l e (headSpec w_M_single ({ frames := 0, cells := 0, slots := 0, locals := 0 } : Room)).room s m ([.ref (ad 0), .int (nI p1), .long (p2)] : List Value).toArray below meth c H locs 0 0 (MQ below (va_Qv (fun _ : Unit => True) (mB (dC, dI) A (mW ad cJ cZ c0 (f_M_single r0 p1 p2) w0 s0)) A) ([.ref (ad 0), .int (nI p1), .long (p2)] : List Value).toArray s 0 0 A) (F0 m 21 ls []) := by
    intro r20n hj H locs hP hD hS ls hl
    refine lv_aload_n hx hb d_M_single_21 rfl (lv_at hl 0 rfl) ?_
    refine va_get (D := (dC, dI)) (ci := 2) (v := .ref (ad 4)) (C := R_M) (T := F_M) (N := 10) hx hb hts (fun w h => List.mem_cons_of_mem _ (uw_M w h)) hown hK hP 0 rfl rfl 4 (by decide) (hG (.fieldLink R_M 19 "ValueSieveModel" "high" "[J") gx13) (fun _ h9 => h9) rfl d_M_single_22 ?_
    refine lv_iload_n hx hb d_M_single_25 rfl (lv_at hl 1 rfl) ?_
    refine lv_lload_n hx hb d_M_single_26 rfl (lv_at hl 2 rfl) ?_
    refine ms_4 (P := p1) (x := p2) hx hb hK hP hD hS rfl b1 d_M_single_27 (fun H locs hP hD hS => ?_)
    obtain ⟨r27n, er27n⟩ : ∃ z, z = u4 r20n p1 p2 := ⟨_, rfl⟩
    rw [← er27n] at hP hD
    refine K27u r27n (Eq.trans (hj.trans rfl) (congrArg (fun r27n => f_M_single_27u r0 p1 p2 r27n) er27n.symm)) H locs ?_ ?_ hS ls (lv_sub hl [0, 1, 2] rfl)
    · with_reducible exact hP
    · with_reducible exact hD
  have K13u : ∀ (r13n : (Nat → VV)) (hj : f_M_single r0 p1 p2 = f_M_single_13u r0 p1 p2 r13n) (H : Heap) (locs : List Loc) (hP : va_P (dC, dI) classes (mW ad cJ cZ c0 r13n w0 s0) H) (hD : va_D A (mW ad cJ cZ c0 r13n w0 s0)) (hS : va_S A s.heap H locs) (ls : Array Slot) (hl : lv_has ls 4 [(0, .ref (ad 0)), (1, .int (nI p1)), (2, .long (p2))]), W p l e (headSpec w_M_single ({ frames := 0, cells := 0, slots := 0, locals := 0 } : Room)).room s m ([.ref (ad 0), .int (nI p1), .long (p2)] : List Value).toArray below meth c H locs 0 0 (MQ below (va_Qv (fun _ : Unit => True) (mB (dC, dI) A (mW ad cJ cZ c0 (f_M_single r0 p1 p2) w0 s0)) A) ([.ref (ad 0), .int (nI p1), .long (p2)] : List Value).toArray s 0 0 A) (F0 m 14 ls []) := by
    intro r13n hj H locs hP hD hS ls hl
    refine lv_aload_n hx hb d_M_single_14 rfl (lv_at hl 0 rfl) ?_
    refine va_get (D := (dC, dI)) (ci := 2) (v := .ref (ad 3)) (C := R_M) (T := F_M) (N := 10) hx hb hts (fun w h => List.mem_cons_of_mem _ (uw_M w h)) hown hK hP 0 rfl rfl 3 (by decide) (hG (.fieldLink R_M 16 "ValueSieveModel" "low" "[J") gx12) (fun _ h9 => h9) rfl d_M_single_15 ?_
    refine lv_iload_n hx hb d_M_single_18 rfl (lv_at hl 1 rfl) ?_
    refine lv_lload_n hx hb d_M_single_19 rfl (lv_at hl 2 rfl) ?_
    refine ms_3 (P := p1) (x := p2) hx hb hK hP hD hS rfl b1 d_M_single_20 (fun H locs hP hD hS => ?_)
    obtain ⟨r20n, er20n⟩ : ∃ z, z = u3 r13n p1 p2 := ⟨_, rfl⟩
    rw [← er20n] at hP hD
    refine K20u r20n (Eq.trans (hj.trans rfl) (congrArg (fun r20n => f_M_single_20u r0 p1 p2 r20n) er20n.symm)) H locs ?_ ?_ hS ls (lv_sub hl [0, 1, 2] rfl)
    · with_reducible exact hP
    · with_reducible exact hD
  have K6u : ∀ (r6n : (Nat → VV)) (hj : f_M_single r0 p1 p2 = f_M_single_6u r0 p1 p2 r6n) (H : Heap) (locs : List Loc) (hP : va_P (dC, dI) classes (mW ad cJ cZ c0 r6n w0 s0) H) (hD : va_D A (mW ad cJ cZ c0 r6n w0 s0)) (hS : va_S A s.heap H locs) (ls : Array Slot) (hl : lv_has ls 4 [(0, .ref (ad 0)), (1, .int (nI p1)), (2, .long (p2))]), W p l e (headSpec w_M_single ({ frames := 0, cells := 0, slots := 0, locals := 0 } : Room)).room s m ([.ref (ad 0), .int (nI p1), .long (p2)] : List Value).toArray below meth c H locs 0 0 (MQ below (va_Qv (fun _ : Unit => True) (mB (dC, dI) A (mW ad cJ cZ c0 (f_M_single r0 p1 p2) w0 s0)) A) ([.ref (ad 0), .int (nI p1), .long (p2)] : List Value).toArray s 0 0 A) (F0 m 7 ls []) := by
    intro r6n hj H locs hP hD hS ls hl
    refine lv_aload_n hx hb d_M_single_7 rfl (lv_at hl 0 rfl) ?_
    refine va_get (D := (dC, dI)) (ci := 2) (v := .ref (ad 2)) (C := R_M) (T := F_M) (N := 10) hx hb hts (fun w h => List.mem_cons_of_mem _ (uw_M w h)) hown hK hP 0 rfl rfl 2 (by decide) (hG (.fieldLink R_M 13 "ValueSieveModel" "open" "[J") gx11) (fun _ h9 => h9) rfl d_M_single_8 ?_
    refine lv_iload_n hx hb d_M_single_11 rfl (lv_at hl 1 rfl) ?_
    refine lv_lconst (v := 0) hx hb d_M_single_12 (by decide) ?_
    refine ms_2 (P := p1) (x := 0) hx hb hK hP hD hS rfl b1 d_M_single_13 (fun H locs hP hD hS => ?_)
    obtain ⟨r13n, er13n⟩ : ∃ z, z = u2 r6n p1 0 := ⟨_, rfl⟩
    rw [← er13n] at hP hD
    refine K13u r13n (Eq.trans (hj.trans rfl) (congrArg (fun r13n => f_M_single_13u r0 p1 p2 r13n) er13n.symm)) H locs ?_ ?_ hS ls (lv_sub hl [0, 1, 2] rfl)
    · with_reducible exact hP
    · with_reducible exact hD
  refine lv_aload_n hx hb d_M_single_0 rfl (lv_at hl 0 rfl) ?_
  refine va_get (D := (dC, dI)) (ci := 2) (v := .ref (ad 1)) (C := R_M) (T := F_M) (N := 10) hx hb hts (fun w h => List.mem_cons_of_mem _ (uw_M w h)) hown hK hP 0 rfl rfl 1 (by decide) (hG (.fieldLink R_M 7 "ValueSieveModel" "bits" "[J") gx10) (fun _ h9 => h9) rfl d_M_single_1 ?_
  refine lv_iload_n hx hb d_M_single_4 rfl (lv_at hl 1 rfl) ?_
  refine lv_lload_n hx hb d_M_single_5 rfl (lv_at hl 2 rfl) ?_
  refine ms_1 (P := p1) (x := p2) hx hb hK hP hD hS rfl b1 d_M_single_6 (fun H locs hP hD hS => ?_)
  obtain ⟨r6n, er6n⟩ : ∃ z, z = u1 r0 p1 p2 := ⟨_, rfl⟩
  rw [← er6n] at hP hD
  refine K6u r6n (Eq.trans (rfl) (congrArg (fun r6n => f_M_single_6u r0 p1 p2 r6n) er6n.symm)) H locs ?_ ?_ hS ls (lv_sub hl [0, 1, 2] rfl)
  · with_reducible exact hP
  · with_reducible exact hD
