-- ValueSieve$Value.sayBits
theorem d_V_sayBits_0 : decode b_V_sayBits 0 = .ok (.aload_n 0, 1) := by decide +kernel
theorem d_V_sayBits_1 : decode b_V_sayBits 1 = .ok (.lload_n 1, 1) := by decide +kernel
theorem d_V_sayBits_2 : decode b_V_sayBits 2 = .ok (.lload_n 3, 1) := by decide +kernel
theorem d_V_sayBits_3 : decode b_V_sayBits 3 = .ok (.ldc2_w 32, 3) := by decide +kernel
theorem d_V_sayBits_6 : decode b_V_sayBits 6 = .ok (.lxor, 1) := by decide +kernel
theorem d_V_sayBits_7 : decode b_V_sayBits 7 = .ok (.land, 1) := by decide +kernel
theorem d_V_sayBits_8 : decode b_V_sayBits 8 = .ok (.putfield 7, 3) := by decide +kernel
theorem d_V_sayBits_11 : decode b_V_sayBits 11 = .ok (.aload_n 0, 1) := by decide +kernel
theorem d_V_sayBits_12 : decode b_V_sayBits 12 = .ok (.lload_n 3, 1) := by decide +kernel
theorem d_V_sayBits_13 : decode b_V_sayBits 13 = .ok (.putfield 13, 3) := by decide +kernel
theorem d_V_sayBits_16 : decode b_V_sayBits 16 = .ok (.return_, 1) := by decide +kernel
def f_V_sayBits_16r (z0 : VV) (p1 : Int64) (p2 : Int64) (w16r_0_0 : Int64) (w16r_0_1 : Int64) (w16r_0_2 : Int64) (w16r_0_3 : Int64) (w16r_0_4 : Int64) (w16r_0_5 : Int64) (w16r_0_6 : Bool) : VV := ((w16r_0_0, w16r_0_1, w16r_0_2, w16r_0_3, w16r_0_4, w16r_0_5, w16r_0_6))
def f_V_sayBits (z0 : VV) (p1 : Int64) (p2 : Int64) : VV := f_V_sayBits_16r z0 p1 p2 (p1 &&& (p2 ^^^ (-1 : Int64))) p2 z0.2.2.1 z0.2.2.2.1 z0.2.2.2.2.1 z0.2.2.2.2.2.1 z0.2.2.2.2.2.2
set_option maxRecDepth 100000 in
set_option maxHeartbeats 4000000 in
theorem c_V_sayBits (l : Launch) (dC : Nat → ClassId) (dI : Nat → Nat → Nat) (h0 : Nat) (sz : Nat) (z0 : VV) (p1 : Int64) (p2 : Int64) : Met l y_V_sayBits w_V_sayBits ({ frames := 0, cells := 0, slots := 0, locals := 0 } : Room) (va_Pc [.ref h0, .long (p1), .long (p2)] (mP (dC, dI) [(h0, vE z0)] sz)) (va_Qv (fun _ : Unit => True) (mB (dC, dI) (va_A [(h0, vE z0)] sz) [(h0, vE (f_V_sayBits z0 p1 p2))]) (va_A [(h0, vE z0)] sz)) 0 0 (va_A [(h0, vE z0)] sz) := by
  refine Met.ofW (cc := b_V_sayBits) (maxL := 5) (ret := none) (by decide) rfl ?_
  intro p e s m args below meth c s₁ B hml hv
  obtain ⟨rfl, hsz, hP, hK, hD0⟩ := hv
  have hx := B.exec
  have hb := B.bytes
  have hr := B.returns
  have hts := atoms_spec (ws := w_V_sayBits) B.pre
  have hG : ∀ w ∈ gG, w.before _ s = true := fun w h => hts w (List.mem_cons_of_mem _ h)
  have hown : s.vm.findClass R_V = some m.cls := findClass_of_methodNamed B.named
  have hlocks := B.notSynchronized
  subst hsz
  have hD := hD0.self (sz := s.heap.size)
  generalize hAe : va_A [(h0, vE z0)] s.heap.size = A at hD ⊢
  have hA : ∀ q : Nat, s.heap.size ≤ q → A q := fun q h => by rw [← hAe]; exact Or.inr h
  have hS : va_S A s.heap s.heap [] := va_S.rf
  have hP : va_P (dC, dI) classes [(h0, .inr (0, [.long (z0.1), .long (z0.2.1), .long (z0.2.2.1), .long (z0.2.2.2.1), .long (z0.2.2.2.2.1), .long (z0.2.2.2.2.2.1), .int (bI z0.2.2.2.2.2.2)]))] s.heap := hP
  have hD : va_D A [(h0, .inr (0, [.long (z0.1), .long (z0.2.1), .long (z0.2.2.1), .long (z0.2.2.2.1), .long (z0.2.2.2.2.1), .long (z0.2.2.2.2.2.1), .int (bI z0.2.2.2.2.2.2)]))] := hD
  have hl := lv_entry ([.ref h0, .long (p1), .long (p2)]) (n := 5) (Nat.le_of_ble_eq_true rfl)
  rw [lg_entry_eq]
  generalize (lg_sl ([.ref h0, .long (p1), .long (p2)]) ++ List.replicate (5 - (lg_sl ([.ref h0, .long (p1), .long (p2)])).length) Slot.unset).toArray = ls at hl ⊢
  have hl : lv_has ls 5 [(0, .ref h0), (1, .long (p1)), (3, .long (p2))] := hl
  have K16r : ∀ (w16r_0_0 : Int64) (w16r_0_1 : Int64) (w16r_0_2 : Int64) (w16r_0_3 : Int64) (w16r_0_4 : Int64) (w16r_0_5 : Int64) (w16r_0_6 : Bool) (hj : f_V_sayBits z0 p1 p2 = f_V_sayBits_16r z0 p1 p2 w16r_0_0 w16r_0_1 w16r_0_2 w16r_0_3 w16r_0_4 w16r_0_5 w16r_0_6) (H : Heap) (locs : List Loc) (hP : va_P (dC, dI) classes [(h0, .inr (0, [.long (w16r_0_0), .long (w16r_0_1), .long (w16r_0_2), .long (w16r_0_3), .long (w16r_0_4), .long (w16r_0_5), .int (bI w16r_0_6)]))] H) (hD : va_D A [(h0, .inr (0, [.long (w16r_0_0), .long (w16r_0_1), .long (w16r_0_2), .long (w16r_0_3), .long (w16r_0_4), .long (w16r_0_5), .int (bI w16r_0_6)]))]) (hS : va_S A s.heap H locs) (ls : Array Slot) (hl : lv_has ls 5 []), W p l e (headSpec w_V_sayBits ({ frames := 0, cells := 0, slots := 0, locals := 0 } : Room)).room s m ([.ref h0, .long (p1), .long (p2)] : List Value).toArray below meth c H locs 0 0 (MQ below (va_Qv (fun _ : Unit => True) (mB (dC, dI) A [(h0, vE (f_V_sayBits z0 p1 p2))]) A) ([.ref h0, .long (p1), .long (p2)] : List Value).toArray s 0 0 A) (F0 m 16 ls []) := by
    intro w16r_0_0 w16r_0_1 w16r_0_2 w16r_0_3 w16r_0_4 w16r_0_5 w16r_0_6 hj H locs hP hD hS ls hl
    have fe : f_V_sayBits z0 p1 p2 = ((w16r_0_0, w16r_0_1, w16r_0_2, w16r_0_3, w16r_0_4, w16r_0_5, w16r_0_6)) := hj.trans rfl
    exact W.vret hx hb hr (fun t ht hW => ⟨⟨(), rfl, trivial, by rw [ht, fe]; (try simp only [vE_mk]); exact hP, by rw [fe]; (try simp only [vE_mk]); exact hD⟩, hS.F ht⟩) hS.2.2 d_V_sayBits_16
  refine lv_aload_n hx hb d_V_sayBits_0 rfl (lv_at hl 0 rfl) ?_
  refine lv_lload_n hx hb d_V_sayBits_1 rfl (lv_at hl 1 rfl) ?_
  refine lv_lload_n hx hb d_V_sayBits_2 rfl (lv_at hl 2 rfl) ?_
  refine lv_ldc2 (v := -1) hx hb hown (hG (.constantLong R_V 32 (-1)) gw78) d_V_sayBits_3 ?_
  refine lv_lxor hx hb d_V_sayBits_6 ?_
  refine lv_land hx hb d_V_sayBits_7 ?_
  refine va_put (D := (dC, dI)) (ci := 0) (v := .long (p1 &&& (p2 ^^^ (-1 : Int64)))) (ty := .long) (C := R_V) (T := F_V) (N := 7) hx hb hts (fun w h => List.mem_cons_of_mem _ (uw_V w h)) t_V t_V_ok n_V hown hK hP hD hS 0 rfl rfl 0 (by decide) (hG (.fieldLink R_V 7 "ValueSieve$Value" "bits" "J") gw18) (fun _ h9 => h9) rfl (by decide +kernel) rfl rfl (Nat.le_of_ble_eq_true rfl) d_V_sayBits_8 (fun H locs hP hD hS => ?_)
  have hP : va_P (dC, dI) classes [(h0, .inr (0, [.long (p1 &&& (p2 ^^^ (-1 : Int64))), .long (z0.2.1), .long (z0.2.2.1), .long (z0.2.2.2.1), .long (z0.2.2.2.2.1), .long (z0.2.2.2.2.2.1), .int (bI z0.2.2.2.2.2.2)]))] H := hP
  have hD : va_D A [(h0, .inr (0, [.long (p1 &&& (p2 ^^^ (-1 : Int64))), .long (z0.2.1), .long (z0.2.2.1), .long (z0.2.2.2.1), .long (z0.2.2.2.2.1), .long (z0.2.2.2.2.2.1), .int (bI z0.2.2.2.2.2.2)]))] := hD
  refine lv_aload_n hx hb d_V_sayBits_11 rfl (lv_at hl 0 rfl) ?_
  refine lv_lload_n hx hb d_V_sayBits_12 rfl (lv_at hl 2 rfl) ?_
  refine va_put (D := (dC, dI)) (ci := 0) (v := .long (p2)) (ty := .long) (C := R_V) (T := F_V) (N := 7) hx hb hts (fun w h => List.mem_cons_of_mem _ (uw_V w h)) t_V t_V_ok n_V hown hK hP hD hS 0 rfl rfl 1 (by decide) (hG (.fieldLink R_V 13 "ValueSieve$Value" "unknown" "J") gw21) (fun _ h9 => h9) rfl (by decide +kernel) rfl rfl (Nat.le_of_ble_eq_true rfl) d_V_sayBits_13 (fun H locs hP hD hS => ?_)
  have hP : va_P (dC, dI) classes [(h0, .inr (0, [.long (p1 &&& (p2 ^^^ (-1 : Int64))), .long (p2), .long (z0.2.2.1), .long (z0.2.2.2.1), .long (z0.2.2.2.2.1), .long (z0.2.2.2.2.2.1), .int (bI z0.2.2.2.2.2.2)]))] H := hP
  have hD : va_D A [(h0, .inr (0, [.long (p1 &&& (p2 ^^^ (-1 : Int64))), .long (p2), .long (z0.2.2.1), .long (z0.2.2.2.1), .long (z0.2.2.2.2.1), .long (z0.2.2.2.2.2.1), .int (bI z0.2.2.2.2.2.2)]))] := hD
  refine K16r (p1 &&& (p2 ^^^ (-1 : Int64))) p2 z0.2.2.1 z0.2.2.2.1 z0.2.2.2.2.1 z0.2.2.2.2.2.1 z0.2.2.2.2.2.2 (rfl) H locs ?_ ?_ hS ls (lv_sub hl [] rfl)
  · with_reducible exact hP
  · with_reducible exact hD
-- ValueSieve$Value.sayUnsigned
theorem d_V_sayUnsigned_0 : decode b_V_sayUnsigned 0 = .ok (.aload_n 0, 1) := by decide +kernel
theorem d_V_sayUnsigned_1 : decode b_V_sayUnsigned 1 = .ok (.lload_n 1, 1) := by decide +kernel
theorem d_V_sayUnsigned_2 : decode b_V_sayUnsigned 2 = .ok (.putfield 16, 3) := by decide +kernel
theorem d_V_sayUnsigned_5 : decode b_V_sayUnsigned 5 = .ok (.aload_n 0, 1) := by decide +kernel
theorem d_V_sayUnsigned_6 : decode b_V_sayUnsigned 6 = .ok (.lload_n 3, 1) := by decide +kernel
theorem d_V_sayUnsigned_7 : decode b_V_sayUnsigned 7 = .ok (.putfield 19, 3) := by decide +kernel
theorem d_V_sayUnsigned_10 : decode b_V_sayUnsigned 10 = .ok (.return_, 1) := by decide +kernel
def f_V_sayUnsigned (z0 : VV) (p1 : Int64) (p2 : Int64) : VV := ((z0.1, z0.2.1, p1, p2, z0.2.2.2.2.1, z0.2.2.2.2.2.1, z0.2.2.2.2.2.2))
set_option maxRecDepth 100000 in
set_option maxHeartbeats 4000000 in
theorem c_V_sayUnsigned (l : Launch) (dC : Nat → ClassId) (dI : Nat → Nat → Nat) (h0 : Nat) (sz : Nat) (z0 : VV) (p1 : Int64) (p2 : Int64) : Met l y_V_sayUnsigned w_V_sayUnsigned ({ frames := 0, cells := 0, slots := 0, locals := 0 } : Room) (va_Pc [.ref h0, .long (p1), .long (p2)] (mP (dC, dI) [(h0, vE z0)] sz)) (va_Qv (fun _ : Unit => True) (mB (dC, dI) (va_A [(h0, vE z0)] sz) [(h0, vE (f_V_sayUnsigned z0 p1 p2))]) (va_A [(h0, vE z0)] sz)) 0 0 (va_A [(h0, vE z0)] sz) := by
  refine Met.ofW (cc := b_V_sayUnsigned) (maxL := 5) (ret := none) (by decide) rfl ?_
  intro p e s m args below meth c s₁ B hml hv
  obtain ⟨rfl, hsz, hP, hK, hD0⟩ := hv
  have hx := B.exec
  have hb := B.bytes
  have hr := B.returns
  have hts := atoms_spec (ws := w_V_sayUnsigned) B.pre
  have hG : ∀ w ∈ gG, w.before _ s = true := fun w h => hts w (List.mem_cons_of_mem _ h)
  have hown : s.vm.findClass R_V = some m.cls := findClass_of_methodNamed B.named
  have hlocks := B.notSynchronized
  subst hsz
  have hD := hD0.self (sz := s.heap.size)
  generalize hAe : va_A [(h0, vE z0)] s.heap.size = A at hD ⊢
  have hA : ∀ q : Nat, s.heap.size ≤ q → A q := fun q h => by rw [← hAe]; exact Or.inr h
  have hS : va_S A s.heap s.heap [] := va_S.rf
  have hP : va_P (dC, dI) classes [(h0, .inr (0, [.long (z0.1), .long (z0.2.1), .long (z0.2.2.1), .long (z0.2.2.2.1), .long (z0.2.2.2.2.1), .long (z0.2.2.2.2.2.1), .int (bI z0.2.2.2.2.2.2)]))] s.heap := hP
  have hD : va_D A [(h0, .inr (0, [.long (z0.1), .long (z0.2.1), .long (z0.2.2.1), .long (z0.2.2.2.1), .long (z0.2.2.2.2.1), .long (z0.2.2.2.2.2.1), .int (bI z0.2.2.2.2.2.2)]))] := hD
  have hl := lv_entry ([.ref h0, .long (p1), .long (p2)]) (n := 5) (Nat.le_of_ble_eq_true rfl)
  rw [lg_entry_eq]
  generalize (lg_sl ([.ref h0, .long (p1), .long (p2)]) ++ List.replicate (5 - (lg_sl ([.ref h0, .long (p1), .long (p2)])).length) Slot.unset).toArray = ls at hl ⊢
  have hl : lv_has ls 5 [(0, .ref h0), (1, .long (p1)), (3, .long (p2))] := hl
  refine lv_aload_n hx hb d_V_sayUnsigned_0 rfl (lv_at hl 0 rfl) ?_
  refine lv_lload_n hx hb d_V_sayUnsigned_1 rfl (lv_at hl 1 rfl) ?_
  refine va_put (D := (dC, dI)) (ci := 0) (v := .long (p1)) (ty := .long) (C := R_V) (T := F_V) (N := 7) hx hb hts (fun w h => List.mem_cons_of_mem _ (uw_V w h)) t_V t_V_ok n_V hown hK hP hD hS 0 rfl rfl 2 (by decide) (hG (.fieldLink R_V 16 "ValueSieve$Value" "low" "J") gw25) (fun _ h9 => h9) rfl (by decide +kernel) rfl rfl (Nat.le_of_ble_eq_true rfl) d_V_sayUnsigned_2 (fun H locs hP hD hS => ?_)
  have hP : va_P (dC, dI) classes [(h0, .inr (0, [.long (z0.1), .long (z0.2.1), .long (p1), .long (z0.2.2.2.1), .long (z0.2.2.2.2.1), .long (z0.2.2.2.2.2.1), .int (bI z0.2.2.2.2.2.2)]))] H := hP
  have hD : va_D A [(h0, .inr (0, [.long (z0.1), .long (z0.2.1), .long (p1), .long (z0.2.2.2.1), .long (z0.2.2.2.2.1), .long (z0.2.2.2.2.2.1), .int (bI z0.2.2.2.2.2.2)]))] := hD
  refine lv_aload_n hx hb d_V_sayUnsigned_5 rfl (lv_at hl 0 rfl) ?_
  refine lv_lload_n hx hb d_V_sayUnsigned_6 rfl (lv_at hl 2 rfl) ?_
  refine va_put (D := (dC, dI)) (ci := 0) (v := .long (p2)) (ty := .long) (C := R_V) (T := F_V) (N := 7) hx hb hts (fun w h => List.mem_cons_of_mem _ (uw_V w h)) t_V t_V_ok n_V hown hK hP hD hS 0 rfl rfl 3 (by decide) (hG (.fieldLink R_V 19 "ValueSieve$Value" "high" "J") gw29) (fun _ h9 => h9) rfl (by decide +kernel) rfl rfl (Nat.le_of_ble_eq_true rfl) d_V_sayUnsigned_7 (fun H locs hP hD hS => ?_)
  have hP : va_P (dC, dI) classes [(h0, .inr (0, [.long (z0.1), .long (z0.2.1), .long (p1), .long (p2), .long (z0.2.2.2.2.1), .long (z0.2.2.2.2.2.1), .int (bI z0.2.2.2.2.2.2)]))] H := hP
  have hD : va_D A [(h0, .inr (0, [.long (z0.1), .long (z0.2.1), .long (p1), .long (p2), .long (z0.2.2.2.2.1), .long (z0.2.2.2.2.2.1), .int (bI z0.2.2.2.2.2.2)]))] := hD
  have fe : f_V_sayUnsigned z0 p1 p2 = ((z0.1, z0.2.1, p1, p2, z0.2.2.2.2.1, z0.2.2.2.2.2.1, z0.2.2.2.2.2.2)) := rfl
  exact W.vret hx hb hr (fun t ht hW => ⟨⟨(), rfl, trivial, by rw [ht, fe]; (try simp only [vE_mk]); exact hP, by rw [fe]; (try simp only [vE_mk]); exact hD⟩, hS.F ht⟩) hS.2.2 d_V_sayUnsigned_10
-- ValueSieve$Value.saySigned
theorem d_V_saySigned_0 : decode b_V_saySigned 0 = .ok (.aload_n 0, 1) := by decide +kernel
theorem d_V_saySigned_1 : decode b_V_saySigned 1 = .ok (.lload_n 1, 1) := by decide +kernel
theorem d_V_saySigned_2 : decode b_V_saySigned 2 = .ok (.putfield 22, 3) := by decide +kernel
theorem d_V_saySigned_5 : decode b_V_saySigned 5 = .ok (.aload_n 0, 1) := by decide +kernel
theorem d_V_saySigned_6 : decode b_V_saySigned 6 = .ok (.lload_n 3, 1) := by decide +kernel
theorem d_V_saySigned_7 : decode b_V_saySigned 7 = .ok (.putfield 25, 3) := by decide +kernel
theorem d_V_saySigned_10 : decode b_V_saySigned 10 = .ok (.return_, 1) := by decide +kernel
def f_V_saySigned (z0 : VV) (p1 : Int64) (p2 : Int64) : VV := ((z0.1, z0.2.1, z0.2.2.1, z0.2.2.2.1, p1, p2, z0.2.2.2.2.2.2))
set_option maxRecDepth 100000 in
set_option maxHeartbeats 4000000 in
theorem c_V_saySigned (l : Launch) (dC : Nat → ClassId) (dI : Nat → Nat → Nat) (h0 : Nat) (sz : Nat) (z0 : VV) (p1 : Int64) (p2 : Int64) : Met l y_V_saySigned w_V_saySigned ({ frames := 0, cells := 0, slots := 0, locals := 0 } : Room) (va_Pc [.ref h0, .long (p1), .long (p2)] (mP (dC, dI) [(h0, vE z0)] sz)) (va_Qv (fun _ : Unit => True) (mB (dC, dI) (va_A [(h0, vE z0)] sz) [(h0, vE (f_V_saySigned z0 p1 p2))]) (va_A [(h0, vE z0)] sz)) 0 0 (va_A [(h0, vE z0)] sz) := by
  refine Met.ofW (cc := b_V_saySigned) (maxL := 5) (ret := none) (by decide) rfl ?_
  intro p e s m args below meth c s₁ B hml hv
  obtain ⟨rfl, hsz, hP, hK, hD0⟩ := hv
  have hx := B.exec
  have hb := B.bytes
  have hr := B.returns
  have hts := atoms_spec (ws := w_V_saySigned) B.pre
  have hG : ∀ w ∈ gG, w.before _ s = true := fun w h => hts w (List.mem_cons_of_mem _ h)
  have hown : s.vm.findClass R_V = some m.cls := findClass_of_methodNamed B.named
  have hlocks := B.notSynchronized
  subst hsz
  have hD := hD0.self (sz := s.heap.size)
  generalize hAe : va_A [(h0, vE z0)] s.heap.size = A at hD ⊢
  have hA : ∀ q : Nat, s.heap.size ≤ q → A q := fun q h => by rw [← hAe]; exact Or.inr h
  have hS : va_S A s.heap s.heap [] := va_S.rf
  have hP : va_P (dC, dI) classes [(h0, .inr (0, [.long (z0.1), .long (z0.2.1), .long (z0.2.2.1), .long (z0.2.2.2.1), .long (z0.2.2.2.2.1), .long (z0.2.2.2.2.2.1), .int (bI z0.2.2.2.2.2.2)]))] s.heap := hP
  have hD : va_D A [(h0, .inr (0, [.long (z0.1), .long (z0.2.1), .long (z0.2.2.1), .long (z0.2.2.2.1), .long (z0.2.2.2.2.1), .long (z0.2.2.2.2.2.1), .int (bI z0.2.2.2.2.2.2)]))] := hD
  have hl := lv_entry ([.ref h0, .long (p1), .long (p2)]) (n := 5) (Nat.le_of_ble_eq_true rfl)
  rw [lg_entry_eq]
  generalize (lg_sl ([.ref h0, .long (p1), .long (p2)]) ++ List.replicate (5 - (lg_sl ([.ref h0, .long (p1), .long (p2)])).length) Slot.unset).toArray = ls at hl ⊢
  have hl : lv_has ls 5 [(0, .ref h0), (1, .long (p1)), (3, .long (p2))] := hl
  refine lv_aload_n hx hb d_V_saySigned_0 rfl (lv_at hl 0 rfl) ?_
  refine lv_lload_n hx hb d_V_saySigned_1 rfl (lv_at hl 1 rfl) ?_
  refine va_put (D := (dC, dI)) (ci := 0) (v := .long (p1)) (ty := .long) (C := R_V) (T := F_V) (N := 7) hx hb hts (fun w h => List.mem_cons_of_mem _ (uw_V w h)) t_V t_V_ok n_V hown hK hP hD hS 0 rfl rfl 4 (by decide) (hG (.fieldLink R_V 22 "ValueSieve$Value" "least" "J") gw33) (fun _ h9 => h9) rfl (by decide +kernel) rfl rfl (Nat.le_of_ble_eq_true rfl) d_V_saySigned_2 (fun H locs hP hD hS => ?_)
  have hP : va_P (dC, dI) classes [(h0, .inr (0, [.long (z0.1), .long (z0.2.1), .long (z0.2.2.1), .long (z0.2.2.2.1), .long (p1), .long (z0.2.2.2.2.2.1), .int (bI z0.2.2.2.2.2.2)]))] H := hP
  have hD : va_D A [(h0, .inr (0, [.long (z0.1), .long (z0.2.1), .long (z0.2.2.1), .long (z0.2.2.2.1), .long (p1), .long (z0.2.2.2.2.2.1), .int (bI z0.2.2.2.2.2.2)]))] := hD
  refine lv_aload_n hx hb d_V_saySigned_5 rfl (lv_at hl 0 rfl) ?_
  refine lv_lload_n hx hb d_V_saySigned_6 rfl (lv_at hl 2 rfl) ?_
  refine va_put (D := (dC, dI)) (ci := 0) (v := .long (p2)) (ty := .long) (C := R_V) (T := F_V) (N := 7) hx hb hts (fun w h => List.mem_cons_of_mem _ (uw_V w h)) t_V t_V_ok n_V hown hK hP hD hS 0 rfl rfl 5 (by decide) (hG (.fieldLink R_V 25 "ValueSieve$Value" "greatest" "J") gw37) (fun _ h9 => h9) rfl (by decide +kernel) rfl rfl (Nat.le_of_ble_eq_true rfl) d_V_saySigned_7 (fun H locs hP hD hS => ?_)
  have hP : va_P (dC, dI) classes [(h0, .inr (0, [.long (z0.1), .long (z0.2.1), .long (z0.2.2.1), .long (z0.2.2.2.1), .long (p1), .long (p2), .int (bI z0.2.2.2.2.2.2)]))] H := hP
  have hD : va_D A [(h0, .inr (0, [.long (z0.1), .long (z0.2.1), .long (z0.2.2.1), .long (z0.2.2.2.1), .long (p1), .long (p2), .int (bI z0.2.2.2.2.2.2)]))] := hD
  have fe : f_V_saySigned z0 p1 p2 = ((z0.1, z0.2.1, z0.2.2.1, z0.2.2.2.1, p1, p2, z0.2.2.2.2.2.2)) := rfl
  exact W.vret hx hb hr (fun t ht hW => ⟨⟨(), rfl, trivial, by rw [ht, fe]; (try simp only [vE_mk]); exact hP, by rw [fe]; (try simp only [vE_mk]); exact hD⟩, hS.F ht⟩) hS.2.2 d_V_saySigned_10
-- ValueSieve$Value.take
theorem d_V_take_0 : decode b_V_take 0 = .ok (.aload_n 0, 1) := by decide +kernel
theorem d_V_take_1 : decode b_V_take 1 = .ok (.aload_n 1, 1) := by decide +kernel
theorem d_V_take_2 : decode b_V_take 2 = .ok (.getfield 7, 3) := by decide +kernel
theorem d_V_take_5 : decode b_V_take 5 = .ok (.putfield 7, 3) := by decide +kernel
theorem d_V_take_8 : decode b_V_take 8 = .ok (.aload_n 0, 1) := by decide +kernel
theorem d_V_take_9 : decode b_V_take 9 = .ok (.aload_n 1, 1) := by decide +kernel
theorem d_V_take_10 : decode b_V_take 10 = .ok (.getfield 13, 3) := by decide +kernel
theorem d_V_take_13 : decode b_V_take 13 = .ok (.putfield 13, 3) := by decide +kernel
theorem d_V_take_16 : decode b_V_take 16 = .ok (.aload_n 0, 1) := by decide +kernel
theorem d_V_take_17 : decode b_V_take 17 = .ok (.aload_n 1, 1) := by decide +kernel
theorem d_V_take_18 : decode b_V_take 18 = .ok (.getfield 16, 3) := by decide +kernel
theorem d_V_take_21 : decode b_V_take 21 = .ok (.putfield 16, 3) := by decide +kernel
theorem d_V_take_24 : decode b_V_take 24 = .ok (.aload_n 0, 1) := by decide +kernel
theorem d_V_take_25 : decode b_V_take 25 = .ok (.aload_n 1, 1) := by decide +kernel
theorem d_V_take_26 : decode b_V_take 26 = .ok (.getfield 19, 3) := by decide +kernel
theorem d_V_take_29 : decode b_V_take 29 = .ok (.putfield 19, 3) := by decide +kernel
theorem d_V_take_32 : decode b_V_take 32 = .ok (.aload_n 0, 1) := by decide +kernel
theorem d_V_take_33 : decode b_V_take 33 = .ok (.aload_n 1, 1) := by decide +kernel
theorem d_V_take_34 : decode b_V_take 34 = .ok (.getfield 22, 3) := by decide +kernel
theorem d_V_take_37 : decode b_V_take 37 = .ok (.putfield 22, 3) := by decide +kernel
theorem d_V_take_40 : decode b_V_take 40 = .ok (.aload_n 0, 1) := by decide +kernel
theorem d_V_take_41 : decode b_V_take 41 = .ok (.aload_n 1, 1) := by decide +kernel
theorem d_V_take_42 : decode b_V_take 42 = .ok (.getfield 25, 3) := by decide +kernel
theorem d_V_take_45 : decode b_V_take 45 = .ok (.putfield 25, 3) := by decide +kernel
theorem d_V_take_48 : decode b_V_take 48 = .ok (.aload_n 0, 1) := by decide +kernel
theorem d_V_take_49 : decode b_V_take 49 = .ok (.aload_n 1, 1) := by decide +kernel
theorem d_V_take_50 : decode b_V_take 50 = .ok (.getfield 28, 3) := by decide +kernel
theorem d_V_take_53 : decode b_V_take 53 = .ok (.putfield 28, 3) := by decide +kernel
theorem d_V_take_56 : decode b_V_take 56 = .ok (.return_, 1) := by decide +kernel
def f_V_take (z0 : VV) (z1 : VV) : VV := z1
set_option maxRecDepth 100000 in
set_option maxHeartbeats 4000000 in
theorem c_V_take (l : Launch) (dC : Nat → ClassId) (dI : Nat → Nat → Nat) (h0 : Nat) (h1 : Nat) (sz : Nat) (z0 : VV) (z1 : VV) : Met l y_V_take w_V_take ({ frames := 0, cells := 0, slots := 0, locals := 0 } : Room) (va_Pc [.ref h0, .ref h1] (mP (dC, dI) [(h0, vE z0), (h1, vE z1)] sz)) (va_Qv (fun _ : Unit => True) (mB (dC, dI) (va_A [(h0, vE z0), (h1, vE z1)] sz) [(h0, vE (f_V_take z0 z1)), (h1, vE z1)]) (va_A [(h0, vE z0), (h1, vE z1)] sz)) 0 0 (va_A [(h0, vE z0), (h1, vE z1)] sz) := by
  refine Met.ofW (cc := b_V_take) (maxL := 2) (ret := none) (by decide) rfl ?_
  intro p e s m args below meth c s₁ B hml hv
  obtain ⟨rfl, hsz, hP, hK, hD0⟩ := hv
  have hx := B.exec
  have hb := B.bytes
  have hr := B.returns
  have hts := atoms_spec (ws := w_V_take) B.pre
  have hG : ∀ w ∈ gG, w.before _ s = true := fun w h => hts w (List.mem_cons_of_mem _ h)
  have hown : s.vm.findClass R_V = some m.cls := findClass_of_methodNamed B.named
  have hlocks := B.notSynchronized
  subst hsz
  have hD := hD0.self (sz := s.heap.size)
  generalize hAe : va_A [(h0, vE z0), (h1, vE z1)] s.heap.size = A at hD ⊢
  have hA : ∀ q : Nat, s.heap.size ≤ q → A q := fun q h => by rw [← hAe]; exact Or.inr h
  have hS : va_S A s.heap s.heap [] := va_S.rf
  have hP : va_P (dC, dI) classes [(h0, .inr (0, [.long (z0.1), .long (z0.2.1), .long (z0.2.2.1), .long (z0.2.2.2.1), .long (z0.2.2.2.2.1), .long (z0.2.2.2.2.2.1), .int (bI z0.2.2.2.2.2.2)])), (h1, .inr (0, [.long (z1.1), .long (z1.2.1), .long (z1.2.2.1), .long (z1.2.2.2.1), .long (z1.2.2.2.2.1), .long (z1.2.2.2.2.2.1), .int (bI z1.2.2.2.2.2.2)]))] s.heap := hP
  have hD : va_D A [(h0, .inr (0, [.long (z0.1), .long (z0.2.1), .long (z0.2.2.1), .long (z0.2.2.2.1), .long (z0.2.2.2.2.1), .long (z0.2.2.2.2.2.1), .int (bI z0.2.2.2.2.2.2)])), (h1, .inr (0, [.long (z1.1), .long (z1.2.1), .long (z1.2.2.1), .long (z1.2.2.2.1), .long (z1.2.2.2.2.1), .long (z1.2.2.2.2.2.1), .int (bI z1.2.2.2.2.2.2)]))] := hD
  have hl := lv_entry ([.ref h0, .ref h1]) (n := 2) (Nat.le_of_ble_eq_true rfl)
  rw [lg_entry_eq]
  generalize (lg_sl ([.ref h0, .ref h1]) ++ List.replicate (2 - (lg_sl ([.ref h0, .ref h1])).length) Slot.unset).toArray = ls at hl ⊢
  have hl : lv_has ls 2 [(0, .ref h0), (1, .ref h1)] := hl
  refine lv_aload_n hx hb d_V_take_0 rfl (lv_at hl 0 rfl) ?_
  refine lv_aload_n hx hb d_V_take_1 rfl (lv_at hl 1 rfl) ?_
  refine va_get (D := (dC, dI)) (ci := 0) (v := .long (z1.1)) (C := R_V) (T := F_V) (N := 7) hx hb hts (fun w h => List.mem_cons_of_mem _ (uw_V w h)) hown hK hP 1 rfl rfl 0 (by decide) (hG (.fieldLink R_V 7 "ValueSieve$Value" "bits" "J") gw18) (fun _ h9 => h9) rfl d_V_take_2 ?_
  refine va_put (D := (dC, dI)) (ci := 0) (v := .long (z1.1)) (ty := .long) (C := R_V) (T := F_V) (N := 7) hx hb hts (fun w h => List.mem_cons_of_mem _ (uw_V w h)) t_V t_V_ok n_V hown hK hP hD hS 0 rfl rfl 0 (by decide) (hG (.fieldLink R_V 7 "ValueSieve$Value" "bits" "J") gw18) (fun _ h9 => h9) rfl (by decide +kernel) rfl rfl (Nat.le_of_ble_eq_true rfl) d_V_take_5 (fun H locs hP hD hS => ?_)
  have hP : va_P (dC, dI) classes [(h0, .inr (0, [.long (z1.1), .long (z0.2.1), .long (z0.2.2.1), .long (z0.2.2.2.1), .long (z0.2.2.2.2.1), .long (z0.2.2.2.2.2.1), .int (bI z0.2.2.2.2.2.2)])), (h1, .inr (0, [.long (z1.1), .long (z1.2.1), .long (z1.2.2.1), .long (z1.2.2.2.1), .long (z1.2.2.2.2.1), .long (z1.2.2.2.2.2.1), .int (bI z1.2.2.2.2.2.2)]))] H := hP
  have hD : va_D A [(h0, .inr (0, [.long (z1.1), .long (z0.2.1), .long (z0.2.2.1), .long (z0.2.2.2.1), .long (z0.2.2.2.2.1), .long (z0.2.2.2.2.2.1), .int (bI z0.2.2.2.2.2.2)])), (h1, .inr (0, [.long (z1.1), .long (z1.2.1), .long (z1.2.2.1), .long (z1.2.2.2.1), .long (z1.2.2.2.2.1), .long (z1.2.2.2.2.2.1), .int (bI z1.2.2.2.2.2.2)]))] := hD
  refine lv_aload_n hx hb d_V_take_8 rfl (lv_at hl 0 rfl) ?_
  refine lv_aload_n hx hb d_V_take_9 rfl (lv_at hl 1 rfl) ?_
  refine va_get (D := (dC, dI)) (ci := 0) (v := .long (z1.2.1)) (C := R_V) (T := F_V) (N := 7) hx hb hts (fun w h => List.mem_cons_of_mem _ (uw_V w h)) hown hK hP 1 rfl rfl 1 (by decide) (hG (.fieldLink R_V 13 "ValueSieve$Value" "unknown" "J") gw21) (fun _ h9 => h9) rfl d_V_take_10 ?_
  refine va_put (D := (dC, dI)) (ci := 0) (v := .long (z1.2.1)) (ty := .long) (C := R_V) (T := F_V) (N := 7) hx hb hts (fun w h => List.mem_cons_of_mem _ (uw_V w h)) t_V t_V_ok n_V hown hK hP hD hS 0 rfl rfl 1 (by decide) (hG (.fieldLink R_V 13 "ValueSieve$Value" "unknown" "J") gw21) (fun _ h9 => h9) rfl (by decide +kernel) rfl rfl (Nat.le_of_ble_eq_true rfl) d_V_take_13 (fun H locs hP hD hS => ?_)
  have hP : va_P (dC, dI) classes [(h0, .inr (0, [.long (z1.1), .long (z1.2.1), .long (z0.2.2.1), .long (z0.2.2.2.1), .long (z0.2.2.2.2.1), .long (z0.2.2.2.2.2.1), .int (bI z0.2.2.2.2.2.2)])), (h1, .inr (0, [.long (z1.1), .long (z1.2.1), .long (z1.2.2.1), .long (z1.2.2.2.1), .long (z1.2.2.2.2.1), .long (z1.2.2.2.2.2.1), .int (bI z1.2.2.2.2.2.2)]))] H := hP
  have hD : va_D A [(h0, .inr (0, [.long (z1.1), .long (z1.2.1), .long (z0.2.2.1), .long (z0.2.2.2.1), .long (z0.2.2.2.2.1), .long (z0.2.2.2.2.2.1), .int (bI z0.2.2.2.2.2.2)])), (h1, .inr (0, [.long (z1.1), .long (z1.2.1), .long (z1.2.2.1), .long (z1.2.2.2.1), .long (z1.2.2.2.2.1), .long (z1.2.2.2.2.2.1), .int (bI z1.2.2.2.2.2.2)]))] := hD
  refine lv_aload_n hx hb d_V_take_16 rfl (lv_at hl 0 rfl) ?_
  refine lv_aload_n hx hb d_V_take_17 rfl (lv_at hl 1 rfl) ?_
  refine va_get (D := (dC, dI)) (ci := 0) (v := .long (z1.2.2.1)) (C := R_V) (T := F_V) (N := 7) hx hb hts (fun w h => List.mem_cons_of_mem _ (uw_V w h)) hown hK hP 1 rfl rfl 2 (by decide) (hG (.fieldLink R_V 16 "ValueSieve$Value" "low" "J") gw25) (fun _ h9 => h9) rfl d_V_take_18 ?_
  refine va_put (D := (dC, dI)) (ci := 0) (v := .long (z1.2.2.1)) (ty := .long) (C := R_V) (T := F_V) (N := 7) hx hb hts (fun w h => List.mem_cons_of_mem _ (uw_V w h)) t_V t_V_ok n_V hown hK hP hD hS 0 rfl rfl 2 (by decide) (hG (.fieldLink R_V 16 "ValueSieve$Value" "low" "J") gw25) (fun _ h9 => h9) rfl (by decide +kernel) rfl rfl (Nat.le_of_ble_eq_true rfl) d_V_take_21 (fun H locs hP hD hS => ?_)
  have hP : va_P (dC, dI) classes [(h0, .inr (0, [.long (z1.1), .long (z1.2.1), .long (z1.2.2.1), .long (z0.2.2.2.1), .long (z0.2.2.2.2.1), .long (z0.2.2.2.2.2.1), .int (bI z0.2.2.2.2.2.2)])), (h1, .inr (0, [.long (z1.1), .long (z1.2.1), .long (z1.2.2.1), .long (z1.2.2.2.1), .long (z1.2.2.2.2.1), .long (z1.2.2.2.2.2.1), .int (bI z1.2.2.2.2.2.2)]))] H := hP
  have hD : va_D A [(h0, .inr (0, [.long (z1.1), .long (z1.2.1), .long (z1.2.2.1), .long (z0.2.2.2.1), .long (z0.2.2.2.2.1), .long (z0.2.2.2.2.2.1), .int (bI z0.2.2.2.2.2.2)])), (h1, .inr (0, [.long (z1.1), .long (z1.2.1), .long (z1.2.2.1), .long (z1.2.2.2.1), .long (z1.2.2.2.2.1), .long (z1.2.2.2.2.2.1), .int (bI z1.2.2.2.2.2.2)]))] := hD
  refine lv_aload_n hx hb d_V_take_24 rfl (lv_at hl 0 rfl) ?_
  refine lv_aload_n hx hb d_V_take_25 rfl (lv_at hl 1 rfl) ?_
  refine va_get (D := (dC, dI)) (ci := 0) (v := .long (z1.2.2.2.1)) (C := R_V) (T := F_V) (N := 7) hx hb hts (fun w h => List.mem_cons_of_mem _ (uw_V w h)) hown hK hP 1 rfl rfl 3 (by decide) (hG (.fieldLink R_V 19 "ValueSieve$Value" "high" "J") gw29) (fun _ h9 => h9) rfl d_V_take_26 ?_
  refine va_put (D := (dC, dI)) (ci := 0) (v := .long (z1.2.2.2.1)) (ty := .long) (C := R_V) (T := F_V) (N := 7) hx hb hts (fun w h => List.mem_cons_of_mem _ (uw_V w h)) t_V t_V_ok n_V hown hK hP hD hS 0 rfl rfl 3 (by decide) (hG (.fieldLink R_V 19 "ValueSieve$Value" "high" "J") gw29) (fun _ h9 => h9) rfl (by decide +kernel) rfl rfl (Nat.le_of_ble_eq_true rfl) d_V_take_29 (fun H locs hP hD hS => ?_)
  have hP : va_P (dC, dI) classes [(h0, .inr (0, [.long (z1.1), .long (z1.2.1), .long (z1.2.2.1), .long (z1.2.2.2.1), .long (z0.2.2.2.2.1), .long (z0.2.2.2.2.2.1), .int (bI z0.2.2.2.2.2.2)])), (h1, .inr (0, [.long (z1.1), .long (z1.2.1), .long (z1.2.2.1), .long (z1.2.2.2.1), .long (z1.2.2.2.2.1), .long (z1.2.2.2.2.2.1), .int (bI z1.2.2.2.2.2.2)]))] H := hP
  have hD : va_D A [(h0, .inr (0, [.long (z1.1), .long (z1.2.1), .long (z1.2.2.1), .long (z1.2.2.2.1), .long (z0.2.2.2.2.1), .long (z0.2.2.2.2.2.1), .int (bI z0.2.2.2.2.2.2)])), (h1, .inr (0, [.long (z1.1), .long (z1.2.1), .long (z1.2.2.1), .long (z1.2.2.2.1), .long (z1.2.2.2.2.1), .long (z1.2.2.2.2.2.1), .int (bI z1.2.2.2.2.2.2)]))] := hD
  refine lv_aload_n hx hb d_V_take_32 rfl (lv_at hl 0 rfl) ?_
  refine lv_aload_n hx hb d_V_take_33 rfl (lv_at hl 1 rfl) ?_
  refine va_get (D := (dC, dI)) (ci := 0) (v := .long (z1.2.2.2.2.1)) (C := R_V) (T := F_V) (N := 7) hx hb hts (fun w h => List.mem_cons_of_mem _ (uw_V w h)) hown hK hP 1 rfl rfl 4 (by decide) (hG (.fieldLink R_V 22 "ValueSieve$Value" "least" "J") gw33) (fun _ h9 => h9) rfl d_V_take_34 ?_
  refine va_put (D := (dC, dI)) (ci := 0) (v := .long (z1.2.2.2.2.1)) (ty := .long) (C := R_V) (T := F_V) (N := 7) hx hb hts (fun w h => List.mem_cons_of_mem _ (uw_V w h)) t_V t_V_ok n_V hown hK hP hD hS 0 rfl rfl 4 (by decide) (hG (.fieldLink R_V 22 "ValueSieve$Value" "least" "J") gw33) (fun _ h9 => h9) rfl (by decide +kernel) rfl rfl (Nat.le_of_ble_eq_true rfl) d_V_take_37 (fun H locs hP hD hS => ?_)
  have hP : va_P (dC, dI) classes [(h0, .inr (0, [.long (z1.1), .long (z1.2.1), .long (z1.2.2.1), .long (z1.2.2.2.1), .long (z1.2.2.2.2.1), .long (z0.2.2.2.2.2.1), .int (bI z0.2.2.2.2.2.2)])), (h1, .inr (0, [.long (z1.1), .long (z1.2.1), .long (z1.2.2.1), .long (z1.2.2.2.1), .long (z1.2.2.2.2.1), .long (z1.2.2.2.2.2.1), .int (bI z1.2.2.2.2.2.2)]))] H := hP
  have hD : va_D A [(h0, .inr (0, [.long (z1.1), .long (z1.2.1), .long (z1.2.2.1), .long (z1.2.2.2.1), .long (z1.2.2.2.2.1), .long (z0.2.2.2.2.2.1), .int (bI z0.2.2.2.2.2.2)])), (h1, .inr (0, [.long (z1.1), .long (z1.2.1), .long (z1.2.2.1), .long (z1.2.2.2.1), .long (z1.2.2.2.2.1), .long (z1.2.2.2.2.2.1), .int (bI z1.2.2.2.2.2.2)]))] := hD
  refine lv_aload_n hx hb d_V_take_40 rfl (lv_at hl 0 rfl) ?_
  refine lv_aload_n hx hb d_V_take_41 rfl (lv_at hl 1 rfl) ?_
  refine va_get (D := (dC, dI)) (ci := 0) (v := .long (z1.2.2.2.2.2.1)) (C := R_V) (T := F_V) (N := 7) hx hb hts (fun w h => List.mem_cons_of_mem _ (uw_V w h)) hown hK hP 1 rfl rfl 5 (by decide) (hG (.fieldLink R_V 25 "ValueSieve$Value" "greatest" "J") gw37) (fun _ h9 => h9) rfl d_V_take_42 ?_
  refine va_put (D := (dC, dI)) (ci := 0) (v := .long (z1.2.2.2.2.2.1)) (ty := .long) (C := R_V) (T := F_V) (N := 7) hx hb hts (fun w h => List.mem_cons_of_mem _ (uw_V w h)) t_V t_V_ok n_V hown hK hP hD hS 0 rfl rfl 5 (by decide) (hG (.fieldLink R_V 25 "ValueSieve$Value" "greatest" "J") gw37) (fun _ h9 => h9) rfl (by decide +kernel) rfl rfl (Nat.le_of_ble_eq_true rfl) d_V_take_45 (fun H locs hP hD hS => ?_)
  have hP : va_P (dC, dI) classes [(h0, .inr (0, [.long (z1.1), .long (z1.2.1), .long (z1.2.2.1), .long (z1.2.2.2.1), .long (z1.2.2.2.2.1), .long (z1.2.2.2.2.2.1), .int (bI z0.2.2.2.2.2.2)])), (h1, .inr (0, [.long (z1.1), .long (z1.2.1), .long (z1.2.2.1), .long (z1.2.2.2.1), .long (z1.2.2.2.2.1), .long (z1.2.2.2.2.2.1), .int (bI z1.2.2.2.2.2.2)]))] H := hP
  have hD : va_D A [(h0, .inr (0, [.long (z1.1), .long (z1.2.1), .long (z1.2.2.1), .long (z1.2.2.2.1), .long (z1.2.2.2.2.1), .long (z1.2.2.2.2.2.1), .int (bI z0.2.2.2.2.2.2)])), (h1, .inr (0, [.long (z1.1), .long (z1.2.1), .long (z1.2.2.1), .long (z1.2.2.2.1), .long (z1.2.2.2.2.1), .long (z1.2.2.2.2.2.1), .int (bI z1.2.2.2.2.2.2)]))] := hD
  refine lv_aload_n hx hb d_V_take_48 rfl (lv_at hl 0 rfl) ?_
  refine lv_aload_n hx hb d_V_take_49 rfl (lv_at hl 1 rfl) ?_
  refine va_get (D := (dC, dI)) (ci := 0) (v := .int (bI z1.2.2.2.2.2.2)) (C := R_V) (T := F_V) (N := 7) hx hb hts (fun w h => List.mem_cons_of_mem _ (uw_V w h)) hown hK hP 1 rfl rfl 6 (by decide) (hG (.fieldLink R_V 28 "ValueSieve$Value" "nothing" "Z") gw41) (fun _ h9 => h9) rfl d_V_take_50 ?_
  refine va_put (D := (dC, dI)) (ci := 0) (v := .int (bI z1.2.2.2.2.2.2)) (ty := .boolean) (C := R_V) (T := F_V) (N := 7) hx hb hts (fun w h => List.mem_cons_of_mem _ (uw_V w h)) t_V t_V_ok n_V hown hK hP hD hS 0 rfl rfl 6 (by decide) (hG (.fieldLink R_V 28 "ValueSieve$Value" "nothing" "Z") gw41) (fun _ h9 => h9) rfl (by decide +kernel) (bI_n z1.2.2.2.2.2.2) (bI_f z1.2.2.2.2.2.2) (Nat.le_of_ble_eq_true rfl) d_V_take_53 (fun H locs hP hD hS => ?_)
  have hP : va_P (dC, dI) classes [(h0, .inr (0, [.long (z1.1), .long (z1.2.1), .long (z1.2.2.1), .long (z1.2.2.2.1), .long (z1.2.2.2.2.1), .long (z1.2.2.2.2.2.1), .int (bI z1.2.2.2.2.2.2)])), (h1, .inr (0, [.long (z1.1), .long (z1.2.1), .long (z1.2.2.1), .long (z1.2.2.2.1), .long (z1.2.2.2.2.1), .long (z1.2.2.2.2.2.1), .int (bI z1.2.2.2.2.2.2)]))] H := hP
  have hD : va_D A [(h0, .inr (0, [.long (z1.1), .long (z1.2.1), .long (z1.2.2.1), .long (z1.2.2.2.1), .long (z1.2.2.2.2.1), .long (z1.2.2.2.2.2.1), .int (bI z1.2.2.2.2.2.2)])), (h1, .inr (0, [.long (z1.1), .long (z1.2.1), .long (z1.2.2.1), .long (z1.2.2.2.1), .long (z1.2.2.2.2.1), .long (z1.2.2.2.2.2.1), .int (bI z1.2.2.2.2.2.2)]))] := hD
  have fe : f_V_take z0 z1 = z1 := rfl
  exact W.vret hx hb hr (fun t ht hW => ⟨⟨(), rfl, trivial, by rw [ht, fe]; (try simp only [vE_mk]); exact hP, by rw [fe]; (try simp only [vE_mk]); exact hD⟩, hS.F ht⟩) hS.2.2 d_V_take_56
-- ValueSieve$Value.sayAll
theorem d_V_sayAll_0 : decode b_V_sayAll 0 = .ok (.aload_n 0, 1) := by decide +kernel
theorem d_V_sayAll_1 : decode b_V_sayAll 1 = .ok (.iconst 0, 1) := by decide +kernel
theorem d_V_sayAll_2 : decode b_V_sayAll 2 = .ok (.putfield 28, 3) := by decide +kernel
theorem d_V_sayAll_5 : decode b_V_sayAll 5 = .ok (.aload_n 0, 1) := by decide +kernel
theorem d_V_sayAll_6 : decode b_V_sayAll 6 = .ok (.lconst 0, 1) := by decide +kernel
theorem d_V_sayAll_7 : decode b_V_sayAll 7 = .ok (.ldc2_w 32, 3) := by decide +kernel
theorem d_V_sayAll_10 : decode b_V_sayAll 10 = .ok (.invokevirtual 34, 3) := by decide +kernel
theorem d_V_sayAll_13 : decode b_V_sayAll 13 = .ok (.aload_n 0, 1) := by decide +kernel
theorem d_V_sayAll_14 : decode b_V_sayAll 14 = .ok (.lconst 0, 1) := by decide +kernel
theorem d_V_sayAll_15 : decode b_V_sayAll 15 = .ok (.ldc2_w 32, 3) := by decide +kernel
theorem d_V_sayAll_18 : decode b_V_sayAll 18 = .ok (.invokevirtual 38, 3) := by decide +kernel
theorem d_V_sayAll_21 : decode b_V_sayAll 21 = .ok (.aload_n 0, 1) := by decide +kernel
theorem d_V_sayAll_22 : decode b_V_sayAll 22 = .ok (.ldc2_w 43, 3) := by decide +kernel
theorem d_V_sayAll_25 : decode b_V_sayAll 25 = .ok (.ldc2_w 45, 3) := by decide +kernel
theorem d_V_sayAll_28 : decode b_V_sayAll 28 = .ok (.invokevirtual 47, 3) := by decide +kernel
theorem d_V_sayAll_31 : decode b_V_sayAll 31 = .ok (.return_, 1) := by decide +kernel
def f_V_sayAll_28g (z0 : VV) (g28 : VV) : VV := g28
def f_V_sayAll_18g (z0 : VV) (g18 : VV) : VV := f_V_sayAll_28g z0 (f_V_saySigned g18 (-9223372036854775808) (9223372036854775807))
def f_V_sayAll_10g (z0 : VV) (g10 : VV) : VV := f_V_sayAll_18g z0 (f_V_sayUnsigned g10 (0) (-1))
def f_V_sayAll (z0 : VV) : VV := f_V_sayAll_10g z0 (f_V_sayBits ((z0.1, z0.2.1, z0.2.2.1, z0.2.2.2.1, z0.2.2.2.2.1, z0.2.2.2.2.2.1, false)) (0) (-1))
set_option maxRecDepth 100000 in
set_option maxHeartbeats 4000000 in
theorem c_V_sayAll (l : Launch) (dC : Nat → ClassId) (dI : Nat → Nat → Nat) (h0 : Nat) (sz : Nat) (z0 : VV) : Met l y_V_sayAll w_V_sayAll ({ frames := 1, cells := 0, slots := 0, locals := 24 } : Room) (va_Pc [.ref h0] (mP (dC, dI) [(h0, vE z0)] sz)) (va_Qv (fun _ : Unit => True) (mB (dC, dI) (va_A [(h0, vE z0)] sz) [(h0, vE (f_V_sayAll z0))]) (va_A [(h0, vE z0)] sz)) 0 0 (va_A [(h0, vE z0)] sz) := by
  refine Met.ofW (cc := b_V_sayAll) (maxL := 1) (ret := none) (by decide) rfl ?_
  intro p e s m args below meth c s₁ B hml hv
  obtain ⟨rfl, hsz, hP, hK, hD0⟩ := hv
  have hx := B.exec
  have hb := B.bytes
  have hr := B.returns
  have hts := atoms_spec (ws := w_V_sayAll) B.pre
  have hG : ∀ w ∈ gG, w.before _ s = true := fun w h => hts w (List.mem_cons_of_mem _ h)
  have hown : s.vm.findClass R_V = some m.cls := findClass_of_methodNamed B.named
  have hlocks := B.notSynchronized
  subst hsz
  have hD := hD0.self (sz := s.heap.size)
  generalize hAe : va_A [(h0, vE z0)] s.heap.size = A at hD ⊢
  have hA : ∀ q : Nat, s.heap.size ≤ q → A q := fun q h => by rw [← hAe]; exact Or.inr h
  have hS : va_S A s.heap s.heap [] := va_S.rf
  have hP : va_P (dC, dI) classes [(h0, .inr (0, [.long (z0.1), .long (z0.2.1), .long (z0.2.2.1), .long (z0.2.2.2.1), .long (z0.2.2.2.2.1), .long (z0.2.2.2.2.2.1), .int (bI z0.2.2.2.2.2.2)]))] s.heap := hP
  have hD : va_D A [(h0, .inr (0, [.long (z0.1), .long (z0.2.1), .long (z0.2.2.1), .long (z0.2.2.2.1), .long (z0.2.2.2.2.1), .long (z0.2.2.2.2.2.1), .int (bI z0.2.2.2.2.2.2)]))] := hD
  have hl := lv_entry ([.ref h0]) (n := 1) (Nat.le_of_ble_eq_true rfl)
  rw [lg_entry_eq]
  generalize (lg_sl ([.ref h0]) ++ List.replicate (1 - (lg_sl ([.ref h0])).length) Slot.unset).toArray = ls at hl ⊢
  have hl : lv_has ls 1 [(0, .ref h0)] := hl
  have K28g : ∀ (g28 : VV) (hj : f_V_sayAll z0 = f_V_sayAll_28g z0 g28) (H : Heap) (locs : List Loc) (hP : va_P (dC, dI) classes [(h0, .inr (0, [.long (g28.1), .long (g28.2.1), .long (g28.2.2.1), .long (g28.2.2.2.1), .long (g28.2.2.2.2.1), .long (g28.2.2.2.2.2.1), .int (bI g28.2.2.2.2.2.2)]))] H) (hD : va_D A [(h0, .inr (0, [.long (g28.1), .long (g28.2.1), .long (g28.2.2.1), .long (g28.2.2.2.1), .long (g28.2.2.2.2.1), .long (g28.2.2.2.2.2.1), .int (bI g28.2.2.2.2.2.2)]))]) (hS : va_S A s.heap H locs) (ls : Array Slot) (hl : lv_has ls 1 []), W p l e (headSpec w_V_sayAll ({ frames := 1, cells := 0, slots := 0, locals := 24 } : Room)).room s m ([.ref h0] : List Value).toArray below meth c H locs 0 0 (MQ below (va_Qv (fun _ : Unit => True) (mB (dC, dI) A [(h0, vE (f_V_sayAll z0))]) A) ([.ref h0] : List Value).toArray s 0 0 A) (F0 m 31 ls []) := by
    intro g28 hj H locs hP hD hS ls hl
    have fe : f_V_sayAll z0 = g28 := hj.trans rfl
    exact W.vret hx hb hr (fun t ht hW => ⟨⟨(), rfl, trivial, by rw [ht, fe]; (try simp only [vE_mk]); exact hP, by rw [fe]; (try simp only [vE_mk]); exact hD⟩, hS.F ht⟩) hS.2.2 d_V_sayAll_31
  have K18g : ∀ (g18 : VV) (hj : f_V_sayAll z0 = f_V_sayAll_18g z0 g18) (H : Heap) (locs : List Loc) (hP : va_P (dC, dI) classes [(h0, .inr (0, [.long (g18.1), .long (g18.2.1), .long (g18.2.2.1), .long (g18.2.2.2.1), .long (g18.2.2.2.2.1), .long (g18.2.2.2.2.2.1), .int (bI g18.2.2.2.2.2.2)]))] H) (hD : va_D A [(h0, .inr (0, [.long (g18.1), .long (g18.2.1), .long (g18.2.2.1), .long (g18.2.2.2.1), .long (g18.2.2.2.2.1), .long (g18.2.2.2.2.2.1), .int (bI g18.2.2.2.2.2.2)]))]) (hS : va_S A s.heap H locs) (ls : Array Slot) (hl : lv_has ls 1 [(0, .ref h0)]), W p l e (headSpec w_V_sayAll ({ frames := 1, cells := 0, slots := 0, locals := 24 } : Room)).room s m ([.ref h0] : List Value).toArray below meth c H locs 0 0 (MQ below (va_Qv (fun _ : Unit => True) (mB (dC, dI) A [(h0, vE (f_V_sayAll z0))]) A) ([.ref h0] : List Value).toArray s 0 0 A) (F0 m 21 ls []) := by
    intro g18 hj H locs hP hD hS ls hl
    refine lv_aload_n hx hb d_V_sayAll_21 rfl (lv_at hl 0 rfl) ?_
    refine lv_ldc2 (v := -9223372036854775808) hx hb hown (hG (.constantLong R_V 43 (-9223372036854775808)) gw87) d_V_sayAll_22 ?_
    refine lv_ldc2 (v := 9223372036854775807) hx hb hown (hG (.constantLong R_V 45 (9223372036854775807)) gw88) d_V_sayAll_25 ?_
    refine mg_v (F := f_V_saySigned g18 (-9223372036854775808) (9223372036854775807)) (wc := [(h0, vE g18)]) (w1 := fun g28 => [(h0, vE g28)]) (wr := []) (ws' := fun g28 => [(h0, .inr (0, [.long (g28.1), .long (g28.2.1), .long (g28.2.2.1), .long (g28.2.2.2.1), .long (g28.2.2.2.2.1), .long (g28.2.2.2.2.2.1), .int (bI g28.2.2.2.2.2.2)]))]) (va_runV (As := [.long (-9223372036854775808), .long (9223372036854775807)]) (rest := []) ⟨hx, hb, hml, hown, hts⟩ (c_V_saySigned l dC dI h0 H.size g18 (-9223372036854775808) (9223372036854775807)) (cwV 2 hts (gV gw89 gw90 gw91 gw1 gw92) rfl rfl rfl (by decide +kernel) ⟨(Nat.le_of_ble_eq_true rfl), (Nat.le_of_ble_eq_true rfl)⟩) ⟨blm, va_recv hK hP (ci := 0) (q0 := 0) rfl rfl, fun U hU hW => ⟨rfl, by rw [hU], by rw [hU]; exact hP.sub [0] rfl, va_K.moved hW.alike hK, (hD.sub [0] (by decide) rfl).weaken (fun _ _ _ _ => trivial)⟩⟩ rfl rfl hl.1 rfl (lv_room (Nat.le_of_ble_eq_true rfl)) d_V_sayAll_28 ⟨Nat.zero_le _, Nat.zero_le _⟩) hP hD hS hA [0] [] [0] rfl rfl (by decide) (by decide) (fun _ => rfl) (by decide) (fun g28 eg28 H locs hP hD hS => ?_)
    refine K28g g28 (Eq.trans (hj.trans rfl) (congrArg (fun g28 => f_V_sayAll_28g z0 g28) eg28)) H locs ?_ ?_ hS ls (lv_sub hl [] rfl)
    · with_reducible exact hP
    · with_reducible exact hD
  have K10g : ∀ (g10 : VV) (hj : f_V_sayAll z0 = f_V_sayAll_10g z0 g10) (H : Heap) (locs : List Loc) (hP : va_P (dC, dI) classes [(h0, .inr (0, [.long (g10.1), .long (g10.2.1), .long (g10.2.2.1), .long (g10.2.2.2.1), .long (g10.2.2.2.2.1), .long (g10.2.2.2.2.2.1), .int (bI g10.2.2.2.2.2.2)]))] H) (hD : va_D A [(h0, .inr (0, [.long (g10.1), .long (g10.2.1), .long (g10.2.2.1), .long (g10.2.2.2.1), .long (g10.2.2.2.2.1), .long (g10.2.2.2.2.2.1), .int (bI g10.2.2.2.2.2.2)]))]) (hS : va_S A s.heap H locs) (ls : Array Slot) (hl : lv_has ls 1 [(0, .ref h0)]), W p l e (headSpec w_V_sayAll ({ frames := 1, cells := 0, slots := 0, locals := 24 } : Room)).room s m ([.ref h0] : List Value).toArray below meth c H locs 0 0 (MQ below (va_Qv (fun _ : Unit => True) (mB (dC, dI) A [(h0, vE (f_V_sayAll z0))]) A) ([.ref h0] : List Value).toArray s 0 0 A) (F0 m 13 ls []) := by
    intro g10 hj H locs hP hD hS ls hl
    refine lv_aload_n hx hb d_V_sayAll_13 rfl (lv_at hl 0 rfl) ?_
    refine lv_lconst (v := 0) hx hb d_V_sayAll_14 (by decide) ?_
    refine lv_ldc2 (v := -1) hx hb hown (hG (.constantLong R_V 32 (-1)) gw78) d_V_sayAll_15 ?_
    refine mg_v (F := f_V_sayUnsigned g10 (0) (-1)) (wc := [(h0, vE g10)]) (w1 := fun g18 => [(h0, vE g18)]) (wr := []) (ws' := fun g18 => [(h0, .inr (0, [.long (g18.1), .long (g18.2.1), .long (g18.2.2.1), .long (g18.2.2.2.1), .long (g18.2.2.2.2.1), .long (g18.2.2.2.2.2.1), .int (bI g18.2.2.2.2.2.2)]))]) (va_runV (As := [.long (0), .long (-1)]) (rest := []) ⟨hx, hb, hml, hown, hts⟩ (c_V_sayUnsigned l dC dI h0 H.size g10 (0) (-1)) (cwV 2 hts (gV gw83 gw84 gw85 gw1 gw86) rfl rfl rfl (by decide +kernel) ⟨(Nat.le_of_ble_eq_true rfl), (Nat.le_of_ble_eq_true rfl)⟩) ⟨blm, va_recv hK hP (ci := 0) (q0 := 0) rfl rfl, fun U hU hW => ⟨rfl, by rw [hU], by rw [hU]; exact hP.sub [0] rfl, va_K.moved hW.alike hK, (hD.sub [0] (by decide) rfl).weaken (fun _ _ _ _ => trivial)⟩⟩ rfl rfl hl.1 rfl (lv_room (Nat.le_of_ble_eq_true rfl)) d_V_sayAll_18 ⟨Nat.zero_le _, Nat.zero_le _⟩) hP hD hS hA [0] [] [0] rfl rfl (by decide) (by decide) (fun _ => rfl) (by decide) (fun g18 eg18 H locs hP hD hS => ?_)
    refine K18g g18 (Eq.trans (hj.trans rfl) (congrArg (fun g18 => f_V_sayAll_18g z0 g18) eg18)) H locs ?_ ?_ hS ls (lv_sub hl [0] rfl)
    · with_reducible exact hP
    · with_reducible exact hD
  refine lv_aload_n hx hb d_V_sayAll_0 rfl (lv_at hl 0 rfl) ?_
  refine lv_iconst (v := 0) hx hb d_V_sayAll_1 (by decide) ?_
  refine va_put (D := (dC, dI)) (ci := 0) (v := .int (bI false)) (ty := .boolean) (C := R_V) (T := F_V) (N := 7) hx hb hts (fun w h => List.mem_cons_of_mem _ (uw_V w h)) t_V t_V_ok n_V hown hK hP hD hS 0 rfl rfl 6 (by decide) (hG (.fieldLink R_V 28 "ValueSieve$Value" "nothing" "Z") gw41) (fun _ h9 => h9) rfl (by decide +kernel) (bI_n false) (bI_f false) (Nat.le_of_ble_eq_true rfl) d_V_sayAll_2 (fun H locs hP hD hS => ?_)
  have hP : va_P (dC, dI) classes [(h0, .inr (0, [.long (z0.1), .long (z0.2.1), .long (z0.2.2.1), .long (z0.2.2.2.1), .long (z0.2.2.2.2.1), .long (z0.2.2.2.2.2.1), .int (bI false)]))] H := hP
  have hD : va_D A [(h0, .inr (0, [.long (z0.1), .long (z0.2.1), .long (z0.2.2.1), .long (z0.2.2.2.1), .long (z0.2.2.2.2.1), .long (z0.2.2.2.2.2.1), .int (bI false)]))] := hD
  refine lv_aload_n hx hb d_V_sayAll_5 rfl (lv_at hl 0 rfl) ?_
  refine lv_lconst (v := 0) hx hb d_V_sayAll_6 (by decide) ?_
  refine lv_ldc2 (v := -1) hx hb hown (hG (.constantLong R_V 32 (-1)) gw78) d_V_sayAll_7 ?_
  refine mg_v (F := f_V_sayBits ((z0.1, z0.2.1, z0.2.2.1, z0.2.2.2.1, z0.2.2.2.2.1, z0.2.2.2.2.2.1, false)) (0) (-1)) (wc := [(h0, vE ((z0.1, z0.2.1, z0.2.2.1, z0.2.2.2.1, z0.2.2.2.2.1, z0.2.2.2.2.2.1, false)))]) (w1 := fun g10 => [(h0, vE g10)]) (wr := []) (ws' := fun g10 => [(h0, .inr (0, [.long (g10.1), .long (g10.2.1), .long (g10.2.2.1), .long (g10.2.2.2.1), .long (g10.2.2.2.2.1), .long (g10.2.2.2.2.2.1), .int (bI g10.2.2.2.2.2.2)]))]) (va_runV (As := [.long (0), .long (-1)]) (rest := []) ⟨hx, hb, hml, hown, hts⟩ (c_V_sayBits l dC dI h0 H.size ((z0.1, z0.2.1, z0.2.2.1, z0.2.2.2.1, z0.2.2.2.2.1, z0.2.2.2.2.2.1, false)) (0) (-1)) (cwV 2 hts (gV gw79 gw80 gw81 gw1 gw82) rfl rfl rfl (by decide +kernel) ⟨(Nat.le_of_ble_eq_true rfl), (Nat.le_of_ble_eq_true rfl)⟩) ⟨blm, va_recv hK hP (ci := 0) (q0 := 0) rfl rfl, fun U hU hW => ⟨rfl, by rw [hU], by rw [hU]; exact hP.sub [0] rfl, va_K.moved hW.alike hK, (hD.sub [0] (by decide) rfl).weaken (fun _ _ _ _ => trivial)⟩⟩ rfl rfl hl.1 rfl (lv_room (Nat.le_of_ble_eq_true rfl)) d_V_sayAll_10 ⟨Nat.zero_le _, Nat.zero_le _⟩) hP hD hS hA [0] [] [0] rfl rfl (by decide) (by decide) (fun _ => rfl) (by decide) (fun g10 eg10 H locs hP hD hS => ?_)
  refine K10g g10 (Eq.trans (rfl) (congrArg (fun g10 => f_V_sayAll_10g z0 g10) eg10)) H locs ?_ ?_ hS ls (lv_sub hl [0] rfl)
  · with_reducible exact hP
  · with_reducible exact hD
-- ValueSieve$Value.isSingle
theorem d_V_isSingle_0 : decode b_V_isSingle 0 = .ok (.aload_n 0, 1) := by decide +kernel
theorem d_V_isSingle_1 : decode b_V_isSingle 1 = .ok (.getfield 13, 3) := by decide +kernel
theorem d_V_isSingle_4 : decode b_V_isSingle 4 = .ok (.lconst 0, 1) := by decide +kernel
theorem d_V_isSingle_5 : decode b_V_isSingle 5 = .ok (.lcmp, 1) := by decide +kernel
theorem d_V_isSingle_6 : decode b_V_isSingle 6 = .ok (.ifCond .ne 7, 3) := by decide +kernel
theorem d_V_isSingle_9 : decode b_V_isSingle 9 = .ok (.iconst 1, 1) := by decide +kernel
theorem d_V_isSingle_10 : decode b_V_isSingle 10 = .ok (.goto 4, 3) := by decide +kernel
theorem d_V_isSingle_13 : decode b_V_isSingle 13 = .ok (.iconst 0, 1) := by decide +kernel
theorem d_V_isSingle_14 : decode b_V_isSingle 14 = .ok (.ireturn, 1) := by decide +kernel
def f_V_isSingle (z0 : VV) : Int32 := (if z0.2.1 = 0 then 1 else 0)
set_option maxRecDepth 100000 in
set_option maxHeartbeats 4000000 in
theorem c_V_isSingle (l : Launch) (dC : Nat → ClassId) (dI : Nat → Nat → Nat) (h0 : Nat) (z0 : VV) : Met l y_V_isSingle w_V_isSingle ({ frames := 0, cells := 0, slots := 0, locals := 0 } : Room) (va_Pc [.ref h0] (rP (dC, dI) [(h0, vE z0)])) (vp_Si (fun r => r = f_V_isSingle z0)) 0 0 (fun _ => False) := by
  refine Met.ofW (cc := b_V_isSingle) (maxL := 1) (ret := (some .boolean)) (by decide) rfl ?_
  intro p e s m args below meth c s₁ B hml hv
  obtain ⟨rfl, hP, hK⟩ := hv
  have hx := B.exec
  have hb := B.bytes
  have hr := B.returns
  have hts := atoms_spec (ws := w_V_isSingle) B.pre
  have hG : ∀ w ∈ gG, w.before _ s = true := fun w h => hts w (List.mem_cons_of_mem _ h)
  have hown : s.vm.findClass R_V = some m.cls := findClass_of_methodNamed B.named
  have hlocks := B.notSynchronized
  have hP : va_P (dC, dI) classes [(h0, .inr (0, [.long (z0.1), .long (z0.2.1), .long (z0.2.2.1), .long (z0.2.2.2.1), .long (z0.2.2.2.2.1), .long (z0.2.2.2.2.2.1), .int (bI z0.2.2.2.2.2.2)]))] s.heap := hP
  have hl := lv_entry ([.ref h0]) (n := 1) (Nat.le_of_ble_eq_true rfl)
  rw [lg_entry_eq]
  generalize (lg_sl ([.ref h0]) ++ List.replicate (1 - (lg_sl ([.ref h0])).length) Slot.unset).toArray = ls at hl ⊢
  have hl : lv_has ls 1 [(0, .ref h0)] := hl
  refine lv_aload_n hx hb d_V_isSingle_0 rfl (lv_at hl 0 rfl) ?_
  refine va_get (D := (dC, dI)) (ci := 0) (v := .long (z0.2.1)) (C := R_V) (T := F_V) (N := 7) hx hb hts (fun w h => List.mem_cons_of_mem _ (uw_V w h)) hown hK hP 0 rfl rfl 1 (by decide) (hG (.fieldLink R_V 13 "ValueSieve$Value" "unknown" "J") gw21) (fun _ h9 => h9) rfl d_V_isSingle_1 ?_
  refine lv_lconst (v := 0) hx hb d_V_isSingle_4 (by decide) ?_
  refine wl_ne (tgt := 13) hx hb d_V_isSingle_5 d_V_isSingle_6 (by decide) (fun e1_13 => ?_) (fun e1_13 => ?_)
  · refine lv_iconst (v := 0) hx hb d_V_isSingle_13 (by decide) ?_
    have fe : f_V_isSingle z0 = 0 := by unfold f_V_isSingle; first | with_reducible exact if_neg e1_13 | exact if_neg e1_13
    have hn : narrow .boolean (.int (0)) = .int (0) := rfl
    exact W.zret (v := 0) hx hb hr hn (fun t ht hW => ⟨_, rfl, fe.symm, ht⟩) t_nil d_V_isSingle_14
  · refine lv_iconst (v := 1) hx hb d_V_isSingle_9 (by decide) ?_
    refine lv_goto (tgt := 14) hx hb d_V_isSingle_10 (by decide) ?_
    have fe : f_V_isSingle z0 = 1 := by unfold f_V_isSingle; first | with_reducible exact if_pos e1_13 | exact if_pos e1_13
    have hn : narrow .boolean (.int (1)) = .int (1) := rfl
    exact W.zret (v := 1) hx hb hr hn (fun t ht hW => ⟨_, rfl, fe.symm, ht⟩) t_nil d_V_isSingle_14
-- ValueSieve$Value.holds
theorem d_V_holds_0 : decode b_V_holds 0 = .ok (.aload_n 0, 1) := by decide +kernel
theorem d_V_holds_1 : decode b_V_holds 1 = .ok (.getfield 28, 3) := by decide +kernel
theorem d_V_holds_4 : decode b_V_holds 4 = .ok (.ifCond .ne 65, 3) := by decide +kernel
theorem d_V_holds_7 : decode b_V_holds 7 = .ok (.lload_n 1, 1) := by decide +kernel
theorem d_V_holds_8 : decode b_V_holds 8 = .ok (.aload_n 0, 1) := by decide +kernel
theorem d_V_holds_9 : decode b_V_holds 9 = .ok (.getfield 13, 3) := by decide +kernel
theorem d_V_holds_12 : decode b_V_holds 12 = .ok (.ldc2_w 32, 3) := by decide +kernel
theorem d_V_holds_15 : decode b_V_holds 15 = .ok (.lxor, 1) := by decide +kernel
theorem d_V_holds_16 : decode b_V_holds 16 = .ok (.land, 1) := by decide +kernel
theorem d_V_holds_17 : decode b_V_holds 17 = .ok (.aload_n 0, 1) := by decide +kernel
theorem d_V_holds_18 : decode b_V_holds 18 = .ok (.getfield 7, 3) := by decide +kernel
theorem d_V_holds_21 : decode b_V_holds 21 = .ok (.lcmp, 1) := by decide +kernel
theorem d_V_holds_22 : decode b_V_holds 22 = .ok (.ifCond .ne 47, 3) := by decide +kernel
theorem d_V_holds_25 : decode b_V_holds 25 = .ok (.lload_n 1, 1) := by decide +kernel
theorem d_V_holds_26 : decode b_V_holds 26 = .ok (.aload_n 0, 1) := by decide +kernel
theorem d_V_holds_27 : decode b_V_holds 27 = .ok (.getfield 16, 3) := by decide +kernel
theorem d_V_holds_30 : decode b_V_holds 30 = .ok (.invokestatic 50, 3) := by decide +kernel
theorem d_V_holds_33 : decode b_V_holds 33 = .ok (.ifCond .ne 36, 3) := by decide +kernel
theorem d_V_holds_36 : decode b_V_holds 36 = .ok (.aload_n 0, 1) := by decide +kernel
theorem d_V_holds_37 : decode b_V_holds 37 = .ok (.getfield 19, 3) := by decide +kernel
theorem d_V_holds_40 : decode b_V_holds 40 = .ok (.lload_n 1, 1) := by decide +kernel
theorem d_V_holds_41 : decode b_V_holds 41 = .ok (.invokestatic 50, 3) := by decide +kernel
theorem d_V_holds_44 : decode b_V_holds 44 = .ok (.ifCond .ne 25, 3) := by decide +kernel
theorem d_V_holds_47 : decode b_V_holds 47 = .ok (.lload_n 1, 1) := by decide +kernel
theorem d_V_holds_48 : decode b_V_holds 48 = .ok (.aload_n 0, 1) := by decide +kernel
theorem d_V_holds_49 : decode b_V_holds 49 = .ok (.getfield 22, 3) := by decide +kernel
theorem d_V_holds_52 : decode b_V_holds 52 = .ok (.lcmp, 1) := by decide +kernel
theorem d_V_holds_53 : decode b_V_holds 53 = .ok (.ifCond .lt 16, 3) := by decide +kernel
theorem d_V_holds_56 : decode b_V_holds 56 = .ok (.lload_n 1, 1) := by decide +kernel
theorem d_V_holds_57 : decode b_V_holds 57 = .ok (.aload_n 0, 1) := by decide +kernel
theorem d_V_holds_58 : decode b_V_holds 58 = .ok (.getfield 25, 3) := by decide +kernel
theorem d_V_holds_61 : decode b_V_holds 61 = .ok (.lcmp, 1) := by decide +kernel
theorem d_V_holds_62 : decode b_V_holds 62 = .ok (.ifCond .gt 7, 3) := by decide +kernel
theorem d_V_holds_65 : decode b_V_holds 65 = .ok (.iconst 1, 1) := by decide +kernel
theorem d_V_holds_66 : decode b_V_holds 66 = .ok (.goto 4, 3) := by decide +kernel
theorem d_V_holds_69 : decode b_V_holds 69 = .ok (.iconst 0, 1) := by decide +kernel
theorem d_V_holds_70 : decode b_V_holds 70 = .ok (.ireturn, 1) := by decide +kernel
def f_V_holds_69 (z0 : VV) (p1 : Int64) : Int32 := 0
def f_V_holds (z0 : VV) (p1 : Int64) : Int32 := (if (bI z0.2.2.2.2.2.2) = 0 then (if (p1 &&& (z0.2.1 ^^^ (-1 : Int64))) = z0.1 then (if (f_N_below p1 z0.2.2.1) = 0 then (if (f_N_below z0.2.2.2.1 p1) = 0 then (if p1 < z0.2.2.2.2.1 then f_V_holds_69 z0 p1 else (if z0.2.2.2.2.2.1 < p1 then f_V_holds_69 z0 p1 else 1)) else f_V_holds_69 z0 p1) else f_V_holds_69 z0 p1) else f_V_holds_69 z0 p1) else f_V_holds_69 z0 p1)
set_option maxRecDepth 100000 in
set_option maxHeartbeats 4000000 in
theorem c_V_holds (l : Launch) (dC : Nat → ClassId) (dI : Nat → Nat → Nat) (h0 : Nat) (z0 : VV) (p1 : Int64) : Met l y_V_holds w_V_holds ({ frames := 1, cells := 0, slots := 0, locals := 23 } : Room) (va_Pc [.ref h0, .long (p1)] (rP (dC, dI) [(h0, vE z0)])) (vp_Si (fun r => r = f_V_holds z0 p1)) 0 0 (fun _ => False) := by
  refine Met.ofW (cc := b_V_holds) (maxL := 3) (ret := (some .boolean)) (by decide) rfl ?_
  intro p e s m args below meth c s₁ B hml hv
  obtain ⟨rfl, hP, hK⟩ := hv
  have hx := B.exec
  have hb := B.bytes
  have hr := B.returns
  have hts := atoms_spec (ws := w_V_holds) B.pre
  have hG : ∀ w ∈ gG, w.before _ s = true := fun w h => hts w (List.mem_cons_of_mem _ h)
  have hown : s.vm.findClass R_V = some m.cls := findClass_of_methodNamed B.named
  have hlocks := B.notSynchronized
  have hP : va_P (dC, dI) classes [(h0, .inr (0, [.long (z0.1), .long (z0.2.1), .long (z0.2.2.1), .long (z0.2.2.2.1), .long (z0.2.2.2.2.1), .long (z0.2.2.2.2.2.1), .int (bI z0.2.2.2.2.2.2)]))] s.heap := hP
  have hl := lv_entry ([.ref h0, .long (p1)]) (n := 3) (Nat.le_of_ble_eq_true rfl)
  rw [lg_entry_eq]
  generalize (lg_sl ([.ref h0, .long (p1)]) ++ List.replicate (3 - (lg_sl ([.ref h0, .long (p1)])).length) Slot.unset).toArray = ls at hl ⊢
  have hl : lv_has ls 3 [(0, .ref h0), (1, .long (p1))] := hl
  have K69 : ∀ (hj : f_V_holds z0 p1 = f_V_holds_69 z0 p1) (ls : Array Slot) (hl : lv_has ls 3 []), W p l e (headSpec w_V_holds ({ frames := 1, cells := 0, slots := 0, locals := 23 } : Room)).room s m ([.ref h0, .long (p1)] : List Value).toArray below meth c s.heap [] 0 0 (MQ below (vp_Si (fun r => r = f_V_holds z0 p1)) ([.ref h0, .long (p1)] : List Value).toArray s 0 0 (fun _ => False)) (F0 m 69 ls []) := by
    intro hj ls hl
    refine lv_iconst (v := 0) hx hb d_V_holds_69 (by decide) ?_
    have fe : f_V_holds z0 p1 = 0 := hj.trans rfl
    have hn : narrow .boolean (.int (0)) = .int (0) := rfl
    exact W.zret (v := 0) hx hb hr hn (fun t ht hW => ⟨_, rfl, fe.symm, ht⟩) t_nil d_V_holds_70
  refine lv_aload_n hx hb d_V_holds_0 rfl (lv_at hl 0 rfl) ?_
  refine va_get (D := (dC, dI)) (ci := 0) (v := .int (bI z0.2.2.2.2.2.2)) (C := R_V) (T := F_V) (N := 7) hx hb hts (fun w h => List.mem_cons_of_mem _ (uw_V w h)) hown hK hP 0 rfl rfl 6 (by decide) (hG (.fieldLink R_V 28 "ValueSieve$Value" "nothing" "Z") gw41) (fun _ h9 => h9) rfl d_V_holds_1 ?_
  refine lv_if_ne (tgt := 69) hx hb d_V_holds_4 (by decide) (fun e1_69 => ?_) (fun e1_69 => ?_)
  · exact K69 (by unfold f_V_holds; first | with_reducible exact if_neg e1_69 | exact if_neg e1_69) ls (lv_sub hl [] rfl)
  · refine lv_lload_n hx hb d_V_holds_7 rfl (lv_at hl 1 rfl) ?_
    refine lv_aload_n hx hb d_V_holds_8 rfl (lv_at hl 0 rfl) ?_
    refine va_get (D := (dC, dI)) (ci := 0) (v := .long (z0.2.1)) (C := R_V) (T := F_V) (N := 7) hx hb hts (fun w h => List.mem_cons_of_mem _ (uw_V w h)) hown hK hP 0 rfl rfl 1 (by decide) (hG (.fieldLink R_V 13 "ValueSieve$Value" "unknown" "J") gw21) (fun _ h9 => h9) rfl d_V_holds_9 ?_
    refine lv_ldc2 (v := -1) hx hb hown (hG (.constantLong R_V 32 (-1)) gw78) d_V_holds_12 ?_
    refine lv_lxor hx hb d_V_holds_15 ?_
    refine lv_land hx hb d_V_holds_16 ?_
    refine lv_aload_n hx hb d_V_holds_17 rfl (lv_at hl 0 rfl) ?_
    refine va_get (D := (dC, dI)) (ci := 0) (v := .long (z0.1)) (C := R_V) (T := F_V) (N := 7) hx hb hts (fun w h => List.mem_cons_of_mem _ (uw_V w h)) hown hK hP 0 rfl rfl 0 (by decide) (hG (.fieldLink R_V 7 "ValueSieve$Value" "bits" "J") gw18) (fun _ h9 => h9) rfl d_V_holds_18 ?_
    refine wl_ne (tgt := 69) hx hb d_V_holds_21 d_V_holds_22 (by decide) (fun e2_69 => ?_) (fun e2_69 => ?_)
    · exact K69 (by unfold f_V_holds; first | with_reducible exact (if_pos e1_69).trans (if_neg e2_69) | exact (if_pos e1_69).trans (if_neg e2_69)) ls (lv_sub hl [] rfl)
    · refine lv_lload_n hx hb d_V_holds_25 rfl (lv_at hl 1 rfl) ?_
      refine lv_aload_n hx hb d_V_holds_26 rfl (lv_at hl 0 rfl) ?_
      refine va_get (D := (dC, dI)) (ci := 0) (v := .long (z0.2.2.1)) (C := R_V) (T := F_V) (N := 7) hx hb hts (fun w h => List.mem_cons_of_mem _ (uw_V w h)) hown hK hP 0 rfl rfl 2 (by decide) (hG (.fieldLink R_V 16 "ValueSieve$Value" "low" "J") gw25) (fun _ h9 => h9) rfl d_V_holds_27 ?_
      refine rc_i (W.runS (As := [.long (p1), .long (z0.2.2.1)]) (rest := []) ⟨hx, hb, hml, hown, hts⟩ (c_N_below l p1 z0.2.2.1) (va_cwS 2 hts (gS gw104 gw105 gw2 gw106) rfl rfl rfl (by decide +kernel) ⟨(Nat.le_of_ble_eq_true rfl), (Nat.le_of_ble_eq_true rfl)⟩) ⟨bl0, fun U hU hW => ⟨rfl, trivial⟩⟩ rfl rfl hl.1 rfl (lv_room (Nat.le_of_ble_eq_true rfl)) d_V_holds_30 ⟨Nat.zero_le _, Nat.zero_le _⟩) ?_
      refine lv_if_ne (tgt := 69) hx hb d_V_holds_33 (by decide) (fun e3_69 => ?_) (fun e3_69 => ?_)
      · exact K69 (by unfold f_V_holds; first | with_reducible exact (if_pos e1_69).trans ((if_pos e2_69).trans (if_neg e3_69)) | exact (if_pos e1_69).trans ((if_pos e2_69).trans (if_neg e3_69))) ls (lv_sub hl [] rfl)
      · refine lv_aload_n hx hb d_V_holds_36 rfl (lv_at hl 0 rfl) ?_
        refine va_get (D := (dC, dI)) (ci := 0) (v := .long (z0.2.2.2.1)) (C := R_V) (T := F_V) (N := 7) hx hb hts (fun w h => List.mem_cons_of_mem _ (uw_V w h)) hown hK hP 0 rfl rfl 3 (by decide) (hG (.fieldLink R_V 19 "ValueSieve$Value" "high" "J") gw29) (fun _ h9 => h9) rfl d_V_holds_37 ?_
        refine lv_lload_n hx hb d_V_holds_40 rfl (lv_at hl 1 rfl) ?_
        refine rc_i (W.runS (As := [.long (z0.2.2.2.1), .long (p1)]) (rest := []) ⟨hx, hb, hml, hown, hts⟩ (c_N_below l z0.2.2.2.1 p1) (va_cwS 2 hts (gS gw104 gw105 gw2 gw106) rfl rfl rfl (by decide +kernel) ⟨(Nat.le_of_ble_eq_true rfl), (Nat.le_of_ble_eq_true rfl)⟩) ⟨bl0, fun U hU hW => ⟨rfl, trivial⟩⟩ rfl rfl hl.1 rfl (lv_room (Nat.le_of_ble_eq_true rfl)) d_V_holds_41 ⟨Nat.zero_le _, Nat.zero_le _⟩) ?_
        refine lv_if_ne (tgt := 69) hx hb d_V_holds_44 (by decide) (fun e4_69 => ?_) (fun e4_69 => ?_)
        · exact K69 (by unfold f_V_holds; first | with_reducible exact (if_pos e1_69).trans ((if_pos e2_69).trans ((if_pos e3_69).trans (if_neg e4_69))) | exact (if_pos e1_69).trans ((if_pos e2_69).trans ((if_pos e3_69).trans (if_neg e4_69)))) ls (lv_sub hl [] rfl)
        · refine lv_lload_n hx hb d_V_holds_47 rfl (lv_at hl 1 rfl) ?_
          refine lv_aload_n hx hb d_V_holds_48 rfl (lv_at hl 0 rfl) ?_
          refine va_get (D := (dC, dI)) (ci := 0) (v := .long (z0.2.2.2.2.1)) (C := R_V) (T := F_V) (N := 7) hx hb hts (fun w h => List.mem_cons_of_mem _ (uw_V w h)) hown hK hP 0 rfl rfl 4 (by decide) (hG (.fieldLink R_V 22 "ValueSieve$Value" "least" "J") gw33) (fun _ h9 => h9) rfl d_V_holds_49 ?_
          refine wl_lt (tgt := 69) hx hb d_V_holds_52 d_V_holds_53 (by decide) (fun e5_69 => ?_) (fun e5_69 => ?_)
          · exact K69 (by unfold f_V_holds; first | with_reducible exact (if_pos e1_69).trans ((if_pos e2_69).trans ((if_pos e3_69).trans ((if_pos e4_69).trans (if_pos e5_69)))) | exact (if_pos e1_69).trans ((if_pos e2_69).trans ((if_pos e3_69).trans ((if_pos e4_69).trans (if_pos e5_69))))) ls (lv_sub hl [] rfl)
          · refine lv_lload_n hx hb d_V_holds_56 rfl (lv_at hl 1 rfl) ?_
            refine lv_aload_n hx hb d_V_holds_57 rfl (lv_at hl 0 rfl) ?_
            refine va_get (D := (dC, dI)) (ci := 0) (v := .long (z0.2.2.2.2.2.1)) (C := R_V) (T := F_V) (N := 7) hx hb hts (fun w h => List.mem_cons_of_mem _ (uw_V w h)) hown hK hP 0 rfl rfl 5 (by decide) (hG (.fieldLink R_V 25 "ValueSieve$Value" "greatest" "J") gw37) (fun _ h9 => h9) rfl d_V_holds_58 ?_
            refine wl_gt (tgt := 69) hx hb d_V_holds_61 d_V_holds_62 (by decide) (fun e6_69 => ?_) (fun e6_69 => ?_)
            · exact K69 (by unfold f_V_holds; first | with_reducible exact (if_pos e1_69).trans ((if_pos e2_69).trans ((if_pos e3_69).trans ((if_pos e4_69).trans ((if_neg e5_69).trans (if_pos e6_69))))) | exact (if_pos e1_69).trans ((if_pos e2_69).trans ((if_pos e3_69).trans ((if_pos e4_69).trans ((if_neg e5_69).trans (if_pos e6_69)))))) ls (lv_sub hl [] rfl)
            · refine lv_iconst (v := 1) hx hb d_V_holds_65 (by decide) ?_
              refine lv_goto (tgt := 70) hx hb d_V_holds_66 (by decide) ?_
              have fe : f_V_holds z0 p1 = 1 := by unfold f_V_holds; first | with_reducible exact (if_pos e1_69).trans ((if_pos e2_69).trans ((if_pos e3_69).trans ((if_pos e4_69).trans ((if_neg e5_69).trans (if_neg e6_69))))) | exact (if_pos e1_69).trans ((if_pos e2_69).trans ((if_pos e3_69).trans ((if_pos e4_69).trans ((if_neg e5_69).trans (if_neg e6_69)))))
              have hn : narrow .boolean (.int (1)) = .int (1) := rfl
              exact W.zret (v := 1) hx hb hr hn (fun t ht hW => ⟨_, rfl, fe.symm, ht⟩) t_nil d_V_holds_70
-- ValueSieve$Value.covers
theorem d_V_covers_0 : decode b_V_covers 0 = .ok (.aload_n 1, 1) := by decide +kernel
theorem d_V_covers_1 : decode b_V_covers 1 = .ok (.getfield 13, 3) := by decide +kernel
theorem d_V_covers_4 : decode b_V_covers 4 = .ok (.aload_n 0, 1) := by decide +kernel
theorem d_V_covers_5 : decode b_V_covers 5 = .ok (.getfield 13, 3) := by decide +kernel
theorem d_V_covers_8 : decode b_V_covers 8 = .ok (.ldc2_w 32, 3) := by decide +kernel
theorem d_V_covers_11 : decode b_V_covers 11 = .ok (.lxor, 1) := by decide +kernel
theorem d_V_covers_12 : decode b_V_covers 12 = .ok (.land, 1) := by decide +kernel
theorem d_V_covers_13 : decode b_V_covers 13 = .ok (.lconst 0, 1) := by decide +kernel
theorem d_V_covers_14 : decode b_V_covers 14 = .ok (.lcmp, 1) := by decide +kernel
theorem d_V_covers_15 : decode b_V_covers 15 = .ok (.ifCond .ne 80, 3) := by decide +kernel
theorem d_V_covers_18 : decode b_V_covers 18 = .ok (.aload_n 1, 1) := by decide +kernel
theorem d_V_covers_19 : decode b_V_covers 19 = .ok (.getfield 7, 3) := by decide +kernel
theorem d_V_covers_22 : decode b_V_covers 22 = .ok (.aload_n 0, 1) := by decide +kernel
theorem d_V_covers_23 : decode b_V_covers 23 = .ok (.getfield 13, 3) := by decide +kernel
theorem d_V_covers_26 : decode b_V_covers 26 = .ok (.ldc2_w 32, 3) := by decide +kernel
theorem d_V_covers_29 : decode b_V_covers 29 = .ok (.lxor, 1) := by decide +kernel
theorem d_V_covers_30 : decode b_V_covers 30 = .ok (.land, 1) := by decide +kernel
theorem d_V_covers_31 : decode b_V_covers 31 = .ok (.aload_n 0, 1) := by decide +kernel
theorem d_V_covers_32 : decode b_V_covers 32 = .ok (.getfield 7, 3) := by decide +kernel
theorem d_V_covers_35 : decode b_V_covers 35 = .ok (.lcmp, 1) := by decide +kernel
theorem d_V_covers_36 : decode b_V_covers 36 = .ok (.ifCond .ne 59, 3) := by decide +kernel
theorem d_V_covers_39 : decode b_V_covers 39 = .ok (.aload_n 1, 1) := by decide +kernel
theorem d_V_covers_40 : decode b_V_covers 40 = .ok (.getfield 16, 3) := by decide +kernel
theorem d_V_covers_43 : decode b_V_covers 43 = .ok (.aload_n 0, 1) := by decide +kernel
theorem d_V_covers_44 : decode b_V_covers 44 = .ok (.getfield 16, 3) := by decide +kernel
theorem d_V_covers_47 : decode b_V_covers 47 = .ok (.invokestatic 50, 3) := by decide +kernel
theorem d_V_covers_50 : decode b_V_covers 50 = .ok (.ifCond .ne 45, 3) := by decide +kernel
theorem d_V_covers_53 : decode b_V_covers 53 = .ok (.aload_n 0, 1) := by decide +kernel
theorem d_V_covers_54 : decode b_V_covers 54 = .ok (.getfield 19, 3) := by decide +kernel
theorem d_V_covers_57 : decode b_V_covers 57 = .ok (.aload_n 1, 1) := by decide +kernel
theorem d_V_covers_58 : decode b_V_covers 58 = .ok (.getfield 19, 3) := by decide +kernel
theorem d_V_covers_61 : decode b_V_covers 61 = .ok (.invokestatic 50, 3) := by decide +kernel
theorem d_V_covers_64 : decode b_V_covers 64 = .ok (.ifCond .ne 31, 3) := by decide +kernel
theorem d_V_covers_67 : decode b_V_covers 67 = .ok (.aload_n 1, 1) := by decide +kernel
theorem d_V_covers_68 : decode b_V_covers 68 = .ok (.getfield 22, 3) := by decide +kernel
theorem d_V_covers_71 : decode b_V_covers 71 = .ok (.aload_n 0, 1) := by decide +kernel
theorem d_V_covers_72 : decode b_V_covers 72 = .ok (.getfield 22, 3) := by decide +kernel
theorem d_V_covers_75 : decode b_V_covers 75 = .ok (.lcmp, 1) := by decide +kernel
theorem d_V_covers_76 : decode b_V_covers 76 = .ok (.ifCond .lt 19, 3) := by decide +kernel
theorem d_V_covers_79 : decode b_V_covers 79 = .ok (.aload_n 1, 1) := by decide +kernel
theorem d_V_covers_80 : decode b_V_covers 80 = .ok (.getfield 25, 3) := by decide +kernel
theorem d_V_covers_83 : decode b_V_covers 83 = .ok (.aload_n 0, 1) := by decide +kernel
theorem d_V_covers_84 : decode b_V_covers 84 = .ok (.getfield 25, 3) := by decide +kernel
theorem d_V_covers_87 : decode b_V_covers 87 = .ok (.lcmp, 1) := by decide +kernel
theorem d_V_covers_88 : decode b_V_covers 88 = .ok (.ifCond .gt 7, 3) := by decide +kernel
theorem d_V_covers_91 : decode b_V_covers 91 = .ok (.iconst 1, 1) := by decide +kernel
theorem d_V_covers_92 : decode b_V_covers 92 = .ok (.goto 4, 3) := by decide +kernel
theorem d_V_covers_95 : decode b_V_covers 95 = .ok (.iconst 0, 1) := by decide +kernel
theorem d_V_covers_96 : decode b_V_covers 96 = .ok (.ireturn, 1) := by decide +kernel
def f_V_covers_95 (z0 : VV) (z1 : VV) : Int32 := 0
def f_V_covers (z0 : VV) (z1 : VV) : Int32 := (if (z1.2.1 &&& (z0.2.1 ^^^ (-1 : Int64))) = 0 then (if (z1.1 &&& (z0.2.1 ^^^ (-1 : Int64))) = z0.1 then (if (f_N_below z1.2.2.1 z0.2.2.1) = 0 then (if (f_N_below z0.2.2.2.1 z1.2.2.2.1) = 0 then (if z1.2.2.2.2.1 < z0.2.2.2.2.1 then f_V_covers_95 z0 z1 else (if z0.2.2.2.2.2.1 < z1.2.2.2.2.2.1 then f_V_covers_95 z0 z1 else 1)) else f_V_covers_95 z0 z1) else f_V_covers_95 z0 z1) else f_V_covers_95 z0 z1) else f_V_covers_95 z0 z1)
set_option maxRecDepth 100000 in
set_option maxHeartbeats 4000000 in
theorem c_V_covers (l : Launch) (dC : Nat → ClassId) (dI : Nat → Nat → Nat) (h0 : Nat) (h1 : Nat) (z0 : VV) (z1 : VV) : Met l y_V_covers w_V_covers ({ frames := 1, cells := 0, slots := 0, locals := 23 } : Room) (va_Pc [.ref h0, .ref h1] (rP (dC, dI) [(h0, vE z0), (h1, vE z1)])) (vp_Si (fun r => r = f_V_covers z0 z1)) 0 0 (fun _ => False) := by
  refine Met.ofW (cc := b_V_covers) (maxL := 2) (ret := (some .boolean)) (by decide) rfl ?_
  intro p e s m args below meth c s₁ B hml hv
  obtain ⟨rfl, hP, hK⟩ := hv
  have hx := B.exec
  have hb := B.bytes
  have hr := B.returns
  have hts := atoms_spec (ws := w_V_covers) B.pre
  have hG : ∀ w ∈ gG, w.before _ s = true := fun w h => hts w (List.mem_cons_of_mem _ h)
  have hown : s.vm.findClass R_V = some m.cls := findClass_of_methodNamed B.named
  have hlocks := B.notSynchronized
  have hP : va_P (dC, dI) classes [(h0, .inr (0, [.long (z0.1), .long (z0.2.1), .long (z0.2.2.1), .long (z0.2.2.2.1), .long (z0.2.2.2.2.1), .long (z0.2.2.2.2.2.1), .int (bI z0.2.2.2.2.2.2)])), (h1, .inr (0, [.long (z1.1), .long (z1.2.1), .long (z1.2.2.1), .long (z1.2.2.2.1), .long (z1.2.2.2.2.1), .long (z1.2.2.2.2.2.1), .int (bI z1.2.2.2.2.2.2)]))] s.heap := hP
  have hl := lv_entry ([.ref h0, .ref h1]) (n := 2) (Nat.le_of_ble_eq_true rfl)
  rw [lg_entry_eq]
  generalize (lg_sl ([.ref h0, .ref h1]) ++ List.replicate (2 - (lg_sl ([.ref h0, .ref h1])).length) Slot.unset).toArray = ls at hl ⊢
  have hl : lv_has ls 2 [(0, .ref h0), (1, .ref h1)] := hl
  have K95 : ∀ (hj : f_V_covers z0 z1 = f_V_covers_95 z0 z1) (ls : Array Slot) (hl : lv_has ls 2 []), W p l e (headSpec w_V_covers ({ frames := 1, cells := 0, slots := 0, locals := 23 } : Room)).room s m ([.ref h0, .ref h1] : List Value).toArray below meth c s.heap [] 0 0 (MQ below (vp_Si (fun r => r = f_V_covers z0 z1)) ([.ref h0, .ref h1] : List Value).toArray s 0 0 (fun _ => False)) (F0 m 95 ls []) := by
    intro hj ls hl
    refine lv_iconst (v := 0) hx hb d_V_covers_95 (by decide) ?_
    have fe : f_V_covers z0 z1 = 0 := hj.trans rfl
    have hn : narrow .boolean (.int (0)) = .int (0) := rfl
    exact W.zret (v := 0) hx hb hr hn (fun t ht hW => ⟨_, rfl, fe.symm, ht⟩) t_nil d_V_covers_96
  refine lv_aload_n hx hb d_V_covers_0 rfl (lv_at hl 1 rfl) ?_
  refine va_get (D := (dC, dI)) (ci := 0) (v := .long (z1.2.1)) (C := R_V) (T := F_V) (N := 7) hx hb hts (fun w h => List.mem_cons_of_mem _ (uw_V w h)) hown hK hP 1 rfl rfl 1 (by decide) (hG (.fieldLink R_V 13 "ValueSieve$Value" "unknown" "J") gw21) (fun _ h9 => h9) rfl d_V_covers_1 ?_
  refine lv_aload_n hx hb d_V_covers_4 rfl (lv_at hl 0 rfl) ?_
  refine va_get (D := (dC, dI)) (ci := 0) (v := .long (z0.2.1)) (C := R_V) (T := F_V) (N := 7) hx hb hts (fun w h => List.mem_cons_of_mem _ (uw_V w h)) hown hK hP 0 rfl rfl 1 (by decide) (hG (.fieldLink R_V 13 "ValueSieve$Value" "unknown" "J") gw21) (fun _ h9 => h9) rfl d_V_covers_5 ?_
  refine lv_ldc2 (v := -1) hx hb hown (hG (.constantLong R_V 32 (-1)) gw78) d_V_covers_8 ?_
  refine lv_lxor hx hb d_V_covers_11 ?_
  refine lv_land hx hb d_V_covers_12 ?_
  refine lv_lconst (v := 0) hx hb d_V_covers_13 (by decide) ?_
  refine wl_ne (tgt := 95) hx hb d_V_covers_14 d_V_covers_15 (by decide) (fun e1_95 => ?_) (fun e1_95 => ?_)
  · exact K95 (by unfold f_V_covers; first | with_reducible exact if_neg e1_95 | exact if_neg e1_95) ls (lv_sub hl [] rfl)
  · refine lv_aload_n hx hb d_V_covers_18 rfl (lv_at hl 1 rfl) ?_
    refine va_get (D := (dC, dI)) (ci := 0) (v := .long (z1.1)) (C := R_V) (T := F_V) (N := 7) hx hb hts (fun w h => List.mem_cons_of_mem _ (uw_V w h)) hown hK hP 1 rfl rfl 0 (by decide) (hG (.fieldLink R_V 7 "ValueSieve$Value" "bits" "J") gw18) (fun _ h9 => h9) rfl d_V_covers_19 ?_
    refine lv_aload_n hx hb d_V_covers_22 rfl (lv_at hl 0 rfl) ?_
    refine va_get (D := (dC, dI)) (ci := 0) (v := .long (z0.2.1)) (C := R_V) (T := F_V) (N := 7) hx hb hts (fun w h => List.mem_cons_of_mem _ (uw_V w h)) hown hK hP 0 rfl rfl 1 (by decide) (hG (.fieldLink R_V 13 "ValueSieve$Value" "unknown" "J") gw21) (fun _ h9 => h9) rfl d_V_covers_23 ?_
    refine lv_ldc2 (v := -1) hx hb hown (hG (.constantLong R_V 32 (-1)) gw78) d_V_covers_26 ?_
    refine lv_lxor hx hb d_V_covers_29 ?_
    refine lv_land hx hb d_V_covers_30 ?_
    refine lv_aload_n hx hb d_V_covers_31 rfl (lv_at hl 0 rfl) ?_
    refine va_get (D := (dC, dI)) (ci := 0) (v := .long (z0.1)) (C := R_V) (T := F_V) (N := 7) hx hb hts (fun w h => List.mem_cons_of_mem _ (uw_V w h)) hown hK hP 0 rfl rfl 0 (by decide) (hG (.fieldLink R_V 7 "ValueSieve$Value" "bits" "J") gw18) (fun _ h9 => h9) rfl d_V_covers_32 ?_
    refine wl_ne (tgt := 95) hx hb d_V_covers_35 d_V_covers_36 (by decide) (fun e2_95 => ?_) (fun e2_95 => ?_)
    · exact K95 (by unfold f_V_covers; first | with_reducible exact (if_pos e1_95).trans (if_neg e2_95) | exact (if_pos e1_95).trans (if_neg e2_95)) ls (lv_sub hl [] rfl)
    · refine lv_aload_n hx hb d_V_covers_39 rfl (lv_at hl 1 rfl) ?_
      refine va_get (D := (dC, dI)) (ci := 0) (v := .long (z1.2.2.1)) (C := R_V) (T := F_V) (N := 7) hx hb hts (fun w h => List.mem_cons_of_mem _ (uw_V w h)) hown hK hP 1 rfl rfl 2 (by decide) (hG (.fieldLink R_V 16 "ValueSieve$Value" "low" "J") gw25) (fun _ h9 => h9) rfl d_V_covers_40 ?_
      refine lv_aload_n hx hb d_V_covers_43 rfl (lv_at hl 0 rfl) ?_
      refine va_get (D := (dC, dI)) (ci := 0) (v := .long (z0.2.2.1)) (C := R_V) (T := F_V) (N := 7) hx hb hts (fun w h => List.mem_cons_of_mem _ (uw_V w h)) hown hK hP 0 rfl rfl 2 (by decide) (hG (.fieldLink R_V 16 "ValueSieve$Value" "low" "J") gw25) (fun _ h9 => h9) rfl d_V_covers_44 ?_
      refine rc_i (W.runS (As := [.long (z1.2.2.1), .long (z0.2.2.1)]) (rest := []) ⟨hx, hb, hml, hown, hts⟩ (c_N_below l z1.2.2.1 z0.2.2.1) (va_cwS 2 hts (gS gw104 gw105 gw2 gw106) rfl rfl rfl (by decide +kernel) ⟨(Nat.le_of_ble_eq_true rfl), (Nat.le_of_ble_eq_true rfl)⟩) ⟨bl0, fun U hU hW => ⟨rfl, trivial⟩⟩ rfl rfl hl.1 rfl (lv_room (Nat.le_of_ble_eq_true rfl)) d_V_covers_47 ⟨Nat.zero_le _, Nat.zero_le _⟩) ?_
      refine lv_if_ne (tgt := 95) hx hb d_V_covers_50 (by decide) (fun e3_95 => ?_) (fun e3_95 => ?_)
      · exact K95 (by unfold f_V_covers; first | with_reducible exact (if_pos e1_95).trans ((if_pos e2_95).trans (if_neg e3_95)) | exact (if_pos e1_95).trans ((if_pos e2_95).trans (if_neg e3_95))) ls (lv_sub hl [] rfl)
      · refine lv_aload_n hx hb d_V_covers_53 rfl (lv_at hl 0 rfl) ?_
        refine va_get (D := (dC, dI)) (ci := 0) (v := .long (z0.2.2.2.1)) (C := R_V) (T := F_V) (N := 7) hx hb hts (fun w h => List.mem_cons_of_mem _ (uw_V w h)) hown hK hP 0 rfl rfl 3 (by decide) (hG (.fieldLink R_V 19 "ValueSieve$Value" "high" "J") gw29) (fun _ h9 => h9) rfl d_V_covers_54 ?_
        refine lv_aload_n hx hb d_V_covers_57 rfl (lv_at hl 1 rfl) ?_
        refine va_get (D := (dC, dI)) (ci := 0) (v := .long (z1.2.2.2.1)) (C := R_V) (T := F_V) (N := 7) hx hb hts (fun w h => List.mem_cons_of_mem _ (uw_V w h)) hown hK hP 1 rfl rfl 3 (by decide) (hG (.fieldLink R_V 19 "ValueSieve$Value" "high" "J") gw29) (fun _ h9 => h9) rfl d_V_covers_58 ?_
        refine rc_i (W.runS (As := [.long (z0.2.2.2.1), .long (z1.2.2.2.1)]) (rest := []) ⟨hx, hb, hml, hown, hts⟩ (c_N_below l z0.2.2.2.1 z1.2.2.2.1) (va_cwS 2 hts (gS gw104 gw105 gw2 gw106) rfl rfl rfl (by decide +kernel) ⟨(Nat.le_of_ble_eq_true rfl), (Nat.le_of_ble_eq_true rfl)⟩) ⟨bl0, fun U hU hW => ⟨rfl, trivial⟩⟩ rfl rfl hl.1 rfl (lv_room (Nat.le_of_ble_eq_true rfl)) d_V_covers_61 ⟨Nat.zero_le _, Nat.zero_le _⟩) ?_
        refine lv_if_ne (tgt := 95) hx hb d_V_covers_64 (by decide) (fun e4_95 => ?_) (fun e4_95 => ?_)
        · exact K95 (by unfold f_V_covers; first | with_reducible exact (if_pos e1_95).trans ((if_pos e2_95).trans ((if_pos e3_95).trans (if_neg e4_95))) | exact (if_pos e1_95).trans ((if_pos e2_95).trans ((if_pos e3_95).trans (if_neg e4_95)))) ls (lv_sub hl [] rfl)
        · refine lv_aload_n hx hb d_V_covers_67 rfl (lv_at hl 1 rfl) ?_
          refine va_get (D := (dC, dI)) (ci := 0) (v := .long (z1.2.2.2.2.1)) (C := R_V) (T := F_V) (N := 7) hx hb hts (fun w h => List.mem_cons_of_mem _ (uw_V w h)) hown hK hP 1 rfl rfl 4 (by decide) (hG (.fieldLink R_V 22 "ValueSieve$Value" "least" "J") gw33) (fun _ h9 => h9) rfl d_V_covers_68 ?_
          refine lv_aload_n hx hb d_V_covers_71 rfl (lv_at hl 0 rfl) ?_
          refine va_get (D := (dC, dI)) (ci := 0) (v := .long (z0.2.2.2.2.1)) (C := R_V) (T := F_V) (N := 7) hx hb hts (fun w h => List.mem_cons_of_mem _ (uw_V w h)) hown hK hP 0 rfl rfl 4 (by decide) (hG (.fieldLink R_V 22 "ValueSieve$Value" "least" "J") gw33) (fun _ h9 => h9) rfl d_V_covers_72 ?_
          refine wl_lt (tgt := 95) hx hb d_V_covers_75 d_V_covers_76 (by decide) (fun e5_95 => ?_) (fun e5_95 => ?_)
          · exact K95 (by unfold f_V_covers; first | with_reducible exact (if_pos e1_95).trans ((if_pos e2_95).trans ((if_pos e3_95).trans ((if_pos e4_95).trans (if_pos e5_95)))) | exact (if_pos e1_95).trans ((if_pos e2_95).trans ((if_pos e3_95).trans ((if_pos e4_95).trans (if_pos e5_95))))) ls (lv_sub hl [] rfl)
          · refine lv_aload_n hx hb d_V_covers_79 rfl (lv_at hl 1 rfl) ?_
            refine va_get (D := (dC, dI)) (ci := 0) (v := .long (z1.2.2.2.2.2.1)) (C := R_V) (T := F_V) (N := 7) hx hb hts (fun w h => List.mem_cons_of_mem _ (uw_V w h)) hown hK hP 1 rfl rfl 5 (by decide) (hG (.fieldLink R_V 25 "ValueSieve$Value" "greatest" "J") gw37) (fun _ h9 => h9) rfl d_V_covers_80 ?_
            refine lv_aload_n hx hb d_V_covers_83 rfl (lv_at hl 0 rfl) ?_
            refine va_get (D := (dC, dI)) (ci := 0) (v := .long (z0.2.2.2.2.2.1)) (C := R_V) (T := F_V) (N := 7) hx hb hts (fun w h => List.mem_cons_of_mem _ (uw_V w h)) hown hK hP 0 rfl rfl 5 (by decide) (hG (.fieldLink R_V 25 "ValueSieve$Value" "greatest" "J") gw37) (fun _ h9 => h9) rfl d_V_covers_84 ?_
            refine wl_gt (tgt := 95) hx hb d_V_covers_87 d_V_covers_88 (by decide) (fun e6_95 => ?_) (fun e6_95 => ?_)
            · exact K95 (by unfold f_V_covers; first | with_reducible exact (if_pos e1_95).trans ((if_pos e2_95).trans ((if_pos e3_95).trans ((if_pos e4_95).trans ((if_neg e5_95).trans (if_pos e6_95))))) | exact (if_pos e1_95).trans ((if_pos e2_95).trans ((if_pos e3_95).trans ((if_pos e4_95).trans ((if_neg e5_95).trans (if_pos e6_95)))))) ls (lv_sub hl [] rfl)
            · refine lv_iconst (v := 1) hx hb d_V_covers_91 (by decide) ?_
              refine lv_goto (tgt := 96) hx hb d_V_covers_92 (by decide) ?_
              have fe : f_V_covers z0 z1 = 1 := by unfold f_V_covers; first | with_reducible exact (if_pos e1_95).trans ((if_pos e2_95).trans ((if_pos e3_95).trans ((if_pos e4_95).trans ((if_neg e5_95).trans (if_neg e6_95))))) | exact (if_pos e1_95).trans ((if_pos e2_95).trans ((if_pos e3_95).trans ((if_pos e4_95).trans ((if_neg e5_95).trans (if_neg e6_95)))))
              have hn : narrow .boolean (.int (1)) = .int (1) := rfl
              exact W.zret (v := 1) hx hb hr hn (fun t ht hW => ⟨_, rfl, fe.symm, ht⟩) t_nil d_V_covers_96
-- ValueSieve$Value.openBetween
theorem d_V_openBetween_0 : decode b_V_openBetween 0 = .ok (.aload_n 0, 1) := by decide +kernel
theorem d_V_openBetween_1 : decode b_V_openBetween 1 = .ok (.getfield 13, 3) := by decide +kernel
theorem d_V_openBetween_4 : decode b_V_openBetween 4 = .ok (.lload_n 1, 1) := by decide +kernel
theorem d_V_openBetween_5 : decode b_V_openBetween 5 = .ok (.lload_n 3, 1) := by decide +kernel
theorem d_V_openBetween_6 : decode b_V_openBetween 6 = .ok (.lxor, 1) := by decide +kernel
theorem d_V_openBetween_7 : decode b_V_openBetween 7 = .ok (.invokestatic 74, 3) := by decide +kernel
theorem d_V_openBetween_10 : decode b_V_openBetween 10 = .ok (.land, 1) := by decide +kernel
theorem d_V_openBetween_11 : decode b_V_openBetween 11 = .ok (.lreturn, 1) := by decide +kernel
def f_V_openBetween (z0 : VV) (p1 : Int64) (p2 : Int64) : Int64 := (z0.2.1 &&& (f_N_upToHighest (p1 ^^^ p2)))
set_option maxRecDepth 100000 in
set_option maxHeartbeats 4000000 in
theorem c_V_openBetween (l : Launch) (dC : Nat → ClassId) (dI : Nat → Nat → Nat) (h0 : Nat) (z0 : VV) (p1 : Int64) (p2 : Int64) : Met l y_V_openBetween w_V_openBetween ({ frames := 1, cells := 0, slots := 0, locals := 23 } : Room) (va_Pc [.ref h0, .long (p1), .long (p2)] (rP (dC, dI) [(h0, vE z0)])) (vp_Sl (fun r => r = f_V_openBetween z0 p1 p2)) 0 0 (fun _ => False) := by
  refine Met.ofW (cc := b_V_openBetween) (maxL := 5) (ret := (some .long)) (by decide) rfl ?_
  intro p e s m args below meth c s₁ B hml hv
  obtain ⟨rfl, hP, hK⟩ := hv
  have hx := B.exec
  have hb := B.bytes
  have hr := B.returns
  have hts := atoms_spec (ws := w_V_openBetween) B.pre
  have hG : ∀ w ∈ gG, w.before _ s = true := fun w h => hts w (List.mem_cons_of_mem _ h)
  have hown : s.vm.findClass R_V = some m.cls := findClass_of_methodNamed B.named
  have hlocks := B.notSynchronized
  have hP : va_P (dC, dI) classes [(h0, .inr (0, [.long (z0.1), .long (z0.2.1), .long (z0.2.2.1), .long (z0.2.2.2.1), .long (z0.2.2.2.2.1), .long (z0.2.2.2.2.2.1), .int (bI z0.2.2.2.2.2.2)]))] s.heap := hP
  have hl := lv_entry ([.ref h0, .long (p1), .long (p2)]) (n := 5) (Nat.le_of_ble_eq_true rfl)
  rw [lg_entry_eq]
  generalize (lg_sl ([.ref h0, .long (p1), .long (p2)]) ++ List.replicate (5 - (lg_sl ([.ref h0, .long (p1), .long (p2)])).length) Slot.unset).toArray = ls at hl ⊢
  have hl : lv_has ls 5 [(0, .ref h0), (1, .long (p1)), (3, .long (p2))] := hl
  refine lv_aload_n hx hb d_V_openBetween_0 rfl (lv_at hl 0 rfl) ?_
  refine va_get (D := (dC, dI)) (ci := 0) (v := .long (z0.2.1)) (C := R_V) (T := F_V) (N := 7) hx hb hts (fun w h => List.mem_cons_of_mem _ (uw_V w h)) hown hK hP 0 rfl rfl 1 (by decide) (hG (.fieldLink R_V 13 "ValueSieve$Value" "unknown" "J") gw21) (fun _ h9 => h9) rfl d_V_openBetween_1 ?_
  refine lv_lload_n hx hb d_V_openBetween_4 rfl (lv_at hl 1 rfl) ?_
  refine lv_lload_n hx hb d_V_openBetween_5 rfl (lv_at hl 2 rfl) ?_
  refine lv_lxor hx hb d_V_openBetween_6 ?_
  refine rc_l (W.runS (As := [.long (p1 ^^^ p2)]) (rest := [.long (z0.2.1)]) ⟨hx, hb, hml, hown, hts⟩ (c_N_upToHighest l (p1 ^^^ p2)) (va_cwS 1 hts (gS gw146 gw131 gw2 gw132) rfl rfl rfl (by decide +kernel) ⟨(Nat.le_of_ble_eq_true rfl), (Nat.le_of_ble_eq_true rfl)⟩) ⟨bl0, fun U hU hW => ⟨rfl, trivial⟩⟩ rfl rfl hl.1 rfl (lv_room (Nat.le_of_ble_eq_true rfl)) d_V_openBetween_7 ⟨Nat.zero_le _, Nat.zero_le _⟩) ?_
  refine lv_land hx hb d_V_openBetween_10 ?_
  have fe : f_V_openBetween z0 p1 p2 = z0.2.1 &&& (f_N_upToHighest (p1 ^^^ p2)) := rfl
  exact W.lret (v := z0.2.1 &&& (f_N_upToHighest (p1 ^^^ p2))) hx hb hr (fun t ht hW => ⟨_, rfl, fe.symm, ht⟩) t_nil d_V_openBetween_11
-- ValueSieve$Value.firstOfHalf
theorem d_V_firstOfHalf_0 : decode b_V_firstOfHalf 0 = .ok (.aload_n 0, 1) := by decide +kernel
theorem d_V_firstOfHalf_1 : decode b_V_firstOfHalf 1 = .ok (.getfield 16, 3) := by decide +kernel
theorem d_V_firstOfHalf_4 : decode b_V_firstOfHalf 4 = .ok (.aload_n 0, 1) := by decide +kernel
theorem d_V_firstOfHalf_5 : decode b_V_firstOfHalf 5 = .ok (.getfield 22, 3) := by decide +kernel
theorem d_V_firstOfHalf_8 : decode b_V_firstOfHalf 8 = .ok (.lload_n 1, 1) := by decide +kernel
theorem d_V_firstOfHalf_9 : decode b_V_firstOfHalf 9 = .ok (.invokestatic 77, 3) := by decide +kernel
theorem d_V_firstOfHalf_12 : decode b_V_firstOfHalf 12 = .ok (.invokestatic 82, 3) := by decide +kernel
theorem d_V_firstOfHalf_15 : decode b_V_firstOfHalf 15 = .ok (.lstore_n 3, 1) := by decide +kernel
theorem d_V_firstOfHalf_16 : decode b_V_firstOfHalf 16 = .ok (.lload_n 3, 1) := by decide +kernel
theorem d_V_firstOfHalf_17 : decode b_V_firstOfHalf 17 = .ok (.aload_n 0, 1) := by decide +kernel
theorem d_V_firstOfHalf_18 : decode b_V_firstOfHalf 18 = .ok (.getfield 7, 3) := by decide +kernel
theorem d_V_firstOfHalf_21 : decode b_V_firstOfHalf 21 = .ok (.ldc2_w 45, 3) := by decide +kernel
theorem d_V_firstOfHalf_24 : decode b_V_firstOfHalf 24 = .ok (.land, 1) := by decide +kernel
theorem d_V_firstOfHalf_25 : decode b_V_firstOfHalf 25 = .ok (.lload_n 1, 1) := by decide +kernel
theorem d_V_firstOfHalf_26 : decode b_V_firstOfHalf 26 = .ok (.lor, 1) := by decide +kernel
theorem d_V_firstOfHalf_27 : decode b_V_firstOfHalf 27 = .ok (.aload_n 0, 1) := by decide +kernel
theorem d_V_firstOfHalf_28 : decode b_V_firstOfHalf 28 = .ok (.getfield 13, 3) := by decide +kernel
theorem d_V_firstOfHalf_31 : decode b_V_firstOfHalf 31 = .ok (.ldc2_w 45, 3) := by decide +kernel
theorem d_V_firstOfHalf_34 : decode b_V_firstOfHalf 34 = .ok (.land, 1) := by decide +kernel
theorem d_V_firstOfHalf_35 : decode b_V_firstOfHalf 35 = .ok (.invokestatic 85, 3) := by decide +kernel
theorem d_V_firstOfHalf_38 : decode b_V_firstOfHalf 38 = .ok (.lreturn, 1) := by decide +kernel
def f_V_firstOfHalf_15v (z0 : VV) (p1 : Int64) (v15 : Int64) : Int64 := (f_N_firstFrom v15 ((z0.1 &&& (9223372036854775807 : Int64)) ||| p1) (z0.2.1 &&& (9223372036854775807 : Int64)))
def f_V_firstOfHalf (z0 : VV) (p1 : Int64) : Int64 := f_V_firstOfHalf_15v z0 p1 (f_N_more z0.2.2.1 (jmmax z0.2.2.2.2.1 p1))
set_option maxRecDepth 100000 in
set_option maxHeartbeats 4000000 in
theorem c_V_firstOfHalf (l : Launch) (dC : Nat → ClassId) (dI : Nat → Nat → Nat) (h0 : Nat) (z0 : VV) (p1 : Int64) : Met l y_V_firstOfHalf w_V_firstOfHalf ({ frames := 2, cells := 0, slots := 0, locals := 58 } : Room) (va_Pc [.ref h0, .long (p1)] (rP (dC, dI) [(h0, vE z0)])) (vp_Sl (fun r => r = f_V_firstOfHalf z0 p1)) 0 0 (fun _ => False) := by
  refine Met.ofW (cc := b_V_firstOfHalf) (maxL := 5) (ret := (some .long)) (by decide) rfl ?_
  intro p e s m args below meth c s₁ B hml hv
  obtain ⟨rfl, hP, hK⟩ := hv
  have hx := B.exec
  have hb := B.bytes
  have hr := B.returns
  have hts := atoms_spec (ws := w_V_firstOfHalf) B.pre
  have hG : ∀ w ∈ gG, w.before _ s = true := fun w h => hts w (List.mem_cons_of_mem _ h)
  have hown : s.vm.findClass R_V = some m.cls := findClass_of_methodNamed B.named
  have hlocks := B.notSynchronized
  have hP : va_P (dC, dI) classes [(h0, .inr (0, [.long (z0.1), .long (z0.2.1), .long (z0.2.2.1), .long (z0.2.2.2.1), .long (z0.2.2.2.2.1), .long (z0.2.2.2.2.2.1), .int (bI z0.2.2.2.2.2.2)]))] s.heap := hP
  have hl := lv_entry ([.ref h0, .long (p1)]) (n := 5) (Nat.le_of_ble_eq_true rfl)
  rw [lg_entry_eq]
  generalize (lg_sl ([.ref h0, .long (p1)]) ++ List.replicate (5 - (lg_sl ([.ref h0, .long (p1)])).length) Slot.unset).toArray = ls at hl ⊢
  have hl : lv_has ls 5 [(0, .ref h0), (1, .long (p1))] := hl
  have K15v : ∀ (v15 : Int64) (hj : f_V_firstOfHalf z0 p1 = f_V_firstOfHalf_15v z0 p1 v15) (ls : Array Slot) (hl : lv_has ls 5 [(3, .long (v15)), (0, .ref h0), (1, .long (p1))]), W p l e (headSpec w_V_firstOfHalf ({ frames := 2, cells := 0, slots := 0, locals := 58 } : Room)).room s m ([.ref h0, .long (p1)] : List Value).toArray below meth c s.heap [] 0 0 (MQ below (vp_Sl (fun r => r = f_V_firstOfHalf z0 p1)) ([.ref h0, .long (p1)] : List Value).toArray s 0 0 (fun _ => False)) (F0 m 16 ls []) := by
    intro v15 hj ls hl
    refine lv_lload_n hx hb d_V_firstOfHalf_16 rfl (lv_at hl 0 rfl) ?_
    refine lv_aload_n hx hb d_V_firstOfHalf_17 rfl (lv_at hl 1 rfl) ?_
    refine va_get (D := (dC, dI)) (ci := 0) (v := .long (z0.1)) (C := R_V) (T := F_V) (N := 7) hx hb hts (fun w h => List.mem_cons_of_mem _ (uw_V w h)) hown hK hP 0 rfl rfl 0 (by decide) (hG (.fieldLink R_V 7 "ValueSieve$Value" "bits" "J") gw18) (fun _ h9 => h9) rfl d_V_firstOfHalf_18 ?_
    refine lv_ldc2 (v := 9223372036854775807) hx hb hown (hG (.constantLong R_V 45 (9223372036854775807)) gw88) d_V_firstOfHalf_21 ?_
    refine lv_land hx hb d_V_firstOfHalf_24 ?_
    refine lv_lload_n hx hb d_V_firstOfHalf_25 rfl (lv_at hl 2 rfl) ?_
    refine lv_lor hx hb d_V_firstOfHalf_26 ?_
    refine lv_aload_n hx hb d_V_firstOfHalf_27 rfl (lv_at hl 1 rfl) ?_
    refine va_get (D := (dC, dI)) (ci := 0) (v := .long (z0.2.1)) (C := R_V) (T := F_V) (N := 7) hx hb hts (fun w h => List.mem_cons_of_mem _ (uw_V w h)) hown hK hP 0 rfl rfl 1 (by decide) (hG (.fieldLink R_V 13 "ValueSieve$Value" "unknown" "J") gw21) (fun _ h9 => h9) rfl d_V_firstOfHalf_28 ?_
    refine lv_ldc2 (v := 9223372036854775807) hx hb hown (hG (.constantLong R_V 45 (9223372036854775807)) gw88) d_V_firstOfHalf_31 ?_
    refine lv_land hx hb d_V_firstOfHalf_34 ?_
    refine rc_l (W.runS (As := [.long (v15), .long ((z0.1 &&& (9223372036854775807 : Int64)) ||| p1), .long (z0.2.1 &&& (9223372036854775807 : Int64))]) (rest := []) ⟨hx, hb, hml, hown, hts⟩ (c_N_firstFrom l v15 ((z0.1 &&& (9223372036854775807 : Int64)) ||| p1) (z0.2.1 &&& (9223372036854775807 : Int64))) (va_cwS 3 hts (gS gw126 gw127 gw2 gw128) rfl rfl rfl (by decide +kernel) ⟨(Nat.le_of_ble_eq_true rfl), (Nat.le_of_ble_eq_true rfl)⟩) ⟨bl0, fun U hU hW => ⟨rfl, trivial⟩⟩ rfl rfl hl.1 rfl (lv_room (Nat.le_of_ble_eq_true rfl)) d_V_firstOfHalf_35 ⟨Nat.zero_le _, Nat.zero_le _⟩) ?_
    have fe : f_V_firstOfHalf z0 p1 = f_N_firstFrom v15 ((z0.1 &&& (9223372036854775807 : Int64)) ||| p1) (z0.2.1 &&& (9223372036854775807 : Int64)) := hj.trans rfl
    exact W.lret (v := f_N_firstFrom v15 ((z0.1 &&& (9223372036854775807 : Int64)) ||| p1) (z0.2.1 &&& (9223372036854775807 : Int64))) hx hb hr (fun t ht hW => ⟨_, rfl, fe.symm, ht⟩) t_nil d_V_firstOfHalf_38
  refine lv_aload_n hx hb d_V_firstOfHalf_0 rfl (lv_at hl 0 rfl) ?_
  refine va_get (D := (dC, dI)) (ci := 0) (v := .long (z0.2.2.1)) (C := R_V) (T := F_V) (N := 7) hx hb hts (fun w h => List.mem_cons_of_mem _ (uw_V w h)) hown hK hP 0 rfl rfl 2 (by decide) (hG (.fieldLink R_V 16 "ValueSieve$Value" "low" "J") gw25) (fun _ h9 => h9) rfl d_V_firstOfHalf_1 ?_
  refine lv_aload_n hx hb d_V_firstOfHalf_4 rfl (lv_at hl 0 rfl) ?_
  refine va_get (D := (dC, dI)) (ci := 0) (v := .long (z0.2.2.2.2.1)) (C := R_V) (T := F_V) (N := 7) hx hb hts (fun w h => List.mem_cons_of_mem _ (uw_V w h)) hown hK hP 0 rfl rfl 4 (by decide) (hG (.fieldLink R_V 22 "ValueSieve$Value" "least" "J") gw33) (fun _ h9 => h9) rfl d_V_firstOfHalf_5 ?_
  refine lv_lload_n hx hb d_V_firstOfHalf_8 rfl (lv_at hl 1 rfl) ?_
  refine va_mmax_long hx hb (hml.trans hl.1.symm) hown (hG (.methodLink R_V 77 Lib.MathLoose.max_long.x) gw119) (hG (.static Lib.MathLoose.max_long.x) gw120) (hG (.initialized "java/lang/Math") gw3) (hG (.code Lib.MathLoose.max_long.x Lib.MathLoose.max_long.code 4 (some .long)) gw121) (Nat.le_of_ble_eq_true rfl) (Nat.le_of_ble_eq_true rfl) (Nat.zero_le _) (Nat.zero_le _) d_V_firstOfHalf_9 ?_
  refine rc_l (W.runS (As := [.long (z0.2.2.1), .long (jmmax z0.2.2.2.2.1 p1)]) (rest := []) ⟨hx, hb, hml, hown, hts⟩ (c_N_more l z0.2.2.1 (jmmax z0.2.2.2.2.1 p1)) (va_cwS 2 hts (gS gw122 gw123 gw2 gw124) rfl rfl rfl (by decide +kernel) ⟨(Nat.le_of_ble_eq_true rfl), (Nat.le_of_ble_eq_true rfl)⟩) ⟨bl0, fun U hU hW => ⟨rfl, trivial⟩⟩ rfl rfl hl.1 rfl (lv_room (Nat.le_of_ble_eq_true rfl)) d_V_firstOfHalf_12 ⟨Nat.zero_le _, Nat.zero_le _⟩) ?_
  refine lv_topl (fun v15 ev15 => ?_)
  refine lv_lstore_n (lv' := [(3, .long (v15)), (0, .ref h0), (1, .long (p1))]) hx hb d_V_firstOfHalf_15 rfl hl (by decide) rfl (fun ls hl => ?_)
  exact K15v v15 (Eq.trans (rfl) (congrArg (fun v15 => f_V_firstOfHalf_15v z0 p1 v15) ev15.symm)) ls (lv_sub hl [0, 1, 2] rfl)
-- ValueSieve$Value.lastOfHalf
theorem d_V_lastOfHalf_0 : decode b_V_lastOfHalf 0 = .ok (.aload_n 0, 1) := by decide +kernel
theorem d_V_lastOfHalf_1 : decode b_V_lastOfHalf 1 = .ok (.getfield 19, 3) := by decide +kernel
theorem d_V_lastOfHalf_4 : decode b_V_lastOfHalf 4 = .ok (.aload_n 0, 1) := by decide +kernel
theorem d_V_lastOfHalf_5 : decode b_V_lastOfHalf 5 = .ok (.getfield 25, 3) := by decide +kernel
theorem d_V_lastOfHalf_8 : decode b_V_lastOfHalf 8 = .ok (.lload_n 1, 1) := by decide +kernel
theorem d_V_lastOfHalf_9 : decode b_V_lastOfHalf 9 = .ok (.ldc2_w 45, 3) := by decide +kernel
theorem d_V_lastOfHalf_12 : decode b_V_lastOfHalf 12 = .ok (.lor, 1) := by decide +kernel
theorem d_V_lastOfHalf_13 : decode b_V_lastOfHalf 13 = .ok (.invokestatic 89, 3) := by decide +kernel
theorem d_V_lastOfHalf_16 : decode b_V_lastOfHalf 16 = .ok (.invokestatic 92, 3) := by decide +kernel
theorem d_V_lastOfHalf_19 : decode b_V_lastOfHalf 19 = .ok (.lstore_n 3, 1) := by decide +kernel
theorem d_V_lastOfHalf_20 : decode b_V_lastOfHalf 20 = .ok (.aload_n 0, 1) := by decide +kernel
theorem d_V_lastOfHalf_21 : decode b_V_lastOfHalf 21 = .ok (.getfield 13, 3) := by decide +kernel
theorem d_V_lastOfHalf_24 : decode b_V_lastOfHalf 24 = .ok (.ldc2_w 45, 3) := by decide +kernel
theorem d_V_lastOfHalf_27 : decode b_V_lastOfHalf 27 = .ok (.land, 1) := by decide +kernel
theorem d_V_lastOfHalf_28 : decode b_V_lastOfHalf 28 = .ok (.lstore 5, 2) := by decide +kernel
theorem d_V_lastOfHalf_30 : decode b_V_lastOfHalf 30 = .ok (.aload_n 0, 1) := by decide +kernel
theorem d_V_lastOfHalf_31 : decode b_V_lastOfHalf 31 = .ok (.getfield 7, 3) := by decide +kernel
theorem d_V_lastOfHalf_34 : decode b_V_lastOfHalf 34 = .ok (.ldc2_w 45, 3) := by decide +kernel
theorem d_V_lastOfHalf_37 : decode b_V_lastOfHalf 37 = .ok (.land, 1) := by decide +kernel
theorem d_V_lastOfHalf_38 : decode b_V_lastOfHalf 38 = .ok (.lload_n 1, 1) := by decide +kernel
theorem d_V_lastOfHalf_39 : decode b_V_lastOfHalf 39 = .ok (.lor, 1) := by decide +kernel
theorem d_V_lastOfHalf_40 : decode b_V_lastOfHalf 40 = .ok (.ldc2_w 32, 3) := by decide +kernel
theorem d_V_lastOfHalf_43 : decode b_V_lastOfHalf 43 = .ok (.lxor, 1) := by decide +kernel
theorem d_V_lastOfHalf_44 : decode b_V_lastOfHalf 44 = .ok (.lload 5, 2) := by decide +kernel
theorem d_V_lastOfHalf_46 : decode b_V_lastOfHalf 46 = .ok (.ldc2_w 32, 3) := by decide +kernel
theorem d_V_lastOfHalf_49 : decode b_V_lastOfHalf 49 = .ok (.lxor, 1) := by decide +kernel
theorem d_V_lastOfHalf_50 : decode b_V_lastOfHalf 50 = .ok (.land, 1) := by decide +kernel
theorem d_V_lastOfHalf_51 : decode b_V_lastOfHalf 51 = .ok (.lstore 7, 2) := by decide +kernel
theorem d_V_lastOfHalf_53 : decode b_V_lastOfHalf 53 = .ok (.lload_n 3, 1) := by decide +kernel
theorem d_V_lastOfHalf_54 : decode b_V_lastOfHalf 54 = .ok (.ldc2_w 32, 3) := by decide +kernel
theorem d_V_lastOfHalf_57 : decode b_V_lastOfHalf 57 = .ok (.lxor, 1) := by decide +kernel
theorem d_V_lastOfHalf_58 : decode b_V_lastOfHalf 58 = .ok (.lload 7, 2) := by decide +kernel
theorem d_V_lastOfHalf_60 : decode b_V_lastOfHalf 60 = .ok (.lload 5, 2) := by decide +kernel
theorem d_V_lastOfHalf_62 : decode b_V_lastOfHalf 62 = .ok (.invokestatic 85, 3) := by decide +kernel
theorem d_V_lastOfHalf_65 : decode b_V_lastOfHalf 65 = .ok (.ldc2_w 32, 3) := by decide +kernel
theorem d_V_lastOfHalf_68 : decode b_V_lastOfHalf 68 = .ok (.lxor, 1) := by decide +kernel
theorem d_V_lastOfHalf_69 : decode b_V_lastOfHalf 69 = .ok (.lreturn, 1) := by decide +kernel
def f_V_lastOfHalf_51v (z0 : VV) (p1 : Int64) (v51 : Int64) (v28 : Int64) (v19 : Int64) : Int64 := ((f_N_firstFrom (v19 ^^^ (-1 : Int64)) v51 v28) ^^^ (-1 : Int64))
def f_V_lastOfHalf_28v (z0 : VV) (p1 : Int64) (v28 : Int64) (v19 : Int64) : Int64 := f_V_lastOfHalf_51v z0 p1 ((((z0.1 &&& (9223372036854775807 : Int64)) ||| p1) ^^^ (-1 : Int64)) &&& (v28 ^^^ (-1 : Int64))) v28 v19
def f_V_lastOfHalf_19v (z0 : VV) (p1 : Int64) (v19 : Int64) : Int64 := f_V_lastOfHalf_28v z0 p1 (z0.2.1 &&& (9223372036854775807 : Int64)) v19
def f_V_lastOfHalf (z0 : VV) (p1 : Int64) : Int64 := f_V_lastOfHalf_19v z0 p1 (f_N_less z0.2.2.2.1 (jmmin z0.2.2.2.2.2.1 (p1 ||| (9223372036854775807 : Int64))))
set_option maxRecDepth 100000 in
set_option maxHeartbeats 4000000 in
theorem c_V_lastOfHalf (l : Launch) (dC : Nat → ClassId) (dI : Nat → Nat → Nat) (h0 : Nat) (z0 : VV) (p1 : Int64) : Met l y_V_lastOfHalf w_V_lastOfHalf ({ frames := 2, cells := 0, slots := 0, locals := 58 } : Room) (va_Pc [.ref h0, .long (p1)] (rP (dC, dI) [(h0, vE z0)])) (vp_Sl (fun r => r = f_V_lastOfHalf z0 p1)) 0 0 (fun _ => False) := by
  refine Met.ofW (cc := b_V_lastOfHalf) (maxL := 9) (ret := (some .long)) (by decide) rfl ?_
  intro p e s m args below meth c s₁ B hml hv
  obtain ⟨rfl, hP, hK⟩ := hv
  have hx := B.exec
  have hb := B.bytes
  have hr := B.returns
  have hts := atoms_spec (ws := w_V_lastOfHalf) B.pre
  have hG : ∀ w ∈ gG, w.before _ s = true := fun w h => hts w (List.mem_cons_of_mem _ h)
  have hown : s.vm.findClass R_V = some m.cls := findClass_of_methodNamed B.named
  have hlocks := B.notSynchronized
  have hP : va_P (dC, dI) classes [(h0, .inr (0, [.long (z0.1), .long (z0.2.1), .long (z0.2.2.1), .long (z0.2.2.2.1), .long (z0.2.2.2.2.1), .long (z0.2.2.2.2.2.1), .int (bI z0.2.2.2.2.2.2)]))] s.heap := hP
  have hl := lv_entry ([.ref h0, .long (p1)]) (n := 9) (Nat.le_of_ble_eq_true rfl)
  rw [lg_entry_eq]
  generalize (lg_sl ([.ref h0, .long (p1)]) ++ List.replicate (9 - (lg_sl ([.ref h0, .long (p1)])).length) Slot.unset).toArray = ls at hl ⊢
  have hl : lv_has ls 9 [(0, .ref h0), (1, .long (p1))] := hl
  have K51v : ∀ (v51 : Int64) (v28 : Int64) (v19 : Int64) (hj : f_V_lastOfHalf z0 p1 = f_V_lastOfHalf_51v z0 p1 v51 v28 v19) (ls : Array Slot) (hl : lv_has ls 9 [(7, .long (v51)), (5, .long (v28)), (3, .long (v19))]), W p l e (headSpec w_V_lastOfHalf ({ frames := 2, cells := 0, slots := 0, locals := 58 } : Room)).room s m ([.ref h0, .long (p1)] : List Value).toArray below meth c s.heap [] 0 0 (MQ below (vp_Sl (fun r => r = f_V_lastOfHalf z0 p1)) ([.ref h0, .long (p1)] : List Value).toArray s 0 0 (fun _ => False)) (F0 m 53 ls []) := by
    intro v51 v28 v19 hj ls hl
    refine lv_lload_n hx hb d_V_lastOfHalf_53 rfl (lv_at hl 2 rfl) ?_
    refine lv_ldc2 (v := -1) hx hb hown (hG (.constantLong R_V 32 (-1)) gw78) d_V_lastOfHalf_54 ?_
    refine lv_lxor hx hb d_V_lastOfHalf_57 ?_
    refine lv_lload hx hb d_V_lastOfHalf_58 (lv_at hl 0 rfl) ?_
    refine lv_lload hx hb d_V_lastOfHalf_60 (lv_at hl 1 rfl) ?_
    refine rc_l (W.runS (As := [.long (v19 ^^^ (-1 : Int64)), .long (v51), .long (v28)]) (rest := []) ⟨hx, hb, hml, hown, hts⟩ (c_N_firstFrom l (v19 ^^^ (-1 : Int64)) v51 v28) (va_cwS 3 hts (gS gw126 gw127 gw2 gw128) rfl rfl rfl (by decide +kernel) ⟨(Nat.le_of_ble_eq_true rfl), (Nat.le_of_ble_eq_true rfl)⟩) ⟨bl0, fun U hU hW => ⟨rfl, trivial⟩⟩ rfl rfl hl.1 rfl (lv_room (Nat.le_of_ble_eq_true rfl)) d_V_lastOfHalf_62 ⟨Nat.zero_le _, Nat.zero_le _⟩) ?_
    refine lv_ldc2 (v := -1) hx hb hown (hG (.constantLong R_V 32 (-1)) gw78) d_V_lastOfHalf_65 ?_
    refine lv_lxor hx hb d_V_lastOfHalf_68 ?_
    have fe : f_V_lastOfHalf z0 p1 = (f_N_firstFrom (v19 ^^^ (-1 : Int64)) v51 v28) ^^^ (-1 : Int64) := hj.trans rfl
    exact W.lret (v := (f_N_firstFrom (v19 ^^^ (-1 : Int64)) v51 v28) ^^^ (-1 : Int64)) hx hb hr (fun t ht hW => ⟨_, rfl, fe.symm, ht⟩) t_nil d_V_lastOfHalf_69
  have K28v : ∀ (v28 : Int64) (v19 : Int64) (hj : f_V_lastOfHalf z0 p1 = f_V_lastOfHalf_28v z0 p1 v28 v19) (ls : Array Slot) (hl : lv_has ls 9 [(5, .long (v28)), (3, .long (v19)), (0, .ref h0), (1, .long (p1))]), W p l e (headSpec w_V_lastOfHalf ({ frames := 2, cells := 0, slots := 0, locals := 58 } : Room)).room s m ([.ref h0, .long (p1)] : List Value).toArray below meth c s.heap [] 0 0 (MQ below (vp_Sl (fun r => r = f_V_lastOfHalf z0 p1)) ([.ref h0, .long (p1)] : List Value).toArray s 0 0 (fun _ => False)) (F0 m 30 ls []) := by
    intro v28 v19 hj ls hl
    refine lv_aload_n hx hb d_V_lastOfHalf_30 rfl (lv_at hl 2 rfl) ?_
    refine va_get (D := (dC, dI)) (ci := 0) (v := .long (z0.1)) (C := R_V) (T := F_V) (N := 7) hx hb hts (fun w h => List.mem_cons_of_mem _ (uw_V w h)) hown hK hP 0 rfl rfl 0 (by decide) (hG (.fieldLink R_V 7 "ValueSieve$Value" "bits" "J") gw18) (fun _ h9 => h9) rfl d_V_lastOfHalf_31 ?_
    refine lv_ldc2 (v := 9223372036854775807) hx hb hown (hG (.constantLong R_V 45 (9223372036854775807)) gw88) d_V_lastOfHalf_34 ?_
    refine lv_land hx hb d_V_lastOfHalf_37 ?_
    refine lv_lload_n hx hb d_V_lastOfHalf_38 rfl (lv_at hl 3 rfl) ?_
    refine lv_lor hx hb d_V_lastOfHalf_39 ?_
    refine lv_ldc2 (v := -1) hx hb hown (hG (.constantLong R_V 32 (-1)) gw78) d_V_lastOfHalf_40 ?_
    refine lv_lxor hx hb d_V_lastOfHalf_43 ?_
    refine lv_lload hx hb d_V_lastOfHalf_44 (lv_at hl 0 rfl) ?_
    refine lv_ldc2 (v := -1) hx hb hown (hG (.constantLong R_V 32 (-1)) gw78) d_V_lastOfHalf_46 ?_
    refine lv_lxor hx hb d_V_lastOfHalf_49 ?_
    refine lv_land hx hb d_V_lastOfHalf_50 ?_
    refine lv_topl (fun v51 ev51 => ?_)
    refine lv_lstore (lv' := [(7, .long (v51)), (5, .long (v28)), (3, .long (v19)), (0, .ref h0), (1, .long (p1))]) hx hb d_V_lastOfHalf_51 hl (by decide) rfl (fun ls hl => ?_)
    exact K51v v51 v28 v19 (Eq.trans (hj.trans rfl) (congrArg (fun v51 => f_V_lastOfHalf_51v z0 p1 v51 v28 v19) ev51.symm)) ls (lv_sub hl [0, 1, 2] rfl)
  have K19v : ∀ (v19 : Int64) (hj : f_V_lastOfHalf z0 p1 = f_V_lastOfHalf_19v z0 p1 v19) (ls : Array Slot) (hl : lv_has ls 9 [(3, .long (v19)), (0, .ref h0), (1, .long (p1))]), W p l e (headSpec w_V_lastOfHalf ({ frames := 2, cells := 0, slots := 0, locals := 58 } : Room)).room s m ([.ref h0, .long (p1)] : List Value).toArray below meth c s.heap [] 0 0 (MQ below (vp_Sl (fun r => r = f_V_lastOfHalf z0 p1)) ([.ref h0, .long (p1)] : List Value).toArray s 0 0 (fun _ => False)) (F0 m 20 ls []) := by
    intro v19 hj ls hl
    refine lv_aload_n hx hb d_V_lastOfHalf_20 rfl (lv_at hl 1 rfl) ?_
    refine va_get (D := (dC, dI)) (ci := 0) (v := .long (z0.2.1)) (C := R_V) (T := F_V) (N := 7) hx hb hts (fun w h => List.mem_cons_of_mem _ (uw_V w h)) hown hK hP 0 rfl rfl 1 (by decide) (hG (.fieldLink R_V 13 "ValueSieve$Value" "unknown" "J") gw21) (fun _ h9 => h9) rfl d_V_lastOfHalf_21 ?_
    refine lv_ldc2 (v := 9223372036854775807) hx hb hown (hG (.constantLong R_V 45 (9223372036854775807)) gw88) d_V_lastOfHalf_24 ?_
    refine lv_land hx hb d_V_lastOfHalf_27 ?_
    refine lv_topl (fun v28 ev28 => ?_)
    refine lv_lstore (lv' := [(5, .long (v28)), (3, .long (v19)), (0, .ref h0), (1, .long (p1))]) hx hb d_V_lastOfHalf_28 hl (by decide) rfl (fun ls hl => ?_)
    exact K28v v28 v19 (Eq.trans (hj.trans rfl) (congrArg (fun v28 => f_V_lastOfHalf_28v z0 p1 v28 v19) ev28.symm)) ls (lv_sub hl [0, 1, 2, 3] rfl)
  refine lv_aload_n hx hb d_V_lastOfHalf_0 rfl (lv_at hl 0 rfl) ?_
  refine va_get (D := (dC, dI)) (ci := 0) (v := .long (z0.2.2.2.1)) (C := R_V) (T := F_V) (N := 7) hx hb hts (fun w h => List.mem_cons_of_mem _ (uw_V w h)) hown hK hP 0 rfl rfl 3 (by decide) (hG (.fieldLink R_V 19 "ValueSieve$Value" "high" "J") gw29) (fun _ h9 => h9) rfl d_V_lastOfHalf_1 ?_
  refine lv_aload_n hx hb d_V_lastOfHalf_4 rfl (lv_at hl 0 rfl) ?_
  refine va_get (D := (dC, dI)) (ci := 0) (v := .long (z0.2.2.2.2.2.1)) (C := R_V) (T := F_V) (N := 7) hx hb hts (fun w h => List.mem_cons_of_mem _ (uw_V w h)) hown hK hP 0 rfl rfl 5 (by decide) (hG (.fieldLink R_V 25 "ValueSieve$Value" "greatest" "J") gw37) (fun _ h9 => h9) rfl d_V_lastOfHalf_5 ?_
  refine lv_lload_n hx hb d_V_lastOfHalf_8 rfl (lv_at hl 1 rfl) ?_
  refine lv_ldc2 (v := 9223372036854775807) hx hb hown (hG (.constantLong R_V 45 (9223372036854775807)) gw88) d_V_lastOfHalf_9 ?_
  refine lv_lor hx hb d_V_lastOfHalf_12 ?_
  refine va_mmin_long hx hb (hml.trans hl.1.symm) hown (hG (.methodLink R_V 89 Lib.MathLoose.min_long.x) gw136) (hG (.static Lib.MathLoose.min_long.x) gw137) (hG (.initialized "java/lang/Math") gw3) (hG (.code Lib.MathLoose.min_long.x Lib.MathLoose.min_long.code 4 (some .long)) gw138) (Nat.le_of_ble_eq_true rfl) (Nat.le_of_ble_eq_true rfl) (Nat.zero_le _) (Nat.zero_le _) d_V_lastOfHalf_13 ?_
  refine rc_l (W.runS (As := [.long (z0.2.2.2.1), .long (jmmin z0.2.2.2.2.2.1 (p1 ||| (9223372036854775807 : Int64)))]) (rest := []) ⟨hx, hb, hml, hown, hts⟩ (c_N_less l z0.2.2.2.1 (jmmin z0.2.2.2.2.2.1 (p1 ||| (9223372036854775807 : Int64)))) (va_cwS 2 hts (gS gw139 gw140 gw2 gw141) rfl rfl rfl (by decide +kernel) ⟨(Nat.le_of_ble_eq_true rfl), (Nat.le_of_ble_eq_true rfl)⟩) ⟨bl0, fun U hU hW => ⟨rfl, trivial⟩⟩ rfl rfl hl.1 rfl (lv_room (Nat.le_of_ble_eq_true rfl)) d_V_lastOfHalf_16 ⟨Nat.zero_le _, Nat.zero_le _⟩) ?_
  refine lv_topl (fun v19 ev19 => ?_)
  refine lv_lstore_n (lv' := [(3, .long (v19)), (0, .ref h0), (1, .long (p1))]) hx hb d_V_lastOfHalf_19 rfl hl (by decide) rfl (fun ls hl => ?_)
  exact K19v v19 (Eq.trans (rfl) (congrArg (fun v19 => f_V_lastOfHalf_19v z0 p1 v19) ev19.symm)) ls (lv_sub hl [0, 1, 2] rfl)
-- ValueSieve$Value.sayStretch
theorem d_V_sayStretch_0 : decode b_V_sayStretch 0 = .ok (.aload_n 0, 1) := by decide +kernel
theorem d_V_sayStretch_1 : decode b_V_sayStretch 1 = .ok (.lload_n 1, 1) := by decide +kernel
theorem d_V_sayStretch_2 : decode b_V_sayStretch 2 = .ok (.lload_n 3, 1) := by decide +kernel
theorem d_V_sayStretch_3 : decode b_V_sayStretch 3 = .ok (.invokevirtual 38, 3) := by decide +kernel
theorem d_V_sayStretch_6 : decode b_V_sayStretch 6 = .ok (.aload_n 0, 1) := by decide +kernel
theorem d_V_sayStretch_7 : decode b_V_sayStretch 7 = .ok (.lload_n 1, 1) := by decide +kernel
theorem d_V_sayStretch_8 : decode b_V_sayStretch 8 = .ok (.lload_n 3, 1) := by decide +kernel
theorem d_V_sayStretch_9 : decode b_V_sayStretch 9 = .ok (.invokevirtual 47, 3) := by decide +kernel
theorem d_V_sayStretch_12 : decode b_V_sayStretch 12 = .ok (.aload_n 0, 1) := by decide +kernel
theorem d_V_sayStretch_13 : decode b_V_sayStretch 13 = .ok (.lload_n 1, 1) := by decide +kernel
theorem d_V_sayStretch_14 : decode b_V_sayStretch 14 = .ok (.aload_n 0, 1) := by decide +kernel
theorem d_V_sayStretch_15 : decode b_V_sayStretch 15 = .ok (.lload_n 1, 1) := by decide +kernel
theorem d_V_sayStretch_16 : decode b_V_sayStretch 16 = .ok (.lload_n 3, 1) := by decide +kernel
theorem d_V_sayStretch_17 : decode b_V_sayStretch 17 = .ok (.invokevirtual 67, 3) := by decide +kernel
theorem d_V_sayStretch_20 : decode b_V_sayStretch 20 = .ok (.invokevirtual 34, 3) := by decide +kernel
theorem d_V_sayStretch_23 : decode b_V_sayStretch 23 = .ok (.return_, 1) := by decide +kernel
def f_V_sayStretch_20g (z0 : VV) (p1 : Int64) (p2 : Int64) (g20 : VV) : VV := g20
def f_V_sayStretch_9g (z0 : VV) (p1 : Int64) (p2 : Int64) (g9 : VV) : VV := f_V_sayStretch_20g z0 p1 p2 (f_V_sayBits g9 p1 (f_V_openBetween g9 p1 p2))
def f_V_sayStretch_3g (z0 : VV) (p1 : Int64) (p2 : Int64) (g3 : VV) : VV := f_V_sayStretch_9g z0 p1 p2 (f_V_saySigned g3 p1 p2)
def f_V_sayStretch (z0 : VV) (p1 : Int64) (p2 : Int64) : VV := f_V_sayStretch_3g z0 p1 p2 (f_V_sayUnsigned z0 p1 p2)
set_option maxRecDepth 100000 in
set_option maxHeartbeats 4000000 in
theorem c_V_sayStretch (l : Launch) (dC : Nat → ClassId) (dI : Nat → Nat → Nat) (h0 : Nat) (sz : Nat) (z0 : VV) (p1 : Int64) (p2 : Int64) : Met l y_V_sayStretch w_V_sayStretch ({ frames := 2, cells := 0, slots := 0, locals := 47 } : Room) (va_Pc [.ref h0, .long (p1), .long (p2)] (mP (dC, dI) [(h0, vE z0)] sz)) (va_Qv (fun _ : Unit => True) (mB (dC, dI) (va_A [(h0, vE z0)] sz) [(h0, vE (f_V_sayStretch z0 p1 p2))]) (va_A [(h0, vE z0)] sz)) 0 0 (va_A [(h0, vE z0)] sz) := by
  refine Met.ofW (cc := b_V_sayStretch) (maxL := 5) (ret := none) (by decide) rfl ?_
  intro p e s m args below meth c s₁ B hml hv
  obtain ⟨rfl, hsz, hP, hK, hD0⟩ := hv
  have hx := B.exec
  have hb := B.bytes
  have hr := B.returns
  have hts := atoms_spec (ws := w_V_sayStretch) B.pre
  have hG : ∀ w ∈ gG, w.before _ s = true := fun w h => hts w (List.mem_cons_of_mem _ h)
  have hown : s.vm.findClass R_V = some m.cls := findClass_of_methodNamed B.named
  have hlocks := B.notSynchronized
  subst hsz
  have hD := hD0.self (sz := s.heap.size)
  generalize hAe : va_A [(h0, vE z0)] s.heap.size = A at hD ⊢
  have hA : ∀ q : Nat, s.heap.size ≤ q → A q := fun q h => by rw [← hAe]; exact Or.inr h
  have hS : va_S A s.heap s.heap [] := va_S.rf
  have hP : va_P (dC, dI) classes [(h0, .inr (0, [.long (z0.1), .long (z0.2.1), .long (z0.2.2.1), .long (z0.2.2.2.1), .long (z0.2.2.2.2.1), .long (z0.2.2.2.2.2.1), .int (bI z0.2.2.2.2.2.2)]))] s.heap := hP
  have hD : va_D A [(h0, .inr (0, [.long (z0.1), .long (z0.2.1), .long (z0.2.2.1), .long (z0.2.2.2.1), .long (z0.2.2.2.2.1), .long (z0.2.2.2.2.2.1), .int (bI z0.2.2.2.2.2.2)]))] := hD
  have hl := lv_entry ([.ref h0, .long (p1), .long (p2)]) (n := 5) (Nat.le_of_ble_eq_true rfl)
  rw [lg_entry_eq]
  generalize (lg_sl ([.ref h0, .long (p1), .long (p2)]) ++ List.replicate (5 - (lg_sl ([.ref h0, .long (p1), .long (p2)])).length) Slot.unset).toArray = ls at hl ⊢
  have hl : lv_has ls 5 [(0, .ref h0), (1, .long (p1)), (3, .long (p2))] := hl
  have K20g : ∀ (g20 : VV) (hj : f_V_sayStretch z0 p1 p2 = f_V_sayStretch_20g z0 p1 p2 g20) (H : Heap) (locs : List Loc) (hP : va_P (dC, dI) classes [(h0, .inr (0, [.long (g20.1), .long (g20.2.1), .long (g20.2.2.1), .long (g20.2.2.2.1), .long (g20.2.2.2.2.1), .long (g20.2.2.2.2.2.1), .int (bI g20.2.2.2.2.2.2)]))] H) (hD : va_D A [(h0, .inr (0, [.long (g20.1), .long (g20.2.1), .long (g20.2.2.1), .long (g20.2.2.2.1), .long (g20.2.2.2.2.1), .long (g20.2.2.2.2.2.1), .int (bI g20.2.2.2.2.2.2)]))]) (hS : va_S A s.heap H locs) (ls : Array Slot) (hl : lv_has ls 5 []), W p l e (headSpec w_V_sayStretch ({ frames := 2, cells := 0, slots := 0, locals := 47 } : Room)).room s m ([.ref h0, .long (p1), .long (p2)] : List Value).toArray below meth c H locs 0 0 (MQ below (va_Qv (fun _ : Unit => True) (mB (dC, dI) A [(h0, vE (f_V_sayStretch z0 p1 p2))]) A) ([.ref h0, .long (p1), .long (p2)] : List Value).toArray s 0 0 A) (F0 m 23 ls []) := by
    intro g20 hj H locs hP hD hS ls hl
    have fe : f_V_sayStretch z0 p1 p2 = g20 := hj.trans rfl
    exact W.vret hx hb hr (fun t ht hW => ⟨⟨(), rfl, trivial, by rw [ht, fe]; (try simp only [vE_mk]); exact hP, by rw [fe]; (try simp only [vE_mk]); exact hD⟩, hS.F ht⟩) hS.2.2 d_V_sayStretch_23
  have K9g : ∀ (g9 : VV) (hj : f_V_sayStretch z0 p1 p2 = f_V_sayStretch_9g z0 p1 p2 g9) (H : Heap) (locs : List Loc) (hP : va_P (dC, dI) classes [(h0, .inr (0, [.long (g9.1), .long (g9.2.1), .long (g9.2.2.1), .long (g9.2.2.2.1), .long (g9.2.2.2.2.1), .long (g9.2.2.2.2.2.1), .int (bI g9.2.2.2.2.2.2)]))] H) (hD : va_D A [(h0, .inr (0, [.long (g9.1), .long (g9.2.1), .long (g9.2.2.1), .long (g9.2.2.2.1), .long (g9.2.2.2.2.1), .long (g9.2.2.2.2.2.1), .int (bI g9.2.2.2.2.2.2)]))]) (hS : va_S A s.heap H locs) (ls : Array Slot) (hl : lv_has ls 5 [(0, .ref h0), (1, .long (p1)), (3, .long (p2))]), W p l e (headSpec w_V_sayStretch ({ frames := 2, cells := 0, slots := 0, locals := 47 } : Room)).room s m ([.ref h0, .long (p1), .long (p2)] : List Value).toArray below meth c H locs 0 0 (MQ below (va_Qv (fun _ : Unit => True) (mB (dC, dI) A [(h0, vE (f_V_sayStretch z0 p1 p2))]) A) ([.ref h0, .long (p1), .long (p2)] : List Value).toArray s 0 0 A) (F0 m 12 ls []) := by
    intro g9 hj H locs hP hD hS ls hl
    refine lv_aload_n hx hb d_V_sayStretch_12 rfl (lv_at hl 0 rfl) ?_
    refine lv_lload_n hx hb d_V_sayStretch_13 rfl (lv_at hl 1 rfl) ?_
    refine lv_aload_n hx hb d_V_sayStretch_14 rfl (lv_at hl 0 rfl) ?_
    refine lv_lload_n hx hb d_V_sayStretch_15 rfl (lv_at hl 1 rfl) ?_
    refine lv_lload_n hx hb d_V_sayStretch_16 rfl (lv_at hl 2 rfl) ?_
    refine rc_l (W.runV (As := [.long (p1), .long (p2)]) (rest := [.long (p1), .ref h0]) ⟨hx, hb, hml, hown, hts⟩ (c_V_openBetween l dC dI h0 g9 p1 p2) (cwV 2 hts (gV gw143 gw144 gw379 gw1 gw145) rfl rfl rfl (by decide +kernel) ⟨(Nat.le_of_ble_eq_true rfl), (Nat.le_of_ble_eq_true rfl)⟩) ⟨blr, va_recv hK hP (ci := 0) (q0 := 0) rfl rfl, fun U hU hW => ⟨rfl, by rw [hU]; exact hP.sub [0] rfl, va_K.moved hW.alike hK⟩⟩ rfl rfl hl.1 rfl (lv_room (Nat.le_of_ble_eq_true rfl)) d_V_sayStretch_17 ⟨Nat.zero_le _, Nat.zero_le _⟩) ?_
    refine mg_v (F := f_V_sayBits g9 p1 (f_V_openBetween g9 p1 p2)) (wc := [(h0, vE g9)]) (w1 := fun g20 => [(h0, vE g20)]) (wr := []) (ws' := fun g20 => [(h0, .inr (0, [.long (g20.1), .long (g20.2.1), .long (g20.2.2.1), .long (g20.2.2.2.1), .long (g20.2.2.2.2.1), .long (g20.2.2.2.2.2.1), .int (bI g20.2.2.2.2.2.2)]))]) (va_runV (As := [.long (p1), .long (f_V_openBetween g9 p1 p2)]) (rest := []) ⟨hx, hb, hml, hown, hts⟩ (c_V_sayBits l dC dI h0 H.size g9 p1 (f_V_openBetween g9 p1 p2)) (cwV 2 hts (gV gw79 gw80 gw81 gw1 gw82) rfl rfl rfl (by decide +kernel) ⟨(Nat.le_of_ble_eq_true rfl), (Nat.le_of_ble_eq_true rfl)⟩) ⟨blm, va_recv hK hP (ci := 0) (q0 := 0) rfl rfl, fun U hU hW => ⟨rfl, by rw [hU], by rw [hU]; exact hP.sub [0] rfl, va_K.moved hW.alike hK, (hD.sub [0] (by decide) rfl).weaken (fun _ _ _ _ => trivial)⟩⟩ rfl rfl hl.1 rfl (lv_room (Nat.le_of_ble_eq_true rfl)) d_V_sayStretch_20 ⟨Nat.zero_le _, Nat.zero_le _⟩) hP hD hS hA [0] [] [0] rfl rfl (by decide) (by decide) (fun _ => rfl) (by decide) (fun g20 eg20 H locs hP hD hS => ?_)
    refine K20g g20 (Eq.trans (hj.trans rfl) (congrArg (fun g20 => f_V_sayStretch_20g z0 p1 p2 g20) eg20)) H locs ?_ ?_ hS ls (lv_sub hl [] rfl)
    · with_reducible exact hP
    · with_reducible exact hD
  have K3g : ∀ (g3 : VV) (hj : f_V_sayStretch z0 p1 p2 = f_V_sayStretch_3g z0 p1 p2 g3) (H : Heap) (locs : List Loc) (hP : va_P (dC, dI) classes [(h0, .inr (0, [.long (g3.1), .long (g3.2.1), .long (g3.2.2.1), .long (g3.2.2.2.1), .long (g3.2.2.2.2.1), .long (g3.2.2.2.2.2.1), .int (bI g3.2.2.2.2.2.2)]))] H) (hD : va_D A [(h0, .inr (0, [.long (g3.1), .long (g3.2.1), .long (g3.2.2.1), .long (g3.2.2.2.1), .long (g3.2.2.2.2.1), .long (g3.2.2.2.2.2.1), .int (bI g3.2.2.2.2.2.2)]))]) (hS : va_S A s.heap H locs) (ls : Array Slot) (hl : lv_has ls 5 [(0, .ref h0), (1, .long (p1)), (3, .long (p2))]), W p l e (headSpec w_V_sayStretch ({ frames := 2, cells := 0, slots := 0, locals := 47 } : Room)).room s m ([.ref h0, .long (p1), .long (p2)] : List Value).toArray below meth c H locs 0 0 (MQ below (va_Qv (fun _ : Unit => True) (mB (dC, dI) A [(h0, vE (f_V_sayStretch z0 p1 p2))]) A) ([.ref h0, .long (p1), .long (p2)] : List Value).toArray s 0 0 A) (F0 m 6 ls []) := by
    intro g3 hj H locs hP hD hS ls hl
    refine lv_aload_n hx hb d_V_sayStretch_6 rfl (lv_at hl 0 rfl) ?_
    refine lv_lload_n hx hb d_V_sayStretch_7 rfl (lv_at hl 1 rfl) ?_
    refine lv_lload_n hx hb d_V_sayStretch_8 rfl (lv_at hl 2 rfl) ?_
    refine mg_v (F := f_V_saySigned g3 p1 p2) (wc := [(h0, vE g3)]) (w1 := fun g9 => [(h0, vE g9)]) (wr := []) (ws' := fun g9 => [(h0, .inr (0, [.long (g9.1), .long (g9.2.1), .long (g9.2.2.1), .long (g9.2.2.2.1), .long (g9.2.2.2.2.1), .long (g9.2.2.2.2.2.1), .int (bI g9.2.2.2.2.2.2)]))]) (va_runV (As := [.long (p1), .long (p2)]) (rest := []) ⟨hx, hb, hml, hown, hts⟩ (c_V_saySigned l dC dI h0 H.size g3 p1 p2) (cwV 2 hts (gV gw89 gw90 gw91 gw1 gw92) rfl rfl rfl (by decide +kernel) ⟨(Nat.le_of_ble_eq_true rfl), (Nat.le_of_ble_eq_true rfl)⟩) ⟨blm, va_recv hK hP (ci := 0) (q0 := 0) rfl rfl, fun U hU hW => ⟨rfl, by rw [hU], by rw [hU]; exact hP.sub [0] rfl, va_K.moved hW.alike hK, (hD.sub [0] (by decide) rfl).weaken (fun _ _ _ _ => trivial)⟩⟩ rfl rfl hl.1 rfl (lv_room (Nat.le_of_ble_eq_true rfl)) d_V_sayStretch_9 ⟨Nat.zero_le _, Nat.zero_le _⟩) hP hD hS hA [0] [] [0] rfl rfl (by decide) (by decide) (fun _ => rfl) (by decide) (fun g9 eg9 H locs hP hD hS => ?_)
    refine K9g g9 (Eq.trans (hj.trans rfl) (congrArg (fun g9 => f_V_sayStretch_9g z0 p1 p2 g9) eg9)) H locs ?_ ?_ hS ls (lv_sub hl [0, 1, 2] rfl)
    · with_reducible exact hP
    · with_reducible exact hD
  refine lv_aload_n hx hb d_V_sayStretch_0 rfl (lv_at hl 0 rfl) ?_
  refine lv_lload_n hx hb d_V_sayStretch_1 rfl (lv_at hl 1 rfl) ?_
  refine lv_lload_n hx hb d_V_sayStretch_2 rfl (lv_at hl 2 rfl) ?_
  refine mg_v (F := f_V_sayUnsigned z0 p1 p2) (wc := [(h0, vE z0)]) (w1 := fun g3 => [(h0, vE g3)]) (wr := []) (ws' := fun g3 => [(h0, .inr (0, [.long (g3.1), .long (g3.2.1), .long (g3.2.2.1), .long (g3.2.2.2.1), .long (g3.2.2.2.2.1), .long (g3.2.2.2.2.2.1), .int (bI g3.2.2.2.2.2.2)]))]) (va_runV (As := [.long (p1), .long (p2)]) (rest := []) ⟨hx, hb, hml, hown, hts⟩ (c_V_sayUnsigned l dC dI h0 s.heap.size z0 p1 p2) (cwV 2 hts (gV gw83 gw84 gw85 gw1 gw86) rfl rfl rfl (by decide +kernel) ⟨(Nat.le_of_ble_eq_true rfl), (Nat.le_of_ble_eq_true rfl)⟩) ⟨blm, va_recv hK hP (ci := 0) (q0 := 0) rfl rfl, fun U hU hW => ⟨rfl, by rw [hU], by rw [hU]; exact hP.sub [0] rfl, va_K.moved hW.alike hK, (hD.sub [0] (by decide) rfl).weaken (fun _ _ _ _ => trivial)⟩⟩ rfl rfl hl.1 rfl (lv_room (Nat.le_of_ble_eq_true rfl)) d_V_sayStretch_3 ⟨Nat.zero_le _, Nat.zero_le _⟩) hP hD hS hA [0] [] [0] rfl rfl (by decide) (by decide) (fun _ => rfl) (by decide) (fun g3 eg3 H locs hP hD hS => ?_)
  refine K3g g3 (Eq.trans (rfl) (congrArg (fun g3 => f_V_sayStretch_3g z0 p1 p2 g3) eg3)) H locs ?_ ?_ hS ls (lv_sub hl [0, 1, 2] rfl)
  · with_reducible exact hP
  · with_reducible exact hD
