section MNI
variable {p : Program} {l : Launch} {e : Env} {R : Room} {s : State} {m : MethodId} {args : Array Value} {below : List Frame} {meth : Method} {c : Code} {H : Heap} {locs : List Loc} {cells slots : Nat} {Q : State → Prop}
variable {pc : Nat} {ls : Array Slot} {rest st0 : List Value} {a : Array Value} {A0 : Nat → Prop} {H0 : Heap} {D : va_G}
theorem mn_i {S : Type} {F : Int32 × S} {wc : va_W} {w1 : Int32 × S → va_W} (hr : va_Run p l e R s m args below meth c H locs cells slots 0 0 (F0 m pc ls st0) rest (va_Qi (fun r (_ : Unit) => r = F.1 ∧ True) (mB D (va_A wc H.size) (w1 F)) (va_A wc H.size) a) (va_A wc H.size)) (hD : va_D A0 wc) (hS : va_S A0 H0 H locs) (hA : ∀ q, H0.size ≤ q → A0 q)
    (kk : ∀ (g : Int32 × S), F = g → ∀ (H1 : Heap) (locs1 : List Loc), va_P D classes (w1 g) H1 → va_D A0 (w1 g) → va_S A0 H0 H1 locs1 → W p l e R s m args below meth c H1 locs1 cells slots Q (F0 m (pc + 3) ls (.int g.1 :: rest))) : W p l e R s m args below meth c H locs cells slots Q (F0 m pc ls st0) := by
  have hF : ∀ q, va_A wc H.size q → A0 q := fun q h => by
    rcases h with ⟨k, e9, h⟩ | h
    · exact hD.2 k _ h
    · exact hA q (Nat.le_trans hS.1 h)
  refine va_calli hr hS (fun q _ h => hF q h) hF (fun r u t H1 locs1 ht hvm hw hBB hz1 hk1 hS1 => ?_)
  obtain ⟨hP1, hD1⟩ := hBB
  rw [ht] at hP1
  obtain ⟨hw, -⟩ := hw
  subst hw
  exact kk F rfl H1 locs1 hP1 (hD1.weaken (fun k q _ h => hF q.1 h)) hS1
end MNI
theorem zn_V_holds {z : VV} {n : Int64} : narrow .boolean (.int (f_V_holds z n)) = .int (f_V_holds z n) := by
  rcases holds_01 z n with h | h <;> rw [h] <;> rfl
theorem zn_V_covers {z y : VV} : narrow .boolean (.int (f_V_covers z y)) = .int (f_V_covers z y) := by
  unfold f_V_covers f_V_covers_95
  repeat' split
  all_goals rfl
theorem if01 {P : Prop} [Decidable P] {a b : Int32} (ha : a = 1 ∨ a = 0) (hb : b = 1 ∨ b = 0) : (if P then a else b) = 1 ∨ (if P then a else b) = 0 := by
  by_cases h : P
  · rw [if_pos h]; exact ha
  · rw [if_neg h]; exact hb
theorem isSo_01 (c : Int32) (v w : Int64) : f_C_isSo c v w = 1 ∨ f_C_isSo c v w = 0 := by
  unfold f_C_isSo
  have t : ((1 : Int32) = 1 ∨ (1 : Int32) = 0) := Or.inl rfl
  have f : ((0 : Int32) = 1 ∨ (0 : Int32) = 0) := Or.inr rfl
  have nb : ∀ p q, f_N_below p q = 1 ∨ f_N_below p q = 0 := fun p q => by rw [n_below]; exact if01 t f
  exact if01 (if01 t f) (if01 (if01 f t) (if01 (nb _ _) (if01 (if01 t f) (if01 (nb _ _) (if01 (if01 t f) (if01 (if01 t f) (if01 (if01 f t) (if01 (if01 t f) (if01 (if01 f t) (if01 (if01 f t) (if01 t f)))))))))))
theorem zn_C_isSo {c : Int32} {v w : Int64} : narrow .boolean (.int (f_C_isSo c v w)) = .int (f_C_isSo c v w) := by
  rcases isSo_01 c v w with h | h <;> rw [h] <;> rfl
-- ValueSieve.any
theorem d_S_any_0 : decode b_S_any 0 = .ok (.iload_n 1, 1) := by decide +kernel
theorem d_S_any_1 : decode b_S_any 1 = .ok (.invokestatic 34, 3) := by decide +kernel
theorem d_S_any_4 : decode b_S_any 4 = .ok (.aload_n 0, 1) := by decide +kernel
theorem d_S_any_5 : decode b_S_any 5 = .ok (.getfield 27, 3) := by decide +kernel
theorem d_S_any_8 : decode b_S_any 8 = .ok (.invokevirtual 38, 3) := by decide +kernel
theorem d_S_any_11 : decode b_S_any 11 = .ok (.aload_n 0, 1) := by decide +kernel
theorem d_S_any_12 : decode b_S_any 12 = .ok (.iload_n 1, 1) := by decide +kernel
theorem d_S_any_13 : decode b_S_any 13 = .ok (.aload_n 0, 1) := by decide +kernel
theorem d_S_any_14 : decode b_S_any 14 = .ok (.getfield 27, 3) := by decide +kernel
theorem d_S_any_17 : decode b_S_any 17 = .ok (.lload_n 2, 1) := by decide +kernel
theorem d_S_any_18 : decode b_S_any 18 = .ok (.invokevirtual 41, 3) := by decide +kernel
theorem d_S_any_21 : decode b_S_any 21 = .ok (.return_, 1) := by decide +kernel
def f_S_any (v : Nat → VV) (w : Nat → Int64) (t : Int32) (x : VV) (y : VV) (z : VV) (p1 : Int32) (p2 : Int64) : Int32 × (Nat → VV) × (Nat → Int64) × (Int32) × (VV) × (VV) × (VV) := (if f_S_requirePlace p1 = 0 then (0, ((f_S_write_z v w t x y (f_V_sayAll z) p1.toNatClampNeg p2)).1, ((f_S_write_z v w t x y (f_V_sayAll z) p1.toNatClampNeg p2)).2.1, ((f_S_write_z v w t x y (f_V_sayAll z) p1.toNatClampNeg p2)).2.2, x, y, (f_V_sayAll z)) else (f_S_requirePlace p1, v, w, t, x, y, z))
def k_S_any : List Cond := Cond.code y_S_any b_S_any 4 none :: gP
set_option maxRecDepth 100000 in
set_option maxHeartbeats 4000000 in
theorem c_S_any (l : Launch) (hlt : l.stackTraces = false) (dC : Nat → ClassId) (dI : Nat → Nat → Nat) (ad : Nat → Nat) (cQ cJ : ClassId) (sz : Nat) (v : Nat → VV) (w : Nat → Int64) (t : Int32) (x : VV) (y : VV) (z : VV) (p1 : Int32) (p2 : Int64) : vx_Met l y_S_any k_S_any ({ frames := 7, cells := 1, slots := 6, locals := 120 } : Room) (va_Pc [.ref (ad 0), .int (p1), .long (p2)] (sP (dC, dI) (sT cQ cJ) (sW ad cQ cJ v w t x y z) sz)) (va_Qv (fun _ : Unit => (f_S_any v w t x y z p1 p2).1 = 0) (mB (dC, dI) (va_A (sW ad cQ cJ v w t x y z) sz) (sW ad cQ cJ (f_S_any v w t x y z p1 p2).2.1 (f_S_any v w t x y z p1 p2).2.2.1 (f_S_any v w t x y z p1 p2).2.2.2.1 (f_S_any v w t x y z p1 p2).2.2.2.2.1 (f_S_any v w t x y z p1 p2).2.2.2.2.2.1 (f_S_any v w t x y z p1 p2).2.2.2.2.2.2)) (va_A (sW ad cQ cJ v w t x y z) sz)) (vx_X (fun _ : Unit => True) (fun E _ t9 => xE (f_S_any v w t x y z p1 p2).1 E ∧ mB (dC, dI) (va_A (sW ad cQ cJ v w t x y z) sz) (sW ad cQ cJ (f_S_any v w t x y z p1 p2).2.1 (f_S_any v w t x y z p1 p2).2.2.1 (f_S_any v w t x y z p1 p2).2.2.2.1 (f_S_any v w t x y z p1 p2).2.2.2.2.1 (f_S_any v w t x y z p1 p2).2.2.2.2.2.1 (f_S_any v w t x y z p1 p2).2.2.2.2.2.2) () t9) (va_A (sW ad cQ cJ v w t x y z) sz)) 1 6 (va_A (sW ad cQ cJ v w t x y z) sz) := by
  refine vx_ofW (cc := b_S_any) (maxL := 4) (ret := none) (by decide) rfl ?_
  intro p e s m args below meth c s₁ B hml htab hv
  obtain ⟨rfl, hsz, hP, hK, hD0, hX⟩ := hv
  have hx := B.exec
  have hb := B.bytes
  have hr := B.returns
  have hts := atoms_spec (ws := k_S_any) B.pre
  have hG : ∀ w ∈ gP, w.before _ s = true := fun w h => hts w (List.mem_cons_of_mem _ h)
  have hown : s.vm.findClass R_S = some m.cls := findClass_of_methodNamed B.named
  have hlocks := B.notSynchronized
  subst hsz
  have hD := hD0.self (sz := s.heap.size)
  generalize hAe : va_A (sW ad cQ cJ v w t x y z) s.heap.size = A at hD hX ⊢
  have hA : ∀ q : Nat, s.heap.size ≤ q → A q := fun q h => by rw [← hAe]; exact Or.inr h
  have hS : va_S A s.heap s.heap [] := va_S.rf
  have hl := lv_entry ([.ref (ad 0), .int (p1), .long (p2)]) (n := 4) (Nat.le_of_ble_eq_true rfl)
  rw [lg_entry_eq]
  generalize (lg_sl ([.ref (ad 0), .int (p1), .long (p2)]) ++ List.replicate (4 - (lg_sl ([.ref (ad 0), .int (p1), .long (p2)])).length) Slot.unset).toArray = ls at hl ⊢
  have hl : lv_has ls 4 [(0, .ref (ad 0)), (1, .int (p1)), (2, .long (p2))] := hl
  refine lv_iload_n hx hb d_S_any_0 rfl (lv_at hl 1 rfl) ?_
  refine sx_v (F := f_S_requirePlace p1) (vx_runS (As := [.int (p1)]) (rest := []) ⟨hx, hb, hml, hown, hts⟩ (c_S_requirePlace l hlt s.heap.size p1) (va_cwS 1 hts (gSS gw70 gw71 gw0 gw72) rfl rfl rfl (by decide +kernel) ⟨(Nat.le_of_ble_eq_true rfl), (Nat.le_of_ble_eq_true rfl)⟩) ⟨blx, fun U hU hW => ⟨rfl, by rw [hU], xq_at hX hS hA hU hW⟩⟩ rfl rfl hl.1 rfl (lv_room (Nat.le_of_ble_eq_true rfl)) d_S_any_1 ⟨(Nat.le_of_ble_eq_true rfl), (Nat.le_of_ble_eq_true rfl)⟩) hP hS hA (fun E ce q9 H locs hE hP hS hce hcv hcl => ?_) (fun h1 H locs hP hS => ?_)
  · have fe : f_S_any v w t x y z p1 p2 = (f_S_requirePlace p1, v, w, t, x, y, z) := by unfold f_S_any; first | with_reducible exact if_neg hE.ne | exact if_neg hE.ne
    exact vx_out (fun x hx9 => (htab x hx9).elim) hlocks hce hcv hcl (fun t9 ht hal => ⟨(), trivial, ⟨by rw [fe]; exact hE, by rw [ht, fe]; exact hP, by rw [fe]; exact hD⟩, hS.F ht⟩) hS.2.2 (Nat.le_of_ble_eq_true rfl) (Nat.le_of_ble_eq_true rfl)
  · refine lv_aload_n hx hb d_S_any_4 rfl (lv_at hl 0 rfl) ?_
    refine va_get (D := (dC, dI)) (ci := 1) (v := .ref (ad 5)) (C := R_S) (T := F_S) (N := 6) hx hb hts (fun w h => List.mem_cons_of_mem _ (gGP (uw_S w h))) hown hK hP 0 (sW_get (by decide)) rfl 4 (by decide) (hG (.fieldLink R_S 27 "ValueSieve" "made" "LValueSieve$Value;") (gGP gw56)) (fun _ h9 => h9) rfl d_S_any_5 ?_
    refine sc_v (T := VV) (F := f_V_sayAll z) (wc := [((ad 5), vE z)]) (w1 := fun g8 => [((ad 5), vE g8)]) (v' := fun g8 => v) (x' := fun g8 => x) (y' := fun g8 => y) (z' := fun g8 => g8) (va_runV (As := []) (rest := []) ⟨hx, hb, hml, hown, hts⟩ (c_V_sayAll l dC dI (ad 5) H.size z) (cwV 0 hts (gV9 gw74 gw75 gw76 gw1 gw77) rfl rfl rfl (by decide +kernel) ⟨(Nat.le_of_ble_eq_true rfl), (Nat.le_of_ble_eq_true rfl)⟩) ⟨blm, va_recv hK hP (ci := 0) (q0 := 5) rfl (sW_get (by decide)), fun U hU hW => ⟨rfl, by rw [hU], by rw [hU]; exact hP.sub [5] (fl1 (sW_get (by decide))), kE (va_K.moved hW.alike hK), (hD.sub [5] (nd1 _) (mp1 (sW_get (by decide)))).weaken (fun _ _ _ _ => trivial)⟩⟩ rfl rfl hl.1 rfl (lv_room (Nat.le_of_ble_eq_true rfl)) d_S_any_8 ⟨(Nat.le_of_ble_eq_true rfl), (Nat.le_of_ble_eq_true rfl)⟩) hP hD hS hA [5] (mp1 (sW_get (by decide))) (fun g8 => (sN_fix (fun _ => rfl) (fun _ => rfl) (fun h => absurd (by simp) h) (in1 (Pr := fun i => sE ad cQ cJ v w t x y g8 i ∈ [((ad 5), vE g8)]) m0))) (fun g8 eg8 H locs hP hD hS => ?_)
    refine lv_aload_n hx hb d_S_any_11 rfl (lv_at hl 0 rfl) ?_
    refine lv_iload_n hx hb d_S_any_12 rfl (lv_at hl 1 rfl) ?_
    refine lv_aload_n hx hb d_S_any_13 rfl (lv_at hl 0 rfl) ?_
    refine va_get (D := (dC, dI)) (ci := 1) (v := .ref (ad 5)) (C := R_S) (T := F_S) (N := 6) hx hb hts (fun w h => List.mem_cons_of_mem _ (gGP (uw_S w h))) hown hK hP 0 (sW_get (by decide)) rfl 4 (by decide) (hG (.fieldLink R_S 27 "ValueSieve" "made" "LValueSieve$Value;") (gGP gw56)) (fun _ h9 => h9) rfl d_S_any_14 ?_
    refine lv_lload_n hx hb d_S_any_17 rfl (lv_at hl 2 rfl) ?_
    refine mm_v (F := f_S_write_z v w t x y g8 p1.toNatClampNeg p2) (w1 := fun g18 => (sW ad cQ cJ (g18).1 (g18).2.1 (g18).2.2 x y g8)) (va_runV (As := [.int (nI p1.toNatClampNeg), .ref (ad 5), .long (p2)]) (rest := []) ⟨hx, hb, hml, hown, hts⟩ (c_S_write_z l dC dI ad cQ cJ H.size v w t x y g8 p1.toNatClampNeg p2 (ie_nI (rp_ok h1)).2) (cwV 3 hts (gVS gw93 gw94 gw377 gw0 gw95) rfl rfl rfl (by decide +kernel) ⟨(Nat.le_of_ble_eq_true rfl), (Nat.le_of_ble_eq_true rfl)⟩) ⟨blp, va_recv hK hP (ci := 1) (q0 := 0) rfl (sW_get (by decide)), fun U hU hW => ⟨rfl, by rw [hU], by rw [hU]; exact hP, va_K.moved hW.alike hK, hD.weaken (fun _ _ _ _ => trivial)⟩⟩ rfl rfl hl.1 (by simp only [← (ie_nI (rp_ok h1)).1]; rfl) (lv_room (Nat.le_of_ble_eq_true rfl)) d_S_any_18 ⟨(Nat.le_of_ble_eq_true rfl), (Nat.le_of_ble_eq_true rfl)⟩) hD hS hA (fun g18 eg18 H locs hP hD hS => ?_)
    have fe : f_S_any v w t x y z p1 p2 = (0, (g18).1, (g18).2.1, (g18).2.2, x, y, g8) := by unfold f_S_any; rw [eg8, eg18]; first | with_reducible exact if_pos h1 | exact if_pos h1
    refine w_widen (k := 1) (n := 6) (Nat.le_of_ble_eq_true rfl) (Nat.le_of_ble_eq_true rfl) ?_
    refine vx_ret ?_
    exact W.vret hx hb hr (fun t9 ht hW => ⟨⟨(), rfl, (by rw [fe]), by rw [ht, fe]; exact hP, by rw [fe]; exact hD⟩, hS.F ht⟩) hS.2.2 d_S_any_21
-- ValueSieve.constant
theorem d_S_constant_0 : decode b_S_constant 0 = .ok (.iload_n 1, 1) := by decide +kernel
theorem d_S_constant_1 : decode b_S_constant 1 = .ok (.invokestatic 34, 3) := by decide +kernel
theorem d_S_constant_4 : decode b_S_constant 4 = .ok (.aload_n 0, 1) := by decide +kernel
theorem d_S_constant_5 : decode b_S_constant 5 = .ok (.getfield 27, 3) := by decide +kernel
theorem d_S_constant_8 : decode b_S_constant 8 = .ok (.invokevirtual 38, 3) := by decide +kernel
theorem d_S_constant_11 : decode b_S_constant 11 = .ok (.aload_n 0, 1) := by decide +kernel
theorem d_S_constant_12 : decode b_S_constant 12 = .ok (.getfield 27, 3) := by decide +kernel
theorem d_S_constant_15 : decode b_S_constant 15 = .ok (.lload_n 2, 1) := by decide +kernel
theorem d_S_constant_16 : decode b_S_constant 16 = .ok (.lconst 0, 1) := by decide +kernel
theorem d_S_constant_17 : decode b_S_constant 17 = .ok (.invokevirtual 45, 3) := by decide +kernel
theorem d_S_constant_20 : decode b_S_constant 20 = .ok (.aload_n 0, 1) := by decide +kernel
theorem d_S_constant_21 : decode b_S_constant 21 = .ok (.getfield 27, 3) := by decide +kernel
theorem d_S_constant_24 : decode b_S_constant 24 = .ok (.invokevirtual 49, 3) := by decide +kernel
theorem d_S_constant_27 : decode b_S_constant 27 = .ok (.aload_n 0, 1) := by decide +kernel
theorem d_S_constant_28 : decode b_S_constant 28 = .ok (.iload_n 1, 1) := by decide +kernel
theorem d_S_constant_29 : decode b_S_constant 29 = .ok (.aload_n 0, 1) := by decide +kernel
theorem d_S_constant_30 : decode b_S_constant 30 = .ok (.getfield 27, 3) := by decide +kernel
theorem d_S_constant_33 : decode b_S_constant 33 = .ok (.lload_n 2, 1) := by decide +kernel
theorem d_S_constant_34 : decode b_S_constant 34 = .ok (.invokevirtual 41, 3) := by decide +kernel
theorem d_S_constant_37 : decode b_S_constant 37 = .ok (.return_, 1) := by decide +kernel
def f_S_constant (v : Nat → VV) (w : Nat → Int64) (t : Int32) (x : VV) (y : VV) (z : VV) (p1 : Int32) (p2 : Int64) : Int32 × (Nat → VV) × (Nat → Int64) × (Int32) × (VV) × (VV) × (VV) := (if f_S_requirePlace p1 = 0 then (0, ((f_S_write_z v w t x y (f_V_tighten (f_V_sayBits (f_V_sayAll z) p2 0)) p1.toNatClampNeg p2)).1, ((f_S_write_z v w t x y (f_V_tighten (f_V_sayBits (f_V_sayAll z) p2 0)) p1.toNatClampNeg p2)).2.1, ((f_S_write_z v w t x y (f_V_tighten (f_V_sayBits (f_V_sayAll z) p2 0)) p1.toNatClampNeg p2)).2.2, x, y, (f_V_tighten (f_V_sayBits (f_V_sayAll z) p2 0))) else (f_S_requirePlace p1, v, w, t, x, y, z))
def k_S_constant : List Cond := Cond.code y_S_constant b_S_constant 4 none :: gP
set_option maxRecDepth 100000 in
set_option maxHeartbeats 4000000 in
theorem c_S_constant (l : Launch) (hlt : l.stackTraces = false) (dC : Nat → ClassId) (dI : Nat → Nat → Nat) (ad : Nat → Nat) (cQ cJ : ClassId) (sz : Nat) (v : Nat → VV) (w : Nat → Int64) (t : Int32) (x : VV) (y : VV) (z : VV) (p1 : Int32) (p2 : Int64) : vx_Met l y_S_constant k_S_constant ({ frames := 7, cells := 1, slots := 6, locals := 120 } : Room) (va_Pc [.ref (ad 0), .int (p1), .long (p2)] (sP (dC, dI) (sT cQ cJ) (sW ad cQ cJ v w t x y z) sz)) (va_Qv (fun _ : Unit => (f_S_constant v w t x y z p1 p2).1 = 0) (mB (dC, dI) (va_A (sW ad cQ cJ v w t x y z) sz) (sW ad cQ cJ (f_S_constant v w t x y z p1 p2).2.1 (f_S_constant v w t x y z p1 p2).2.2.1 (f_S_constant v w t x y z p1 p2).2.2.2.1 (f_S_constant v w t x y z p1 p2).2.2.2.2.1 (f_S_constant v w t x y z p1 p2).2.2.2.2.2.1 (f_S_constant v w t x y z p1 p2).2.2.2.2.2.2)) (va_A (sW ad cQ cJ v w t x y z) sz)) (vx_X (fun _ : Unit => True) (fun E _ t9 => xE (f_S_constant v w t x y z p1 p2).1 E ∧ mB (dC, dI) (va_A (sW ad cQ cJ v w t x y z) sz) (sW ad cQ cJ (f_S_constant v w t x y z p1 p2).2.1 (f_S_constant v w t x y z p1 p2).2.2.1 (f_S_constant v w t x y z p1 p2).2.2.2.1 (f_S_constant v w t x y z p1 p2).2.2.2.2.1 (f_S_constant v w t x y z p1 p2).2.2.2.2.2.1 (f_S_constant v w t x y z p1 p2).2.2.2.2.2.2) () t9) (va_A (sW ad cQ cJ v w t x y z) sz)) 1 6 (va_A (sW ad cQ cJ v w t x y z) sz) := by
  refine vx_ofW (cc := b_S_constant) (maxL := 4) (ret := none) (by decide) rfl ?_
  intro p e s m args below meth c s₁ B hml htab hv
  obtain ⟨rfl, hsz, hP, hK, hD0, hX⟩ := hv
  have hx := B.exec
  have hb := B.bytes
  have hr := B.returns
  have hts := atoms_spec (ws := k_S_constant) B.pre
  have hG : ∀ w ∈ gP, w.before _ s = true := fun w h => hts w (List.mem_cons_of_mem _ h)
  have hown : s.vm.findClass R_S = some m.cls := findClass_of_methodNamed B.named
  have hlocks := B.notSynchronized
  subst hsz
  have hD := hD0.self (sz := s.heap.size)
  generalize hAe : va_A (sW ad cQ cJ v w t x y z) s.heap.size = A at hD hX ⊢
  have hA : ∀ q : Nat, s.heap.size ≤ q → A q := fun q h => by rw [← hAe]; exact Or.inr h
  have hS : va_S A s.heap s.heap [] := va_S.rf
  have hl := lv_entry ([.ref (ad 0), .int (p1), .long (p2)]) (n := 4) (Nat.le_of_ble_eq_true rfl)
  rw [lg_entry_eq]
  generalize (lg_sl ([.ref (ad 0), .int (p1), .long (p2)]) ++ List.replicate (4 - (lg_sl ([.ref (ad 0), .int (p1), .long (p2)])).length) Slot.unset).toArray = ls at hl ⊢
  have hl : lv_has ls 4 [(0, .ref (ad 0)), (1, .int (p1)), (2, .long (p2))] := hl
  refine lv_iload_n hx hb d_S_constant_0 rfl (lv_at hl 1 rfl) ?_
  refine sx_v (F := f_S_requirePlace p1) (vx_runS (As := [.int (p1)]) (rest := []) ⟨hx, hb, hml, hown, hts⟩ (c_S_requirePlace l hlt s.heap.size p1) (va_cwS 1 hts (gSS gw70 gw71 gw0 gw72) rfl rfl rfl (by decide +kernel) ⟨(Nat.le_of_ble_eq_true rfl), (Nat.le_of_ble_eq_true rfl)⟩) ⟨blx, fun U hU hW => ⟨rfl, by rw [hU], xq_at hX hS hA hU hW⟩⟩ rfl rfl hl.1 rfl (lv_room (Nat.le_of_ble_eq_true rfl)) d_S_constant_1 ⟨(Nat.le_of_ble_eq_true rfl), (Nat.le_of_ble_eq_true rfl)⟩) hP hS hA (fun E ce q9 H locs hE hP hS hce hcv hcl => ?_) (fun h1 H locs hP hS => ?_)
  · have fe : f_S_constant v w t x y z p1 p2 = (f_S_requirePlace p1, v, w, t, x, y, z) := by unfold f_S_constant; first | with_reducible exact if_neg hE.ne | exact if_neg hE.ne
    exact vx_out (fun x hx9 => (htab x hx9).elim) hlocks hce hcv hcl (fun t9 ht hal => ⟨(), trivial, ⟨by rw [fe]; exact hE, by rw [ht, fe]; exact hP, by rw [fe]; exact hD⟩, hS.F ht⟩) hS.2.2 (Nat.le_of_ble_eq_true rfl) (Nat.le_of_ble_eq_true rfl)
  · refine lv_aload_n hx hb d_S_constant_4 rfl (lv_at hl 0 rfl) ?_
    refine va_get (D := (dC, dI)) (ci := 1) (v := .ref (ad 5)) (C := R_S) (T := F_S) (N := 6) hx hb hts (fun w h => List.mem_cons_of_mem _ (gGP (uw_S w h))) hown hK hP 0 (sW_get (by decide)) rfl 4 (by decide) (hG (.fieldLink R_S 27 "ValueSieve" "made" "LValueSieve$Value;") (gGP gw56)) (fun _ h9 => h9) rfl d_S_constant_5 ?_
    refine sc_v (T := VV) (F := f_V_sayAll z) (wc := [((ad 5), vE z)]) (w1 := fun g8 => [((ad 5), vE g8)]) (v' := fun g8 => v) (x' := fun g8 => x) (y' := fun g8 => y) (z' := fun g8 => g8) (va_runV (As := []) (rest := []) ⟨hx, hb, hml, hown, hts⟩ (c_V_sayAll l dC dI (ad 5) H.size z) (cwV 0 hts (gV9 gw74 gw75 gw76 gw1 gw77) rfl rfl rfl (by decide +kernel) ⟨(Nat.le_of_ble_eq_true rfl), (Nat.le_of_ble_eq_true rfl)⟩) ⟨blm, va_recv hK hP (ci := 0) (q0 := 5) rfl (sW_get (by decide)), fun U hU hW => ⟨rfl, by rw [hU], by rw [hU]; exact hP.sub [5] (fl1 (sW_get (by decide))), kE (va_K.moved hW.alike hK), (hD.sub [5] (nd1 _) (mp1 (sW_get (by decide)))).weaken (fun _ _ _ _ => trivial)⟩⟩ rfl rfl hl.1 rfl (lv_room (Nat.le_of_ble_eq_true rfl)) d_S_constant_8 ⟨(Nat.le_of_ble_eq_true rfl), (Nat.le_of_ble_eq_true rfl)⟩) hP hD hS hA [5] (mp1 (sW_get (by decide))) (fun g8 => (sN_fix (fun _ => rfl) (fun _ => rfl) (fun h => absurd (by simp) h) (in1 (Pr := fun i => sE ad cQ cJ v w t x y g8 i ∈ [((ad 5), vE g8)]) m0))) (fun g8 eg8 H locs hP hD hS => ?_)
    refine lv_aload_n hx hb d_S_constant_11 rfl (lv_at hl 0 rfl) ?_
    refine va_get (D := (dC, dI)) (ci := 1) (v := .ref (ad 5)) (C := R_S) (T := F_S) (N := 6) hx hb hts (fun w h => List.mem_cons_of_mem _ (gGP (uw_S w h))) hown hK hP 0 (sW_get (by decide)) rfl 4 (by decide) (hG (.fieldLink R_S 27 "ValueSieve" "made" "LValueSieve$Value;") (gGP gw56)) (fun _ h9 => h9) rfl d_S_constant_12 ?_
    refine lv_lload_n hx hb d_S_constant_15 rfl (lv_at hl 2 rfl) ?_
    refine lv_lconst (v := 0) hx hb d_S_constant_16 (by decide) ?_
    refine sc_v (T := VV) (F := f_V_sayBits g8 p2 0) (wc := [((ad 5), vE g8)]) (w1 := fun g17 => [((ad 5), vE g17)]) (v' := fun g17 => v) (x' := fun g17 => x) (y' := fun g17 => y) (z' := fun g17 => g17) (va_runV (As := [.long (p2), .long (0)]) (rest := []) ⟨hx, hb, hml, hown, hts⟩ (c_V_sayBits l dC dI (ad 5) H.size g8 p2 0) (cwV 2 hts (gV9 gw111 gw80 gw81 gw1 gw82) rfl rfl rfl (by decide +kernel) ⟨(Nat.le_of_ble_eq_true rfl), (Nat.le_of_ble_eq_true rfl)⟩) ⟨blm, va_recv hK hP (ci := 0) (q0 := 5) rfl (sW_get (by decide)), fun U hU hW => ⟨rfl, by rw [hU], by rw [hU]; exact hP.sub [5] (fl1 (sW_get (by decide))), kE (va_K.moved hW.alike hK), (hD.sub [5] (nd1 _) (mp1 (sW_get (by decide)))).weaken (fun _ _ _ _ => trivial)⟩⟩ rfl rfl hl.1 rfl (lv_room (Nat.le_of_ble_eq_true rfl)) d_S_constant_17 ⟨(Nat.le_of_ble_eq_true rfl), (Nat.le_of_ble_eq_true rfl)⟩) hP hD hS hA [5] (mp1 (sW_get (by decide))) (fun g17 => (sN_fix (fun _ => rfl) (fun _ => rfl) (fun h => absurd (by simp) h) (in1 (Pr := fun i => sE ad cQ cJ v w t x y g17 i ∈ [((ad 5), vE g17)]) m0))) (fun g17 eg17 H locs hP hD hS => ?_)
    refine lv_aload_n hx hb d_S_constant_20 rfl (lv_at hl 0 rfl) ?_
    refine va_get (D := (dC, dI)) (ci := 1) (v := .ref (ad 5)) (C := R_S) (T := F_S) (N := 6) hx hb hts (fun w h => List.mem_cons_of_mem _ (gGP (uw_S w h))) hown hK hP 0 (sW_get (by decide)) rfl 4 (by decide) (hG (.fieldLink R_S 27 "ValueSieve" "made" "LValueSieve$Value;") (gGP gw56)) (fun _ h9 => h9) rfl d_S_constant_21 ?_
    refine sc_v (T := VV) (F := f_V_tighten g17) (wc := [((ad 5), vE g17)]) (w1 := fun g24 => [((ad 5), vE g24)]) (v' := fun g24 => v) (x' := fun g24 => x) (y' := fun g24 => y) (z' := fun g24 => g24) (va_runV (As := []) (rest := []) ⟨hx, hb, hml, hown, hts⟩ (c_V_tighten l dC dI (ad 5) H.size g17) (cwV 0 hts (gV9 gw112 gw113 gw114 gw1 gw115) rfl rfl rfl (by decide +kernel) ⟨(Nat.le_of_ble_eq_true rfl), (Nat.le_of_ble_eq_true rfl)⟩) ⟨blm, va_recv hK hP (ci := 0) (q0 := 5) rfl (sW_get (by decide)), fun U hU hW => ⟨rfl, by rw [hU], by rw [hU]; exact hP.sub [5] (fl1 (sW_get (by decide))), kE (va_K.moved hW.alike hK), (hD.sub [5] (nd1 _) (mp1 (sW_get (by decide)))).weaken (fun _ _ _ _ => trivial)⟩⟩ rfl rfl hl.1 rfl (lv_room (Nat.le_of_ble_eq_true rfl)) d_S_constant_24 ⟨(Nat.le_of_ble_eq_true rfl), (Nat.le_of_ble_eq_true rfl)⟩) hP hD hS hA [5] (mp1 (sW_get (by decide))) (fun g24 => (sN_fix (fun _ => rfl) (fun _ => rfl) (fun h => absurd (by simp) h) (in1 (Pr := fun i => sE ad cQ cJ v w t x y g24 i ∈ [((ad 5), vE g24)]) m0))) (fun g24 eg24 H locs hP hD hS => ?_)
    refine lv_aload_n hx hb d_S_constant_27 rfl (lv_at hl 0 rfl) ?_
    refine lv_iload_n hx hb d_S_constant_28 rfl (lv_at hl 1 rfl) ?_
    refine lv_aload_n hx hb d_S_constant_29 rfl (lv_at hl 0 rfl) ?_
    refine va_get (D := (dC, dI)) (ci := 1) (v := .ref (ad 5)) (C := R_S) (T := F_S) (N := 6) hx hb hts (fun w h => List.mem_cons_of_mem _ (gGP (uw_S w h))) hown hK hP 0 (sW_get (by decide)) rfl 4 (by decide) (hG (.fieldLink R_S 27 "ValueSieve" "made" "LValueSieve$Value;") (gGP gw56)) (fun _ h9 => h9) rfl d_S_constant_30 ?_
    refine lv_lload_n hx hb d_S_constant_33 rfl (lv_at hl 2 rfl) ?_
    refine mm_v (F := f_S_write_z v w t x y g24 p1.toNatClampNeg p2) (w1 := fun g34 => (sW ad cQ cJ (g34).1 (g34).2.1 (g34).2.2 x y g24)) (va_runV (As := [.int (nI p1.toNatClampNeg), .ref (ad 5), .long (p2)]) (rest := []) ⟨hx, hb, hml, hown, hts⟩ (c_S_write_z l dC dI ad cQ cJ H.size v w t x y g24 p1.toNatClampNeg p2 (ie_nI (rp_ok h1)).2) (cwV 3 hts (gVS gw93 gw94 gw377 gw0 gw95) rfl rfl rfl (by decide +kernel) ⟨(Nat.le_of_ble_eq_true rfl), (Nat.le_of_ble_eq_true rfl)⟩) ⟨blp, va_recv hK hP (ci := 1) (q0 := 0) rfl (sW_get (by decide)), fun U hU hW => ⟨rfl, by rw [hU], by rw [hU]; exact hP, va_K.moved hW.alike hK, hD.weaken (fun _ _ _ _ => trivial)⟩⟩ rfl rfl hl.1 (by simp only [← (ie_nI (rp_ok h1)).1]; rfl) (lv_room (Nat.le_of_ble_eq_true rfl)) d_S_constant_34 ⟨(Nat.le_of_ble_eq_true rfl), (Nat.le_of_ble_eq_true rfl)⟩) hD hS hA (fun g34 eg34 H locs hP hD hS => ?_)
    have fe : f_S_constant v w t x y z p1 p2 = (0, (g34).1, (g34).2.1, (g34).2.2, x, y, g24) := by unfold f_S_constant; rw [eg8, eg17, eg24, eg34]; first | with_reducible exact if_pos h1 | exact if_pos h1
    refine w_widen (k := 1) (n := 6) (Nat.le_of_ble_eq_true rfl) (Nat.le_of_ble_eq_true rfl) ?_
    refine vx_ret ?_
    exact W.vret hx hb hr (fun t9 ht hW => ⟨⟨(), rfl, (by rw [fe]), by rw [ht, fe]; exact hP, by rw [fe]; exact hD⟩, hS.F ht⟩) hS.2.2 d_S_constant_37
