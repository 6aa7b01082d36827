theorem up_stepE {x : Int32} {n : Nat} (e : ¬ 64 ≤ x) (h : (64 - x.toInt).toNat < n + 1) : (64 - (x + 8).toInt).toNat < n := by
  rw [Int32.le_iff_toInt_le, show (64 : Int32).toInt = 64 by decide] at e
  have h1 := Int32.le_toInt x
  have h2 : (x + 8).toInt = x.toInt + 8 := by
    rw [Int32.toInt_add, show (8 : Int32).toInt = 8 by decide]
    rw [Int.bmod_eq_of_le (by omega) (by omega)]
  rw [h2]
  omega
-- turned
theorem d_N_turned_0 : decode b_N_turned 0 = .ok (.lconst 0, 1) := by decide +kernel
theorem d_N_turned_1 : decode b_N_turned 1 = .ok (.lstore_n 3, 1) := by decide +kernel
theorem d_N_turned_2 : decode b_N_turned 2 = .ok (.iconst 0, 1) := by decide +kernel
theorem d_N_turned_3 : decode b_N_turned 3 = .ok (.istore 5, 2) := by decide +kernel
theorem d_N_turned_5 : decode b_N_turned 5 = .ok (.iload 5, 2) := by decide +kernel
theorem d_N_turned_7 : decode b_N_turned 7 = .ok (.iload_n 2, 1) := by decide +kernel
theorem d_N_turned_8 : decode b_N_turned 8 = .ok (.if_icmp .ge 30, 3) := by decide +kernel
theorem d_N_turned_11 : decode b_N_turned 11 = .ok (.iload 5, 2) := by decide +kernel
theorem d_N_turned_13 : decode b_N_turned 13 = .ok (.bipush 64, 2) := by decide +kernel
theorem d_N_turned_15 : decode b_N_turned 15 = .ok (.if_icmp .ge 23, 3) := by decide +kernel
theorem d_N_turned_18 : decode b_N_turned 18 = .ok (.lload_n 3, 1) := by decide +kernel
theorem d_N_turned_19 : decode b_N_turned 19 = .ok (.bipush 8, 2) := by decide +kernel
theorem d_N_turned_21 : decode b_N_turned 21 = .ok (.lshl, 1) := by decide +kernel
theorem d_N_turned_22 : decode b_N_turned 22 = .ok (.lload_n 0, 1) := by decide +kernel
theorem d_N_turned_23 : decode b_N_turned 23 = .ok (.iload 5, 2) := by decide +kernel
theorem d_N_turned_25 : decode b_N_turned 25 = .ok (.lushr, 1) := by decide +kernel
theorem d_N_turned_26 : decode b_N_turned 26 = .ok (.ldc2_w 35, 3) := by decide +kernel
theorem d_N_turned_29 : decode b_N_turned 29 = .ok (.land, 1) := by decide +kernel
theorem d_N_turned_30 : decode b_N_turned 30 = .ok (.lor, 1) := by decide +kernel
theorem d_N_turned_31 : decode b_N_turned 31 = .ok (.lstore_n 3, 1) := by decide +kernel
theorem d_N_turned_32 : decode b_N_turned 32 = .ok (.iinc 5 8, 3) := by decide +kernel
theorem d_N_turned_35 : decode b_N_turned 35 = .ok (.goto (-30), 3) := by decide +kernel
theorem d_N_turned_38 : decode b_N_turned 38 = .ok (.lload_n 3, 1) := by decide +kernel
theorem d_N_turned_39 : decode b_N_turned 39 = .ok (.lreturn, 1) := by decide +kernel
def f_N_turned_38 (p1 : Int64) (p2 : Int32) (x5_3 : Int64) : Int64 := x5_3
def f_N_turned_31v (p1 : Int64) (p2 : Int32) (x5_5 : Int32) (x5_3 : Int64) (k5 : Int32 → Int64 → Int64) (v31 : Int64) : Int64 := k5 (x5_5 + 8) v31
def f_N_turned_5 (p1 : Int64) (p2 : Int32) : Nat → Int32 → Int64 → Int64
  | 0, _, _ => default
  | n5 + 1, x5_5, x5_3 => (if p2 ≤ x5_5 then f_N_turned_38 p1 p2 x5_3 else (if 64 ≤ x5_5 then f_N_turned_38 p1 p2 x5_3 else f_N_turned_31v p1 p2 x5_5 x5_3 (fun y0 y1 => f_N_turned_5 p1 p2 n5 y0 y1) ((x5_3 <<< ((8 : Int32).toInt64 &&& 63)) ||| (((p1.toUInt64 >>> (x5_5.toInt64.toUInt64 &&& Int64.toUInt64 63)).toInt64) &&& (255 : Int64)))))
def f_N_turned (p1 : Int64) (p2 : Int32) : Int64 := f_N_turned_5 p1 p2 65 0 0
set_option maxRecDepth 100000 in
set_option maxHeartbeats 4000000 in
theorem c_N_turned (l : Launch) (p1 : Int64) (p2 : Int32) : Met l y_N_turned w_N_turned ({ frames := 0, cells := 0, slots := 0, locals := 0 } : Room) (va_Pc [.long (p1), .int (p2)] (fun _ => True)) (vp_Sl (fun r => r = (f_N_turned p1 p2))) 0 0 (fun _ => False) := by
  refine Met.ofW (cc := b_N_turned) (maxL := 6) (ret := (some .long)) (by decide) rfl ?_
  intro p e s m args below meth c s₁ B hml hv
  obtain ⟨rfl, -⟩ := hv
  have hx := B.exec
  have hb := B.bytes
  have hr := B.returns
  have hts := atoms_spec (ws := w_N_turned) B.pre
  have hG : ∀ w ∈ gG, w.before _ s = true := fun w h => hts w (List.mem_cons_of_mem _ h)
  have hown : s.vm.findClass R_N = some m.cls := findClass_of_methodNamed B.named
  have hlocks := B.notSynchronized
  have hl := lv_entry ([.long (p1), .int (p2)]) (n := 6) (Nat.le_of_ble_eq_true rfl)
  rw [lg_entry_eq]
  generalize (lg_sl ([.long (p1), .int (p2)]) ++ List.replicate (6 - (lg_sl ([.long (p1), .int (p2)])).length) Slot.unset).toArray = ls at hl ⊢
  have hl : lv_has ls 6 [(0, .long (p1)), (2, .int (p2))] := hl
  have K38 : ∀ (x5_3 : Int64) (hj : f_N_turned p1 p2 = f_N_turned_38 p1 p2 x5_3) (ls : Array Slot) (hl : lv_has ls 6 [(3, .long (x5_3))]), W p l e (headSpec w_N_turned ({ frames := 0, cells := 0, slots := 0, locals := 0 } : Room)).room s m ([.long (p1), .int (p2)] : List Value).toArray below meth c s.heap [] 0 0 (MQ below (vp_Sl (fun r => r = (f_N_turned p1 p2))) ([.long (p1), .int (p2)] : List Value).toArray s 0 0 (fun _ => False)) (F0 m 38 ls []) := by
    intro x5_3 hj ls hl
    refine lv_lload_n hx hb d_N_turned_38 rfl (lv_at hl 0 rfl) ?_
    have fe : f_N_turned p1 p2 = x5_3 := hj.trans rfl
    exact W.lret (v := x5_3) hx hb hr (fun t ht hW => ⟨_, rfl, by rw [fe], ht⟩) t_nil d_N_turned_39
  have K5 : ∀ (n5 : Nat) (x5_5 : Int32) (x5_3 : Int64) (hm5 : (64 - x5_5.toInt).toNat < n5) (hj : f_N_turned p1 p2 = f_N_turned_5 p1 p2 n5 x5_5 x5_3) (ls : Array Slot) (hl : lv_has ls 6 [(5, .int (x5_5)), (3, .long (x5_3)), (0, .long (p1)), (2, .int (p2))]), W p l e (headSpec w_N_turned ({ frames := 0, cells := 0, slots := 0, locals := 0 } : Room)).room s m ([.long (p1), .int (p2)] : List Value).toArray below meth c s.heap [] 0 0 (MQ below (vp_Sl (fun r => r = (f_N_turned p1 p2))) ([.long (p1), .int (p2)] : List Value).toArray s 0 0 (fun _ => False)) (F0 m 5 ls []) := by
    intro n5
    induction n5 with
    | zero => intro x5_5 x5_3 hm5 hj ls hl; exact absurd hm5 (Nat.not_lt_zero _)
    | succ n5 ih5 =>
      intro x5_5 x5_3 hm5 hj ls hl
      have K31v : ∀ (v31 : Int64) (hj : f_N_turned p1 p2 = f_N_turned_31v p1 p2 x5_5 x5_3 (fun y0 y1 => f_N_turned_5 p1 p2 n5 y0 y1) v31) (hf0 : ¬ 64 ≤ x5_5) (ls : Array Slot) (hl : lv_has ls 6 [(3, .long (v31)), (5, .int (x5_5)), (0, .long (p1)), (2, .int (p2))]), W p l e (headSpec w_N_turned ({ frames := 0, cells := 0, slots := 0, locals := 0 } : Room)).room s m ([.long (p1), .int (p2)] : List Value).toArray below meth c s.heap [] 0 0 (MQ below (vp_Sl (fun r => r = (f_N_turned p1 p2))) ([.long (p1), .int (p2)] : List Value).toArray s 0 0 (fun _ => False)) (F0 m 32 ls []) := by
        intro v31 hj hf0 ls hl
        refine lv_iinc (v := x5_5 + 8) (lv' := [(5, .int (x5_5 + 8)), (3, .long (v31)), (0, .long (p1)), (2, .int (p2))]) hx hb d_N_turned_32 hl (k := 1) rfl rfl (by decide) rfl (fun ls hl => ?_)
        refine lv_goto (tgt := 5) hx hb d_N_turned_35 (by decide) ?_
        exact ih5 (x5_5 + 8) v31 (up_stepE hf0 hm5) (hj.trans rfl) ls (lv_sub hl [0, 1, 2, 3] rfl)
      refine lv_iload hx hb d_N_turned_5 (lv_at hl 0 rfl) ?_
      refine lv_iload_n hx hb d_N_turned_7 rfl (lv_at hl 3 rfl) ?_
      refine lv_icmp_ge (tgt := 38) hx hb d_N_turned_8 (by decide) (fun e1_38 => ?_) (fun e1_38 => ?_)
      · exact K38 x5_3 (hj.trans ((f_N_turned_5.eq_2 p1 p2 _ _ _).trans (by first | with_reducible exact if_pos e1_38 | exact if_pos e1_38))) ls (lv_sub hl [1] rfl)
      · refine lv_iload hx hb d_N_turned_11 (lv_at hl 0 rfl) ?_
        refine lv_bipush (v := 64) hx hb d_N_turned_13 (by decide) ?_
        refine lv_icmp_ge (tgt := 38) hx hb d_N_turned_15 (by decide) (fun e2_38 => ?_) (fun e2_38 => ?_)
        · exact K38 x5_3 (hj.trans ((f_N_turned_5.eq_2 p1 p2 _ _ _).trans (by first | with_reducible exact (if_neg e1_38).trans (if_pos e2_38) | exact (if_neg e1_38).trans (if_pos e2_38)))) ls (lv_sub hl [1] rfl)
        · refine lv_lload_n hx hb d_N_turned_18 rfl (lv_at hl 1 rfl) ?_
          refine lv_bipush (v := 8) hx hb d_N_turned_19 (by decide) ?_
          refine lv_lshl (v := x5_3 <<< ((8 : Int32).toInt64 &&& 63)) hx hb d_N_turned_21 rfl ?_
          refine lv_lload_n hx hb d_N_turned_22 rfl (lv_at hl 2 rfl) ?_
          refine lv_iload hx hb d_N_turned_23 (lv_at hl 0 rfl) ?_
          refine lv_lushr (v := (p1.toUInt64 >>> (x5_5.toInt64.toUInt64 &&& Int64.toUInt64 63)).toInt64) hx hb d_N_turned_25 rfl ?_
          refine lv_ldc2 (v := 255) hx hb hown (hG (.constantLong R_N 35 (255)) gw278) d_N_turned_26 ?_
          refine lv_land hx hb d_N_turned_29 ?_
          refine lv_lor hx hb d_N_turned_30 ?_
          refine lv_topl (fun v31 ev31 => ?_)
          refine lv_lstore_n (lv' := [(3, .long (v31)), (5, .int (x5_5)), (0, .long (p1)), (2, .int (p2))]) hx hb d_N_turned_31 rfl hl (by decide) rfl (fun ls hl => ?_)
          exact K31v v31 (Eq.trans (hj.trans ((f_N_turned_5.eq_2 p1 p2 _ _ _).trans (by first | with_reducible exact (if_neg e1_38).trans (if_neg e2_38) | exact (if_neg e1_38).trans (if_neg e2_38)))) (congrArg (fun v31 => f_N_turned_31v p1 p2 x5_5 x5_3 (fun y0 y1 => f_N_turned_5 p1 p2 n5 y0 y1) v31) ev31.symm)) e2_38 ls (lv_sub hl [0, 1, 2, 3] rfl)
  refine lv_lconst (v := 0) hx hb d_N_turned_0 (by decide) ?_
  refine lv_lstore_n (lv' := [(3, .long (0)), (0, .long (p1)), (2, .int (p2))]) hx hb d_N_turned_1 rfl hl (by decide) rfl (fun ls hl => ?_)
  refine lv_iconst (v := 0) hx hb d_N_turned_2 (by decide) ?_
  refine lv_istore (lv' := [(5, .int (0)), (3, .long (0)), (0, .long (p1)), (2, .int (p2))]) hx hb d_N_turned_3 hl (by decide) rfl (fun ls hl => ?_)
  exact K5 65 0 0 (by decide) (rfl) ls (lv_sub hl [0, 1, 2, 3] rfl)
-- Value.turnBytes
theorem d_V_turnBytes_0 : decode b_V_turnBytes 0 = .ok (.aload_n 0, 1) := by decide +kernel
theorem d_V_turnBytes_1 : decode b_V_turnBytes 1 = .ok (.iload_n 1, 1) := by decide +kernel
theorem d_V_turnBytes_2 : decode b_V_turnBytes 2 = .ok (.invokevirtual 105, 3) := by decide +kernel
theorem d_V_turnBytes_5 : decode b_V_turnBytes 5 = .ok (.aload_n 0, 1) := by decide +kernel
theorem d_V_turnBytes_6 : decode b_V_turnBytes 6 = .ok (.getfield 7, 3) := by decide +kernel
theorem d_V_turnBytes_9 : decode b_V_turnBytes 9 = .ok (.iload_n 1, 1) := by decide +kernel
theorem d_V_turnBytes_10 : decode b_V_turnBytes 10 = .ok (.invokestatic 115, 3) := by decide +kernel
theorem d_V_turnBytes_13 : decode b_V_turnBytes 13 = .ok (.lstore_n 2, 1) := by decide +kernel
theorem d_V_turnBytes_14 : decode b_V_turnBytes 14 = .ok (.aload_n 0, 1) := by decide +kernel
theorem d_V_turnBytes_15 : decode b_V_turnBytes 15 = .ok (.getfield 13, 3) := by decide +kernel
theorem d_V_turnBytes_18 : decode b_V_turnBytes 18 = .ok (.iload_n 1, 1) := by decide +kernel
theorem d_V_turnBytes_19 : decode b_V_turnBytes 19 = .ok (.invokestatic 115, 3) := by decide +kernel
theorem d_V_turnBytes_22 : decode b_V_turnBytes 22 = .ok (.lstore 4, 2) := by decide +kernel
theorem d_V_turnBytes_24 : decode b_V_turnBytes 24 = .ok (.aload_n 0, 1) := by decide +kernel
theorem d_V_turnBytes_25 : decode b_V_turnBytes 25 = .ok (.invokevirtual 99, 3) := by decide +kernel
theorem d_V_turnBytes_28 : decode b_V_turnBytes 28 = .ok (.aload_n 0, 1) := by decide +kernel
theorem d_V_turnBytes_29 : decode b_V_turnBytes 29 = .ok (.lload_n 2, 1) := by decide +kernel
theorem d_V_turnBytes_30 : decode b_V_turnBytes 30 = .ok (.lload 4, 2) := by decide +kernel
theorem d_V_turnBytes_32 : decode b_V_turnBytes 32 = .ok (.invokevirtual 34, 3) := by decide +kernel
theorem d_V_turnBytes_35 : decode b_V_turnBytes 35 = .ok (.aload_n 0, 1) := by decide +kernel
theorem d_V_turnBytes_36 : decode b_V_turnBytes 36 = .ok (.invokevirtual 102, 3) := by decide +kernel
theorem d_V_turnBytes_39 : decode b_V_turnBytes 39 = .ok (.return_, 1) := by decide +kernel
def f_V_turnBytes_36g (z0 : VV) (p1 : Int32) (g36 : VV) : VV := g36
def f_V_turnBytes_32g (z0 : VV) (p1 : Int32) (g32 : VV) : VV := f_V_turnBytes_36g z0 p1 (f_V_tighten g32)
def f_V_turnBytes_25g (z0 : VV) (p1 : Int32) (v22 : Int64) (v13 : Int64) (g25 : VV) : VV := f_V_turnBytes_32g z0 p1 (f_V_sayBits g25 v13 v22)
def f_V_turnBytes_22v (z0 : VV) (p1 : Int32) (v22 : Int64) (v13 : Int64) (g2 : VV) : VV := f_V_turnBytes_25g z0 p1 v22 v13 (f_V_sayAll g2)
def f_V_turnBytes_13v (z0 : VV) (p1 : Int32) (v13 : Int64) (g2 : VV) : VV := f_V_turnBytes_22v z0 p1 (f_N_turned g2.2.1 p1) v13 g2
def f_V_turnBytes_2g (z0 : VV) (p1 : Int32) (g2 : VV) : VV := f_V_turnBytes_13v z0 p1 (f_N_turned g2.1 p1) g2
def f_V_turnBytes (z0 : VV) (p1 : Int32) : VV := f_V_turnBytes_2g z0 p1 (f_V_trim z0 p1)
set_option maxRecDepth 100000 in
set_option maxHeartbeats 4000000 in
theorem c_V_turnBytes (l : Launch) (dC : Nat → ClassId) (dI : Nat → Nat → Nat) (h0 : Nat) (sz : Nat) (z0 : VV) (p1 : Int32) : Met l y_V_turnBytes w_V_turnBytes ({ frames := 5, cells := 0, slots := 0, locals := 150 } : Room) (va_Pc [.ref h0, .int (p1)] (mP (dC, dI) [(h0, vE z0)] sz)) (va_Qv (fun _ : Unit => True) (mB (dC, dI) (va_A [(h0, vE z0)] sz) [(h0, vE (f_V_turnBytes z0 p1))]) (va_A [(h0, vE z0)] sz)) 0 0 (va_A [(h0, vE z0)] sz) := by
  refine Met.ofW (cc := b_V_turnBytes) (maxL := 6) (ret := none) (by decide) rfl ?_
  intro p e s m args below meth c s₁ B hml hv
  obtain ⟨rfl, hsz, hP, hK, hD0⟩ := hv
  have hx := B.exec
  have hb := B.bytes
  have hr := B.returns
  have hts := atoms_spec (ws := w_V_turnBytes) B.pre
  have hG : ∀ w ∈ gG, w.before _ s = true := fun w h => hts w (List.mem_cons_of_mem _ h)
  have hown : s.vm.findClass R_V = some m.cls := findClass_of_methodNamed B.named
  have hlocks := B.notSynchronized
  subst hsz
  have hD := hD0.self (sz := s.heap.size)
  generalize hAe : va_A [(h0, vE z0)] s.heap.size = A at hD ⊢
  have hA : ∀ q : Nat, s.heap.size ≤ q → A q := fun q h => by rw [← hAe]; exact Or.inr h
  have hS : va_S A s.heap s.heap [] := va_S.rf
  have hP : va_P (dC, dI) classes [(h0, .inr (0, [.long (z0.1), .long (z0.2.1), .long (z0.2.2.1), .long (z0.2.2.2.1), .long (z0.2.2.2.2.1), .long (z0.2.2.2.2.2.1), .int (bI z0.2.2.2.2.2.2)]))] s.heap := hP
  have hD : va_D A [(h0, .inr (0, [.long (z0.1), .long (z0.2.1), .long (z0.2.2.1), .long (z0.2.2.2.1), .long (z0.2.2.2.2.1), .long (z0.2.2.2.2.2.1), .int (bI z0.2.2.2.2.2.2)]))] := hD
  have hl := lv_entry ([.ref h0, .int (p1)]) (n := 6) (Nat.le_of_ble_eq_true rfl)
  rw [lg_entry_eq]
  generalize (lg_sl ([.ref h0, .int (p1)]) ++ List.replicate (6 - (lg_sl ([.ref h0, .int (p1)])).length) Slot.unset).toArray = ls at hl ⊢
  have hl : lv_has ls 6 [(0, .ref h0), (1, .int (p1))] := hl
  have K36g : ∀ (g36 : VV) (hj : f_V_turnBytes z0 p1 = f_V_turnBytes_36g z0 p1 g36) (H : Heap) (locs : List Loc) (hP : va_P (dC, dI) classes [(h0, .inr (0, [.long (g36.1), .long (g36.2.1), .long (g36.2.2.1), .long (g36.2.2.2.1), .long (g36.2.2.2.2.1), .long (g36.2.2.2.2.2.1), .int (bI g36.2.2.2.2.2.2)]))] H) (hD : va_D A [(h0, .inr (0, [.long (g36.1), .long (g36.2.1), .long (g36.2.2.1), .long (g36.2.2.2.1), .long (g36.2.2.2.2.1), .long (g36.2.2.2.2.2.1), .int (bI g36.2.2.2.2.2.2)]))]) (hS : va_S A s.heap H locs) (ls : Array Slot) (hl : lv_has ls 6 []), W p l e (headSpec w_V_turnBytes ({ frames := 5, cells := 0, slots := 0, locals := 150 } : Room)).room s m ([.ref h0, .int (p1)] : List Value).toArray below meth c H locs 0 0 (MQ below (va_Qv (fun _ : Unit => True) (mB (dC, dI) A [(h0, vE (f_V_turnBytes z0 p1))]) A) ([.ref h0, .int (p1)] : List Value).toArray s 0 0 A) (F0 m 39 ls []) := by
    intro g36 hj H locs hP hD hS ls hl
    have fe : f_V_turnBytes z0 p1 = g36 := hj.trans rfl
    exact W.vret hx hb hr (fun t ht hW => ⟨⟨(), rfl, trivial, by rw [ht, fe]; (try simp only [vE_mk]); exact hP, by rw [fe]; (try simp only [vE_mk]); exact hD⟩, hS.F ht⟩) hS.2.2 d_V_turnBytes_39
  have K32g : ∀ (g32 : VV) (hj : f_V_turnBytes z0 p1 = f_V_turnBytes_32g z0 p1 g32) (H : Heap) (locs : List Loc) (hP : va_P (dC, dI) classes [(h0, .inr (0, [.long (g32.1), .long (g32.2.1), .long (g32.2.2.1), .long (g32.2.2.2.1), .long (g32.2.2.2.2.1), .long (g32.2.2.2.2.2.1), .int (bI g32.2.2.2.2.2.2)]))] H) (hD : va_D A [(h0, .inr (0, [.long (g32.1), .long (g32.2.1), .long (g32.2.2.1), .long (g32.2.2.2.1), .long (g32.2.2.2.2.1), .long (g32.2.2.2.2.2.1), .int (bI g32.2.2.2.2.2.2)]))]) (hS : va_S A s.heap H locs) (ls : Array Slot) (hl : lv_has ls 6 [(0, .ref h0)]), W p l e (headSpec w_V_turnBytes ({ frames := 5, cells := 0, slots := 0, locals := 150 } : Room)).room s m ([.ref h0, .int (p1)] : List Value).toArray below meth c H locs 0 0 (MQ below (va_Qv (fun _ : Unit => True) (mB (dC, dI) A [(h0, vE (f_V_turnBytes z0 p1))]) A) ([.ref h0, .int (p1)] : List Value).toArray s 0 0 A) (F0 m 35 ls []) := by
    intro g32 hj H locs hP hD hS ls hl
    refine lv_aload_n hx hb d_V_turnBytes_35 rfl (lv_at hl 0 rfl) ?_
    refine mg_v (F := f_V_tighten g32) (wc := [(h0, vE g32)]) (w1 := fun g36 => [(h0, vE g36)]) (wr := []) (ws' := fun g36 => [(h0, .inr (0, [.long (g36.1), .long (g36.2.1), .long (g36.2.2.1), .long (g36.2.2.2.1), .long (g36.2.2.2.2.1), .long (g36.2.2.2.2.2.1), .int (bI g36.2.2.2.2.2.2)]))]) (va_runV (As := []) (rest := []) ⟨hx, hb, hml, hown, hts⟩ (c_V_tighten l dC dI h0 H.size g32) (cwV 0 hts (gV gw180 gw113 gw114 gw1 gw115) rfl rfl rfl (by decide +kernel) ⟨(Nat.le_of_ble_eq_true rfl), (Nat.le_of_ble_eq_true rfl)⟩) ⟨blm, va_recv hK hP (ci := 0) (q0 := 0) rfl rfl, fun U hU hW => ⟨rfl, by rw [hU], by rw [hU]; exact hP.sub [0] rfl, va_K.moved hW.alike hK, (hD.sub [0] (by decide) rfl).weaken (fun _ _ _ _ => trivial)⟩⟩ rfl rfl hl.1 rfl (lv_room (Nat.le_of_ble_eq_true rfl)) d_V_turnBytes_36 ⟨Nat.zero_le _, Nat.zero_le _⟩) hP hD hS hA [0] [] [0] rfl rfl (by decide) (by decide) (fun _ => rfl) (by decide) (fun g36 eg36 H locs hP hD hS => ?_)
    refine K36g g36 (Eq.trans (hj.trans rfl) (congrArg (fun g36 => f_V_turnBytes_36g z0 p1 g36) eg36)) H locs ?_ ?_ hS ls (lv_sub hl [] rfl)
    · with_reducible exact hP
    · with_reducible exact hD
  have K25g : ∀ (v22 : Int64) (v13 : Int64) (g25 : VV) (hj : f_V_turnBytes z0 p1 = f_V_turnBytes_25g z0 p1 v22 v13 g25) (H : Heap) (locs : List Loc) (hP : va_P (dC, dI) classes [(h0, .inr (0, [.long (g25.1), .long (g25.2.1), .long (g25.2.2.1), .long (g25.2.2.2.1), .long (g25.2.2.2.2.1), .long (g25.2.2.2.2.2.1), .int (bI g25.2.2.2.2.2.2)]))] H) (hD : va_D A [(h0, .inr (0, [.long (g25.1), .long (g25.2.1), .long (g25.2.2.1), .long (g25.2.2.2.1), .long (g25.2.2.2.2.1), .long (g25.2.2.2.2.2.1), .int (bI g25.2.2.2.2.2.2)]))]) (hS : va_S A s.heap H locs) (ls : Array Slot) (hl : lv_has ls 6 [(4, .long (v22)), (2, .long (v13)), (0, .ref h0)]), W p l e (headSpec w_V_turnBytes ({ frames := 5, cells := 0, slots := 0, locals := 150 } : Room)).room s m ([.ref h0, .int (p1)] : List Value).toArray below meth c H locs 0 0 (MQ below (va_Qv (fun _ : Unit => True) (mB (dC, dI) A [(h0, vE (f_V_turnBytes z0 p1))]) A) ([.ref h0, .int (p1)] : List Value).toArray s 0 0 A) (F0 m 28 ls []) := by
    intro v22 v13 g25 hj H locs hP hD hS ls hl
    refine lv_aload_n hx hb d_V_turnBytes_28 rfl (lv_at hl 2 rfl) ?_
    refine lv_lload_n hx hb d_V_turnBytes_29 rfl (lv_at hl 1 rfl) ?_
    refine lv_lload hx hb d_V_turnBytes_30 (lv_at hl 0 rfl) ?_
    refine mg_v (F := f_V_sayBits g25 v13 v22) (wc := [(h0, vE g25)]) (w1 := fun g32 => [(h0, vE g32)]) (wr := []) (ws' := fun g32 => [(h0, .inr (0, [.long (g32.1), .long (g32.2.1), .long (g32.2.2.1), .long (g32.2.2.2.1), .long (g32.2.2.2.2.1), .long (g32.2.2.2.2.2.1), .int (bI g32.2.2.2.2.2.2)]))]) (va_runV (As := [.long (v13), .long (v22)]) (rest := []) ⟨hx, hb, hml, hown, hts⟩ (c_V_sayBits l dC dI h0 H.size g25 v13 v22) (cwV 2 hts (gV gw79 gw80 gw81 gw1 gw82) rfl rfl rfl (by decide +kernel) ⟨(Nat.le_of_ble_eq_true rfl), (Nat.le_of_ble_eq_true rfl)⟩) ⟨blm, va_recv hK hP (ci := 0) (q0 := 0) rfl rfl, fun U hU hW => ⟨rfl, by rw [hU], by rw [hU]; exact hP.sub [0] rfl, va_K.moved hW.alike hK, (hD.sub [0] (by decide) rfl).weaken (fun _ _ _ _ => trivial)⟩⟩ rfl rfl hl.1 rfl (lv_room (Nat.le_of_ble_eq_true rfl)) d_V_turnBytes_32 ⟨Nat.zero_le _, Nat.zero_le _⟩) hP hD hS hA [0] [] [0] rfl rfl (by decide) (by decide) (fun _ => rfl) (by decide) (fun g32 eg32 H locs hP hD hS => ?_)
    refine K32g g32 (Eq.trans (hj.trans rfl) (congrArg (fun g32 => f_V_turnBytes_32g z0 p1 g32) eg32)) H locs ?_ ?_ hS ls (lv_sub hl [2] rfl)
    · with_reducible exact hP
    · with_reducible exact hD
  have K22v : ∀ (v22 : Int64) (v13 : Int64) (g2 : VV) (hj : f_V_turnBytes z0 p1 = f_V_turnBytes_22v z0 p1 v22 v13 g2) (H : Heap) (locs : List Loc) (hP : va_P (dC, dI) classes [(h0, .inr (0, [.long (g2.1), .long (g2.2.1), .long (g2.2.2.1), .long (g2.2.2.2.1), .long (g2.2.2.2.2.1), .long (g2.2.2.2.2.2.1), .int (bI g2.2.2.2.2.2.2)]))] H) (hD : va_D A [(h0, .inr (0, [.long (g2.1), .long (g2.2.1), .long (g2.2.2.1), .long (g2.2.2.2.1), .long (g2.2.2.2.2.1), .long (g2.2.2.2.2.2.1), .int (bI g2.2.2.2.2.2.2)]))]) (hS : va_S A s.heap H locs) (ls : Array Slot) (hl : lv_has ls 6 [(4, .long (v22)), (2, .long (v13)), (0, .ref h0)]), W p l e (headSpec w_V_turnBytes ({ frames := 5, cells := 0, slots := 0, locals := 150 } : Room)).room s m ([.ref h0, .int (p1)] : List Value).toArray below meth c H locs 0 0 (MQ below (va_Qv (fun _ : Unit => True) (mB (dC, dI) A [(h0, vE (f_V_turnBytes z0 p1))]) A) ([.ref h0, .int (p1)] : List Value).toArray s 0 0 A) (F0 m 24 ls []) := by
    intro v22 v13 g2 hj H locs hP hD hS ls hl
    refine lv_aload_n hx hb d_V_turnBytes_24 rfl (lv_at hl 2 rfl) ?_
    refine mg_v (F := f_V_sayAll g2) (wc := [(h0, vE g2)]) (w1 := fun g25 => [(h0, vE g25)]) (wr := []) (ws' := fun g25 => [(h0, .inr (0, [.long (g25.1), .long (g25.2.1), .long (g25.2.2.1), .long (g25.2.2.2.1), .long (g25.2.2.2.2.1), .long (g25.2.2.2.2.2.1), .int (bI g25.2.2.2.2.2.2)]))]) (va_runV (As := []) (rest := []) ⟨hx, hb, hml, hown, hts⟩ (c_V_sayAll l dC dI h0 H.size g2) (cwV 0 hts (gV gw179 gw75 gw76 gw1 gw77) rfl rfl rfl (by decide +kernel) ⟨(Nat.le_of_ble_eq_true rfl), (Nat.le_of_ble_eq_true rfl)⟩) ⟨blm, va_recv hK hP (ci := 0) (q0 := 0) rfl rfl, fun U hU hW => ⟨rfl, by rw [hU], by rw [hU]; exact hP.sub [0] rfl, va_K.moved hW.alike hK, (hD.sub [0] (by decide) rfl).weaken (fun _ _ _ _ => trivial)⟩⟩ rfl rfl hl.1 rfl (lv_room (Nat.le_of_ble_eq_true rfl)) d_V_turnBytes_25 ⟨Nat.zero_le _, Nat.zero_le _⟩) hP hD hS hA [0] [] [0] rfl rfl (by decide) (by decide) (fun _ => rfl) (by decide) (fun g25 eg25 H locs hP hD hS => ?_)
    refine K25g v22 v13 g25 (Eq.trans (hj.trans rfl) (congrArg (fun g25 => f_V_turnBytes_25g z0 p1 v22 v13 g25) eg25)) H locs ?_ ?_ hS ls (lv_sub hl [0, 1, 2] rfl)
    · with_reducible exact hP
    · with_reducible exact hD
  have K13v : ∀ (v13 : Int64) (g2 : VV) (hj : f_V_turnBytes z0 p1 = f_V_turnBytes_13v z0 p1 v13 g2) (H : Heap) (locs : List Loc) (hP : va_P (dC, dI) classes [(h0, .inr (0, [.long (g2.1), .long (g2.2.1), .long (g2.2.2.1), .long (g2.2.2.2.1), .long (g2.2.2.2.2.1), .long (g2.2.2.2.2.2.1), .int (bI g2.2.2.2.2.2.2)]))] H) (hD : va_D A [(h0, .inr (0, [.long (g2.1), .long (g2.2.1), .long (g2.2.2.1), .long (g2.2.2.2.1), .long (g2.2.2.2.2.1), .long (g2.2.2.2.2.2.1), .int (bI g2.2.2.2.2.2.2)]))]) (hS : va_S A s.heap H locs) (ls : Array Slot) (hl : lv_has ls 6 [(2, .long (v13)), (0, .ref h0), (1, .int (p1))]), W p l e (headSpec w_V_turnBytes ({ frames := 5, cells := 0, slots := 0, locals := 150 } : Room)).room s m ([.ref h0, .int (p1)] : List Value).toArray below meth c H locs 0 0 (MQ below (va_Qv (fun _ : Unit => True) (mB (dC, dI) A [(h0, vE (f_V_turnBytes z0 p1))]) A) ([.ref h0, .int (p1)] : List Value).toArray s 0 0 A) (F0 m 14 ls []) := by
    intro v13 g2 hj H locs hP hD hS ls hl
    refine lv_aload_n hx hb d_V_turnBytes_14 rfl (lv_at hl 1 rfl) ?_
    refine va_get (D := (dC, dI)) (ci := 0) (v := .long (g2.2.1)) (C := R_V) (T := F_V) (N := 7) hx hb hts (fun w h => List.mem_cons_of_mem _ (uw_V w h)) hown hK hP 0 rfl rfl 1 (by decide) (hG (.fieldLink R_V 13 "ValueSieve$Value" "unknown" "J") gw21) (fun _ h9 => h9) rfl d_V_turnBytes_15 ?_
    refine lv_iload_n hx hb d_V_turnBytes_18 rfl (lv_at hl 2 rfl) ?_
    refine rc_l (W.runS (As := [.long (g2.2.1), .int (p1)]) (rest := []) ⟨hx, hb, hml, hown, hts⟩ (c_N_turned l g2.2.1 p1) (va_cwS 2 hts (gS gw275 gw276 gw2 gw277) rfl rfl rfl (by decide +kernel) ⟨(Nat.le_of_ble_eq_true rfl), (Nat.le_of_ble_eq_true rfl)⟩) ⟨bl0, fun U hU hW => ⟨rfl, trivial⟩⟩ rfl rfl hl.1 rfl (lv_room (Nat.le_of_ble_eq_true rfl)) d_V_turnBytes_19 ⟨Nat.zero_le _, Nat.zero_le _⟩) ?_
    refine lv_topl (fun v22 ev22 => ?_)
    refine lv_lstore (lv' := [(4, .long (v22)), (2, .long (v13)), (0, .ref h0), (1, .int (p1))]) hx hb d_V_turnBytes_22 hl (by decide) rfl (fun ls hl => ?_)
    refine K22v v22 v13 g2 (Eq.trans (hj.trans rfl) (congrArg (fun v22 => f_V_turnBytes_22v z0 p1 v22 v13 g2) ev22.symm)) H locs ?_ ?_ hS ls (lv_sub hl [0, 1, 2] rfl)
    · with_reducible exact hP
    · with_reducible exact hD
  have K2g : ∀ (g2 : VV) (hj : f_V_turnBytes z0 p1 = f_V_turnBytes_2g z0 p1 g2) (H : Heap) (locs : List Loc) (hP : va_P (dC, dI) classes [(h0, .inr (0, [.long (g2.1), .long (g2.2.1), .long (g2.2.2.1), .long (g2.2.2.2.1), .long (g2.2.2.2.2.1), .long (g2.2.2.2.2.2.1), .int (bI g2.2.2.2.2.2.2)]))] H) (hD : va_D A [(h0, .inr (0, [.long (g2.1), .long (g2.2.1), .long (g2.2.2.1), .long (g2.2.2.2.1), .long (g2.2.2.2.2.1), .long (g2.2.2.2.2.2.1), .int (bI g2.2.2.2.2.2.2)]))]) (hS : va_S A s.heap H locs) (ls : Array Slot) (hl : lv_has ls 6 [(0, .ref h0), (1, .int (p1))]), W p l e (headSpec w_V_turnBytes ({ frames := 5, cells := 0, slots := 0, locals := 150 } : Room)).room s m ([.ref h0, .int (p1)] : List Value).toArray below meth c H locs 0 0 (MQ below (va_Qv (fun _ : Unit => True) (mB (dC, dI) A [(h0, vE (f_V_turnBytes z0 p1))]) A) ([.ref h0, .int (p1)] : List Value).toArray s 0 0 A) (F0 m 5 ls []) := by
    intro g2 hj H locs hP hD hS ls hl
    refine lv_aload_n hx hb d_V_turnBytes_5 rfl (lv_at hl 0 rfl) ?_
    refine va_get (D := (dC, dI)) (ci := 0) (v := .long (g2.1)) (C := R_V) (T := F_V) (N := 7) hx hb hts (fun w h => List.mem_cons_of_mem _ (uw_V w h)) hown hK hP 0 rfl rfl 0 (by decide) (hG (.fieldLink R_V 7 "ValueSieve$Value" "bits" "J") gw18) (fun _ h9 => h9) rfl d_V_turnBytes_6 ?_
    refine lv_iload_n hx hb d_V_turnBytes_9 rfl (lv_at hl 1 rfl) ?_
    refine rc_l (W.runS (As := [.long (g2.1), .int (p1)]) (rest := []) ⟨hx, hb, hml, hown, hts⟩ (c_N_turned l g2.1 p1) (va_cwS 2 hts (gS gw275 gw276 gw2 gw277) rfl rfl rfl (by decide +kernel) ⟨(Nat.le_of_ble_eq_true rfl), (Nat.le_of_ble_eq_true rfl)⟩) ⟨bl0, fun U hU hW => ⟨rfl, trivial⟩⟩ rfl rfl hl.1 rfl (lv_room (Nat.le_of_ble_eq_true rfl)) d_V_turnBytes_10 ⟨Nat.zero_le _, Nat.zero_le _⟩) ?_
    refine lv_topl (fun v13 ev13 => ?_)
    refine lv_lstore_n (lv' := [(2, .long (v13)), (0, .ref h0), (1, .int (p1))]) hx hb d_V_turnBytes_13 rfl hl (by decide) rfl (fun ls hl => ?_)
    refine K13v v13 g2 (Eq.trans (hj.trans rfl) (congrArg (fun v13 => f_V_turnBytes_13v z0 p1 v13 g2) ev13.symm)) H locs ?_ ?_ hS ls (lv_sub hl [0, 1, 2] rfl)
    · with_reducible exact hP
    · with_reducible exact hD
  refine lv_aload_n hx hb d_V_turnBytes_0 rfl (lv_at hl 0 rfl) ?_
  refine lv_iload_n hx hb d_V_turnBytes_1 rfl (lv_at hl 1 rfl) ?_
  refine mg_v (F := f_V_trim z0 p1) (wc := [(h0, vE z0)]) (w1 := fun g2 => [(h0, vE g2)]) (wr := []) (ws' := fun g2 => [(h0, .inr (0, [.long (g2.1), .long (g2.2.1), .long (g2.2.2.1), .long (g2.2.2.2.1), .long (g2.2.2.2.2.1), .long (g2.2.2.2.2.2.1), .int (bI g2.2.2.2.2.2.2)]))]) (va_runV (As := [.int (p1)]) (rest := []) ⟨hx, hb, hml, hown, hts⟩ (c_V_trim l dC dI h0 s.heap.size z0 p1) (cwV 1 hts (gV gw174 gw175 gw176 gw1 gw177) rfl rfl rfl (by decide +kernel) ⟨(Nat.le_of_ble_eq_true rfl), (Nat.le_of_ble_eq_true rfl)⟩) ⟨blm, va_recv hK hP (ci := 0) (q0 := 0) rfl rfl, fun U hU hW => ⟨rfl, by rw [hU], by rw [hU]; exact hP.sub [0] rfl, va_K.moved hW.alike hK, (hD.sub [0] (by decide) rfl).weaken (fun _ _ _ _ => trivial)⟩⟩ rfl rfl hl.1 rfl (lv_room (Nat.le_of_ble_eq_true rfl)) d_V_turnBytes_2 ⟨Nat.zero_le _, Nat.zero_le _⟩) hP hD hS hA [0] [] [0] rfl rfl (by decide) (by decide) (fun _ => rfl) (by decide) (fun g2 eg2 H locs hP hD hS => ?_)
  refine K2g g2 (Eq.trans (rfl) (congrArg (fun g2 => f_V_turnBytes_2g z0 p1 g2) eg2)) H locs ?_ ?_ hS ls (lv_sub hl [0, 1] rfl)
  · with_reducible exact hP
  · with_reducible exact hD
-- Value.<init>
theorem d_V_init_0 : decode b_V_init 0 = .ok (.aload_n 0, 1) := by decide +kernel
theorem d_V_init_1 : decode b_V_init 1 = .ok (.invokespecial 1, 3) := by decide +kernel
theorem d_V_init_4 : decode b_V_init 4 = .ok (.aload_n 0, 1) := by decide +kernel
theorem d_V_init_5 : decode b_V_init 5 = .ok (.lconst 0, 1) := by decide +kernel
theorem d_V_init_6 : decode b_V_init 6 = .ok (.putfield 7, 3) := by decide +kernel
theorem d_V_init_9 : decode b_V_init 9 = .ok (.aload_n 0, 1) := by decide +kernel
theorem d_V_init_10 : decode b_V_init 10 = .ok (.lconst 0, 1) := by decide +kernel
theorem d_V_init_11 : decode b_V_init 11 = .ok (.putfield 13, 3) := by decide +kernel
theorem d_V_init_14 : decode b_V_init 14 = .ok (.aload_n 0, 1) := by decide +kernel
theorem d_V_init_15 : decode b_V_init 15 = .ok (.lconst 0, 1) := by decide +kernel
theorem d_V_init_16 : decode b_V_init 16 = .ok (.putfield 16, 3) := by decide +kernel
theorem d_V_init_19 : decode b_V_init 19 = .ok (.aload_n 0, 1) := by decide +kernel
theorem d_V_init_20 : decode b_V_init 20 = .ok (.lconst 0, 1) := by decide +kernel
theorem d_V_init_21 : decode b_V_init 21 = .ok (.putfield 19, 3) := by decide +kernel
theorem d_V_init_24 : decode b_V_init 24 = .ok (.aload_n 0, 1) := by decide +kernel
theorem d_V_init_25 : decode b_V_init 25 = .ok (.lconst 0, 1) := by decide +kernel
theorem d_V_init_26 : decode b_V_init 26 = .ok (.putfield 22, 3) := by decide +kernel
theorem d_V_init_29 : decode b_V_init 29 = .ok (.aload_n 0, 1) := by decide +kernel
theorem d_V_init_30 : decode b_V_init 30 = .ok (.lconst 0, 1) := by decide +kernel
theorem d_V_init_31 : decode b_V_init 31 = .ok (.putfield 25, 3) := by decide +kernel
theorem d_V_init_34 : decode b_V_init 34 = .ok (.aload_n 0, 1) := by decide +kernel
theorem d_V_init_35 : decode b_V_init 35 = .ok (.iconst 0, 1) := by decide +kernel
theorem d_V_init_36 : decode b_V_init 36 = .ok (.putfield 28, 3) := by decide +kernel
theorem d_V_init_39 : decode b_V_init 39 = .ok (.return_, 1) := by decide +kernel
def f_V_init (z0 : VV) : VV := ((0, 0, 0, 0, 0, 0, false))
set_option maxRecDepth 100000 in
set_option maxHeartbeats 4000000 in
theorem c_V_init (l : Launch) (dC : Nat → ClassId) (dI : Nat → Nat → Nat) (h0 : Nat) (sz : Nat) (z0 : VV) : Met l y_V_init w_V_init ({ frames := 1, cells := 0, slots := 0, locals := 20 } : Room) (va_Pc [.ref h0] (mP (dC, dI) [(h0, vE z0)] sz)) (va_Qv (fun _ : Unit => True) (mB (dC, dI) (va_A [(h0, vE z0)] sz) [(h0, vE (f_V_init z0))]) (va_A [(h0, vE z0)] sz)) 0 0 (va_A [(h0, vE z0)] sz) := by
  refine Met.ofW (cc := b_V_init) (maxL := 1) (ret := none) (by decide) rfl ?_
  intro p e s m args below meth c s₁ B hml hv
  obtain ⟨rfl, hsz, hP, hK, hD0⟩ := hv
  have hx := B.exec
  have hb := B.bytes
  have hr := B.returns
  have hts := atoms_spec (ws := w_V_init) B.pre
  have hG : ∀ w ∈ gG, w.before _ s = true := fun w h => hts w (List.mem_cons_of_mem _ h)
  have hown : s.vm.findClass R_V = some m.cls := findClass_of_methodNamed B.named
  have hlocks := B.notSynchronized
  have hin : meth.name = "<init>" := (name_of_methodNamed B.named B.method).1
  subst hsz
  have hD := hD0.self (sz := s.heap.size)
  generalize hAe : va_A [(h0, vE z0)] s.heap.size = A at hD ⊢
  have hA : ∀ q : Nat, s.heap.size ≤ q → A q := fun q h => by rw [← hAe]; exact Or.inr h
  have hS : va_S A s.heap s.heap [] := va_S.rf
  have hP : va_P (dC, dI) classes [(h0, .inr (0, [.long (z0.1), .long (z0.2.1), .long (z0.2.2.1), .long (z0.2.2.2.1), .long (z0.2.2.2.2.1), .long (z0.2.2.2.2.2.1), .int (bI z0.2.2.2.2.2.2)]))] s.heap := hP
  have hD : va_D A [(h0, .inr (0, [.long (z0.1), .long (z0.2.1), .long (z0.2.2.1), .long (z0.2.2.2.1), .long (z0.2.2.2.2.1), .long (z0.2.2.2.2.2.1), .int (bI z0.2.2.2.2.2.2)]))] := hD
  have hl := lv_entry ([.ref h0]) (n := 1) (Nat.le_of_ble_eq_true rfl)
  rw [lg_entry_eq]
  generalize (lg_sl ([.ref h0]) ++ List.replicate (1 - (lg_sl ([.ref h0])).length) Slot.unset).toArray = ls at hl ⊢
  have hl : lv_has ls 1 [(0, .ref h0)] := hl
  refine lv_aload_n hx hb d_V_init_0 rfl (lv_at hl 0 rfl) ?_
  refine W.objInit hx hb hown (hG (.methodLink R_V 1 objectInit) gw17) (hG (.instanceMethod objectInit) gw11) (hG (.code objectInit ⟨#[0xb1]⟩ 1 none) gw12) rfl (by rw [hml]; exact hl.1) rfl d_V_init_1 (Nat.le_of_ble_eq_true rfl) (Nat.le_of_ble_eq_true rfl) ?_
  refine W.eq (g2 := F0 m 4 ls []) rfl ?_
  refine lv_aload_n hx hb d_V_init_4 rfl (lv_at hl 0 rfl) ?_
  refine lv_lconst (v := 0) hx hb d_V_init_5 (by decide) ?_
  refine va_put (D := (dC, dI)) (ci := 0) (v := .long (0)) (ty := .long) (C := R_V) (T := F_V) (N := 7) hx hb hts (fun w h => List.mem_cons_of_mem _ (uw_V w h)) t_V t_V_ok n_V hown hK hP hD hS 0 rfl rfl 0 (by decide) (hG (.fieldLink R_V 7 "ValueSieve$Value" "bits" "J") gw18) (fun _ h9 => h9) rfl (by decide +kernel) rfl rfl (Nat.le_of_ble_eq_true rfl) d_V_init_6 (fun H locs hP hD hS => ?_)
  have hP : va_P (dC, dI) classes [(h0, .inr (0, [.long (0), .long (z0.2.1), .long (z0.2.2.1), .long (z0.2.2.2.1), .long (z0.2.2.2.2.1), .long (z0.2.2.2.2.2.1), .int (bI z0.2.2.2.2.2.2)]))] H := hP
  have hD : va_D A [(h0, .inr (0, [.long (0), .long (z0.2.1), .long (z0.2.2.1), .long (z0.2.2.2.1), .long (z0.2.2.2.2.1), .long (z0.2.2.2.2.2.1), .int (bI z0.2.2.2.2.2.2)]))] := hD
  refine lv_aload_n hx hb d_V_init_9 rfl (lv_at hl 0 rfl) ?_
  refine lv_lconst (v := 0) hx hb d_V_init_10 (by decide) ?_
  refine va_put (D := (dC, dI)) (ci := 0) (v := .long (0)) (ty := .long) (C := R_V) (T := F_V) (N := 7) hx hb hts (fun w h => List.mem_cons_of_mem _ (uw_V w h)) t_V t_V_ok n_V hown hK hP hD hS 0 rfl rfl 1 (by decide) (hG (.fieldLink R_V 13 "ValueSieve$Value" "unknown" "J") gw21) (fun _ h9 => h9) rfl (by decide +kernel) rfl rfl (Nat.le_of_ble_eq_true rfl) d_V_init_11 (fun H locs hP hD hS => ?_)
  have hP : va_P (dC, dI) classes [(h0, .inr (0, [.long (0), .long (0), .long (z0.2.2.1), .long (z0.2.2.2.1), .long (z0.2.2.2.2.1), .long (z0.2.2.2.2.2.1), .int (bI z0.2.2.2.2.2.2)]))] H := hP
  have hD : va_D A [(h0, .inr (0, [.long (0), .long (0), .long (z0.2.2.1), .long (z0.2.2.2.1), .long (z0.2.2.2.2.1), .long (z0.2.2.2.2.2.1), .int (bI z0.2.2.2.2.2.2)]))] := hD
  refine lv_aload_n hx hb d_V_init_14 rfl (lv_at hl 0 rfl) ?_
  refine lv_lconst (v := 0) hx hb d_V_init_15 (by decide) ?_
  refine va_put (D := (dC, dI)) (ci := 0) (v := .long (0)) (ty := .long) (C := R_V) (T := F_V) (N := 7) hx hb hts (fun w h => List.mem_cons_of_mem _ (uw_V w h)) t_V t_V_ok n_V hown hK hP hD hS 0 rfl rfl 2 (by decide) (hG (.fieldLink R_V 16 "ValueSieve$Value" "low" "J") gw25) (fun _ h9 => h9) rfl (by decide +kernel) rfl rfl (Nat.le_of_ble_eq_true rfl) d_V_init_16 (fun H locs hP hD hS => ?_)
  have hP : va_P (dC, dI) classes [(h0, .inr (0, [.long (0), .long (0), .long (0), .long (z0.2.2.2.1), .long (z0.2.2.2.2.1), .long (z0.2.2.2.2.2.1), .int (bI z0.2.2.2.2.2.2)]))] H := hP
  have hD : va_D A [(h0, .inr (0, [.long (0), .long (0), .long (0), .long (z0.2.2.2.1), .long (z0.2.2.2.2.1), .long (z0.2.2.2.2.2.1), .int (bI z0.2.2.2.2.2.2)]))] := hD
  refine lv_aload_n hx hb d_V_init_19 rfl (lv_at hl 0 rfl) ?_
  refine lv_lconst (v := 0) hx hb d_V_init_20 (by decide) ?_
  refine va_put (D := (dC, dI)) (ci := 0) (v := .long (0)) (ty := .long) (C := R_V) (T := F_V) (N := 7) hx hb hts (fun w h => List.mem_cons_of_mem _ (uw_V w h)) t_V t_V_ok n_V hown hK hP hD hS 0 rfl rfl 3 (by decide) (hG (.fieldLink R_V 19 "ValueSieve$Value" "high" "J") gw29) (fun _ h9 => h9) rfl (by decide +kernel) rfl rfl (Nat.le_of_ble_eq_true rfl) d_V_init_21 (fun H locs hP hD hS => ?_)
  have hP : va_P (dC, dI) classes [(h0, .inr (0, [.long (0), .long (0), .long (0), .long (0), .long (z0.2.2.2.2.1), .long (z0.2.2.2.2.2.1), .int (bI z0.2.2.2.2.2.2)]))] H := hP
  have hD : va_D A [(h0, .inr (0, [.long (0), .long (0), .long (0), .long (0), .long (z0.2.2.2.2.1), .long (z0.2.2.2.2.2.1), .int (bI z0.2.2.2.2.2.2)]))] := hD
  refine lv_aload_n hx hb d_V_init_24 rfl (lv_at hl 0 rfl) ?_
  refine lv_lconst (v := 0) hx hb d_V_init_25 (by decide) ?_
  refine va_put (D := (dC, dI)) (ci := 0) (v := .long (0)) (ty := .long) (C := R_V) (T := F_V) (N := 7) hx hb hts (fun w h => List.mem_cons_of_mem _ (uw_V w h)) t_V t_V_ok n_V hown hK hP hD hS 0 rfl rfl 4 (by decide) (hG (.fieldLink R_V 22 "ValueSieve$Value" "least" "J") gw33) (fun _ h9 => h9) rfl (by decide +kernel) rfl rfl (Nat.le_of_ble_eq_true rfl) d_V_init_26 (fun H locs hP hD hS => ?_)
  have hP : va_P (dC, dI) classes [(h0, .inr (0, [.long (0), .long (0), .long (0), .long (0), .long (0), .long (z0.2.2.2.2.2.1), .int (bI z0.2.2.2.2.2.2)]))] H := hP
  have hD : va_D A [(h0, .inr (0, [.long (0), .long (0), .long (0), .long (0), .long (0), .long (z0.2.2.2.2.2.1), .int (bI z0.2.2.2.2.2.2)]))] := hD
  refine lv_aload_n hx hb d_V_init_29 rfl (lv_at hl 0 rfl) ?_
  refine lv_lconst (v := 0) hx hb d_V_init_30 (by decide) ?_
  refine va_put (D := (dC, dI)) (ci := 0) (v := .long (0)) (ty := .long) (C := R_V) (T := F_V) (N := 7) hx hb hts (fun w h => List.mem_cons_of_mem _ (uw_V w h)) t_V t_V_ok n_V hown hK hP hD hS 0 rfl rfl 5 (by decide) (hG (.fieldLink R_V 25 "ValueSieve$Value" "greatest" "J") gw37) (fun _ h9 => h9) rfl (by decide +kernel) rfl rfl (Nat.le_of_ble_eq_true rfl) d_V_init_31 (fun H locs hP hD hS => ?_)
  have hP : va_P (dC, dI) classes [(h0, .inr (0, [.long (0), .long (0), .long (0), .long (0), .long (0), .long (0), .int (bI z0.2.2.2.2.2.2)]))] H := hP
  have hD : va_D A [(h0, .inr (0, [.long (0), .long (0), .long (0), .long (0), .long (0), .long (0), .int (bI z0.2.2.2.2.2.2)]))] := hD
  refine lv_aload_n hx hb d_V_init_34 rfl (lv_at hl 0 rfl) ?_
  refine lv_iconst (v := 0) hx hb d_V_init_35 (by decide) ?_
  refine va_put (D := (dC, dI)) (ci := 0) (v := .int (bI false)) (ty := .boolean) (C := R_V) (T := F_V) (N := 7) hx hb hts (fun w h => List.mem_cons_of_mem _ (uw_V w h)) t_V t_V_ok n_V hown hK hP hD hS 0 rfl rfl 6 (by decide) (hG (.fieldLink R_V 28 "ValueSieve$Value" "nothing" "Z") gw41) (fun _ h9 => h9) rfl (by decide +kernel) (bI_n false) (bI_f false) (Nat.le_of_ble_eq_true rfl) d_V_init_36 (fun H locs hP hD hS => ?_)
  have hP : va_P (dC, dI) classes [(h0, .inr (0, [.long (0), .long (0), .long (0), .long (0), .long (0), .long (0), .int (bI false)]))] H := hP
  have hD : va_D A [(h0, .inr (0, [.long (0), .long (0), .long (0), .long (0), .long (0), .long (0), .int (bI false)]))] := hD
  have fe : f_V_init z0 = ((0, 0, 0, 0, 0, 0, false)) := rfl
  exact W.vret hx hb hr (fun t ht hW => ⟨⟨(), rfl, trivial, by rw [ht, fe]; (try simp only [vE_mk]); exact hP, by rw [fe]; (try simp only [vE_mk]); exact hD⟩, hS.F ht⟩) hS.2.2 d_V_init_39
