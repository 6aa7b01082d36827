-- lowest
theorem d_M_lowest_0 : decode b_M_lowest 0 = .ok (.iconst 0, 1) := by decide +kernel
theorem d_M_lowest_1 : decode b_M_lowest 1 = .ok (.istore_n 3, 1) := by decide +kernel
theorem d_M_lowest_2 : decode b_M_lowest 2 = .ok (.iload_n 3, 1) := by decide +kernel
theorem d_M_lowest_3 : decode b_M_lowest 3 = .ok (.bipush 64, 2) := by decide +kernel
theorem d_M_lowest_5 : decode b_M_lowest 5 = .ok (.if_icmp .ge 43, 3) := by decide +kernel
theorem d_M_lowest_8 : decode b_M_lowest 8 = .ok (.aload_n 0, 1) := by decide +kernel
theorem d_M_lowest_9 : decode b_M_lowest 9 = .ok (.getfield 13, 3) := by decide +kernel
theorem d_M_lowest_12 : decode b_M_lowest 12 = .ok (.iload_n 1, 1) := by decide +kernel
theorem d_M_lowest_13 : decode b_M_lowest 13 = .ok (.laload, 1) := by decide +kernel
theorem d_M_lowest_14 : decode b_M_lowest 14 = .ok (.iload_n 3, 1) := by decide +kernel
theorem d_M_lowest_15 : decode b_M_lowest 15 = .ok (.lushr, 1) := by decide +kernel
theorem d_M_lowest_16 : decode b_M_lowest 16 = .ok (.lconst 1, 1) := by decide +kernel
theorem d_M_lowest_17 : decode b_M_lowest 17 = .ok (.land, 1) := by decide +kernel
theorem d_M_lowest_18 : decode b_M_lowest 18 = .ok (.lconst 0, 1) := by decide +kernel
theorem d_M_lowest_19 : decode b_M_lowest 19 = .ok (.lcmp, 1) := by decide +kernel
theorem d_M_lowest_20 : decode b_M_lowest 20 = .ok (.ifCond .ne 28, 3) := by decide +kernel
theorem d_M_lowest_23 : decode b_M_lowest 23 = .ok (.iload_n 2, 1) := by decide +kernel
theorem d_M_lowest_24 : decode b_M_lowest 24 = .ok (.ifCond .eq 18, 3) := by decide +kernel
theorem d_M_lowest_27 : decode b_M_lowest 27 = .ok (.aload_n 0, 1) := by decide +kernel
theorem d_M_lowest_28 : decode b_M_lowest 28 = .ok (.getfield 7, 3) := by decide +kernel
theorem d_M_lowest_31 : decode b_M_lowest 31 = .ok (.iload_n 1, 1) := by decide +kernel
theorem d_M_lowest_32 : decode b_M_lowest 32 = .ok (.laload, 1) := by decide +kernel
theorem d_M_lowest_33 : decode b_M_lowest 33 = .ok (.iload_n 3, 1) := by decide +kernel
theorem d_M_lowest_34 : decode b_M_lowest 34 = .ok (.lushr, 1) := by decide +kernel
theorem d_M_lowest_35 : decode b_M_lowest 35 = .ok (.lconst 1, 1) := by decide +kernel
theorem d_M_lowest_36 : decode b_M_lowest 36 = .ok (.land, 1) := by decide +kernel
theorem d_M_lowest_37 : decode b_M_lowest 37 = .ok (.lconst 0, 1) := by decide +kernel
theorem d_M_lowest_38 : decode b_M_lowest 38 = .ok (.lcmp, 1) := by decide +kernel
theorem d_M_lowest_39 : decode b_M_lowest 39 = .ok (.ifCond .ne 9, 3) := by decide +kernel
theorem d_M_lowest_42 : decode b_M_lowest 42 = .ok (.iinc 3 1, 3) := by decide +kernel
theorem d_M_lowest_45 : decode b_M_lowest 45 = .ok (.goto (-43), 3) := by decide +kernel
theorem d_M_lowest_48 : decode b_M_lowest 48 = .ok (.iload_n 3, 1) := by decide +kernel
theorem d_M_lowest_49 : decode b_M_lowest 49 = .ok (.ireturn, 1) := by decide +kernel
def f_M_lowest_48 (r0 : (Nat → VV)) (p1 : Nat) (p2 : Bool) (x2_3 : Int32) : Int32 := x2_3
def f_M_lowest_42 (r0 : (Nat → VV)) (p1 : Nat) (p2 : Bool) (x2_3 : Int32) (k2 : Int32 → Int32) : Int32 := k2 (x2_3 + 1)
def f_M_lowest_2 (r0 : (Nat → VV)) (p1 : Nat) (p2 : Bool) : Nat → Int32 → Int32
  | 0, _ => default
  | n2 + 1, x2_3 => (if 64 ≤ x2_3 then f_M_lowest_48 r0 p1 p2 x2_3 else (if (((((r0 p1).2.1).toUInt64 >>> (x2_3.toInt64.toUInt64 &&& Int64.toUInt64 63)).toInt64) &&& (1 : Int64)) = 0 then (if p2 = true then (if (((((r0 p1).1).toUInt64 >>> (x2_3.toInt64.toUInt64 &&& Int64.toUInt64 63)).toInt64) &&& (1 : Int64)) = 0 then f_M_lowest_42 r0 p1 p2 x2_3 (fun y0 => f_M_lowest_2 r0 p1 p2 n2 y0) else f_M_lowest_48 r0 p1 p2 x2_3) else f_M_lowest_42 r0 p1 p2 x2_3 (fun y0 => f_M_lowest_2 r0 p1 p2 n2 y0)) else f_M_lowest_48 r0 p1 p2 x2_3))
def f_M_lowest (r0 : (Nat → VV)) (p1 : Nat) (p2 : Bool) : Int32 := f_M_lowest_2 r0 p1 p2 65 0
set_option maxRecDepth 100000 in
set_option maxHeartbeats 4000000 in
theorem c_M_lowest (l : Launch) (dC : Nat → ClassId) (dI : Nat → Nat → Nat) (ad : Nat → Nat) (cJ cZ : ClassId) (c0 : Int32) (r0 : (Nat → VV)) (w0 : (Nat → Int64)) (s0 : Int32) (p1 : Nat) (p2 : Bool) (b1 : p1 < 24) : Met l y_M_lowest w_M_lowest ({ frames := 0, cells := 0, slots := 0, locals := 0 } : Room) (va_Pc [.ref (ad 0), .int (nI p1), .int (bI p2)] (nR (dC, dI) (mT cJ cZ) (mW ad cJ cZ c0 r0 w0 s0))) (vp_Si (fun r => r = (f_M_lowest r0 p1 p2))) 0 0 (fun _ => False) := by
  refine Met.ofW (cc := b_M_lowest) (maxL := 4) (ret := (some .int)) (by decide) rfl ?_
  intro p e s m args below meth c s₁ B hml hv
  obtain ⟨rfl, hP, hK⟩ := hv
  have hx := B.exec
  have hb := B.bytes
  have hr := B.returns
  have hts := atoms_spec (ws := w_M_lowest) B.pre
  have hG : ∀ w ∈ gM, w.before _ s = true := fun w h => hts w (List.mem_cons_of_mem _ h)
  have hown : s.vm.findClass R_M = some m.cls := findClass_of_methodNamed B.named
  have hlocks := B.notSynchronized
  have hl := lv_entry ([.ref (ad 0), .int (nI p1), .int (bI p2)]) (n := 4) (Nat.le_of_ble_eq_true rfl)
  rw [lg_entry_eq]
  generalize (lg_sl ([.ref (ad 0), .int (nI p1), .int (bI p2)]) ++ List.replicate (4 - (lg_sl ([.ref (ad 0), .int (nI p1), .int (bI p2)])).length) Slot.unset).toArray = ls at hl ⊢
  have hl : lv_has ls 4 [(0, .ref (ad 0)), (1, .int (nI p1)), (2, .int (bI p2))] := hl
  have K48 : ∀ (x2_3 : Int32) (hj : f_M_lowest r0 p1 p2 = f_M_lowest_48 r0 p1 p2 x2_3) (ls : Array Slot) (hl : lv_has ls 4 [(3, .int (x2_3))]), W p l e (headSpec w_M_lowest ({ frames := 0, cells := 0, slots := 0, locals := 0 } : Room)).room s m ([.ref (ad 0), .int (nI p1), .int (bI p2)] : List Value).toArray below meth c s.heap [] 0 0 (MQ below (vp_Si (fun r => r = (f_M_lowest r0 p1 p2))) ([.ref (ad 0), .int (nI p1), .int (bI p2)] : List Value).toArray s 0 0 (fun _ => False)) (F0 m 48 ls []) := by
    intro x2_3 hj ls hl
    refine lv_iload_n hx hb d_M_lowest_48 rfl (lv_at hl 0 rfl) ?_
    have fe : f_M_lowest r0 p1 p2 = x2_3 := hj.trans rfl
    exact W.iret (v := x2_3) hx hb hr (fun t ht hW => ⟨_, rfl, by rw [fe], ht⟩) t_nil d_M_lowest_49
  have K2 : ∀ (n2 : Nat) (x2_3 : Int32) (hm2 : (64 - x2_3.toInt).toNat < n2) (hj : f_M_lowest r0 p1 p2 = f_M_lowest_2 r0 p1 p2 n2 x2_3) (ls : Array Slot) (hl : lv_has ls 4 [(3, .int (x2_3)), (0, .ref (ad 0)), (1, .int (nI p1)), (2, .int (bI p2))]), W p l e (headSpec w_M_lowest ({ frames := 0, cells := 0, slots := 0, locals := 0 } : Room)).room s m ([.ref (ad 0), .int (nI p1), .int (bI p2)] : List Value).toArray below meth c s.heap [] 0 0 (MQ below (vp_Si (fun r => r = (f_M_lowest r0 p1 p2))) ([.ref (ad 0), .int (nI p1), .int (bI p2)] : List Value).toArray s 0 0 (fun _ => False)) (F0 m 2 ls []) := by
    intro n2
    induction n2 with
    | zero => intro x2_3 hm2 hj ls hl; exact absurd hm2 (Nat.not_lt_zero _)
    | succ n2 ih2 =>
      intro x2_3 hm2 hj ls hl
      have K42 : ∀ (hj : f_M_lowest r0 p1 p2 = f_M_lowest_42 r0 p1 p2 x2_3 (fun y0 => f_M_lowest_2 r0 p1 p2 n2 y0)) (hf0 : ¬ 64 ≤ x2_3) (ls : Array Slot) (hl : lv_has ls 4 [(3, .int (x2_3)), (0, .ref (ad 0)), (1, .int (nI p1)), (2, .int (bI p2))]), W p l e (headSpec w_M_lowest ({ frames := 0, cells := 0, slots := 0, locals := 0 } : Room)).room s m ([.ref (ad 0), .int (nI p1), .int (bI p2)] : List Value).toArray below meth c s.heap [] 0 0 (MQ below (vp_Si (fun r => r = (f_M_lowest r0 p1 p2))) ([.ref (ad 0), .int (nI p1), .int (bI p2)] : List Value).toArray s 0 0 (fun _ => False)) (F0 m 42 ls []) := by
        intro hj hf0 ls hl
        refine lv_iinc (v := x2_3 + 1) (lv' := [(3, .int (x2_3 + 1)), (0, .ref (ad 0)), (1, .int (nI p1)), (2, .int (bI p2))]) hx hb d_M_lowest_42 hl (k := 0) rfl rfl (by decide) rfl (fun ls hl => ?_)
        refine lv_goto (tgt := 2) hx hb d_M_lowest_45 (by decide) ?_
        exact ih2 (x2_3 + 1) (up_step hf0 hm2) (hj.trans rfl) ls (lv_sub hl [0, 1, 2, 3] rfl)
      refine lv_iload_n hx hb d_M_lowest_2 rfl (lv_at hl 0 rfl) ?_
      refine lv_bipush (v := 64) hx hb d_M_lowest_3 (by decide) ?_
      refine lv_icmp_ge (tgt := 48) hx hb d_M_lowest_5 (by decide) (fun e1_48 => ?_) (fun e1_48 => ?_)
      · exact K48 x2_3 (hj.trans ((f_M_lowest_2.eq_2 r0 p1 p2 _ _).trans (by first | with_reducible exact if_pos e1_48 | exact if_pos e1_48))) ls (lv_sub hl [0] rfl)
      · refine lv_aload_n hx hb d_M_lowest_8 rfl (lv_at hl 1 rfl) ?_
        refine va_get (D := (dC, dI)) (ci := 2) (v := .ref (ad 2)) (C := R_M) (T := F_M) (N := 10) hx hb hts (fun w h => List.mem_cons_of_mem _ (uw_M w h)) hown hK hP 0 rfl rfl 2 (by decide) (hG (.fieldLink R_M 13 "ValueSieveModel" "open" "[J") gx11) (fun _ h9 => h9) rfl d_M_lowest_9 ?_
        refine lv_iload_n hx hb d_M_lowest_12 rfl (lv_at hl 2 rfl) ?_
        refine ml_2 (P := p1) hx hb hK hP rfl b1 d_M_lowest_13 ?_
        refine lv_iload_n hx hb d_M_lowest_14 rfl (lv_at hl 0 rfl) ?_
        refine lv_lushr (v := (((r0 p1).2.1).toUInt64 >>> (x2_3.toInt64.toUInt64 &&& Int64.toUInt64 63)).toInt64) hx hb d_M_lowest_15 rfl ?_
        refine lv_lconst (v := 1) hx hb d_M_lowest_16 (by decide) ?_
        refine lv_land hx hb d_M_lowest_17 ?_
        refine lv_lconst (v := 0) hx hb d_M_lowest_18 (by decide) ?_
        refine wl_ne (tgt := 48) hx hb d_M_lowest_19 d_M_lowest_20 (by decide) (fun e2_48 => ?_) (fun e2_48 => ?_)
        · exact K48 x2_3 (hj.trans ((f_M_lowest_2.eq_2 r0 p1 p2 _ _).trans (by first | with_reducible exact (if_neg e1_48).trans (if_neg e2_48) | exact (if_neg e1_48).trans (if_neg e2_48)))) ls (lv_sub hl [0] rfl)
        · refine lv_iload_n hx hb d_M_lowest_23 rfl (lv_at hl 3 rfl) ?_
          refine wz_eq (tgt := 42) hx hb d_M_lowest_24 (by decide) (fun e3_42 => ?_) (fun e3_42 => ?_)
          · exact K42 (hj.trans ((f_M_lowest_2.eq_2 r0 p1 p2 _ _).trans (by first | with_reducible exact (if_neg e1_48).trans ((if_pos e2_48).trans (if_neg e3_42)) | exact (if_neg e1_48).trans ((if_pos e2_48).trans (if_neg e3_42))))) e1_48 ls (lv_sub hl [0, 1, 2, 3] rfl)
          · refine lv_aload_n hx hb d_M_lowest_27 rfl (lv_at hl 1 rfl) ?_
            refine va_get (D := (dC, dI)) (ci := 2) (v := .ref (ad 1)) (C := R_M) (T := F_M) (N := 10) hx hb hts (fun w h => List.mem_cons_of_mem _ (uw_M w h)) hown hK hP 0 rfl rfl 1 (by decide) (hG (.fieldLink R_M 7 "ValueSieveModel" "bits" "[J") gx10) (fun _ h9 => h9) rfl d_M_lowest_28 ?_
            refine lv_iload_n hx hb d_M_lowest_31 rfl (lv_at hl 2 rfl) ?_
            refine ml_1 (P := p1) hx hb hK hP rfl b1 d_M_lowest_32 ?_
            refine lv_iload_n hx hb d_M_lowest_33 rfl (lv_at hl 0 rfl) ?_
            refine lv_lushr (v := (((r0 p1).1).toUInt64 >>> (x2_3.toInt64.toUInt64 &&& Int64.toUInt64 63)).toInt64) hx hb d_M_lowest_34 rfl ?_
            refine lv_lconst (v := 1) hx hb d_M_lowest_35 (by decide) ?_
            refine lv_land hx hb d_M_lowest_36 ?_
            refine lv_lconst (v := 0) hx hb d_M_lowest_37 (by decide) ?_
            refine wl_ne (tgt := 48) hx hb d_M_lowest_38 d_M_lowest_39 (by decide) (fun e4_48 => ?_) (fun e4_48 => ?_)
            · exact K48 x2_3 (hj.trans ((f_M_lowest_2.eq_2 r0 p1 p2 _ _).trans (by first | with_reducible exact (if_neg e1_48).trans ((if_pos e2_48).trans ((if_pos e3_42).trans (if_neg e4_48))) | exact (if_neg e1_48).trans ((if_pos e2_48).trans ((if_pos e3_42).trans (if_neg e4_48)))))) ls (lv_sub hl [0] rfl)
            · exact K42 (hj.trans ((f_M_lowest_2.eq_2 r0 p1 p2 _ _).trans (by first | with_reducible exact (if_neg e1_48).trans ((if_pos e2_48).trans ((if_pos e3_42).trans (if_pos e4_48))) | exact (if_neg e1_48).trans ((if_pos e2_48).trans ((if_pos e3_42).trans (if_pos e4_48)))))) e1_48 ls (lv_sub hl [0, 1, 2, 3] rfl)
  refine lv_iconst (v := 0) hx hb d_M_lowest_0 (by decide) ?_
  refine lv_istore_n (lv' := [(3, .int (0)), (0, .ref (ad 0)), (1, .int (nI p1)), (2, .int (bI p2))]) hx hb d_M_lowest_1 rfl hl (by decide) rfl (fun ls hl => ?_)
  exact K2 65 0 (by decide) (rfl) ls (lv_sub hl [0, 1, 2, 3] rfl)
-- knowLowest
theorem d_M_knowLowest_0 : decode b_M_knowLowest 0 = .ok (.iload_n 1, 1) := by decide +kernel
theorem d_M_knowLowest_1 : decode b_M_knowLowest 1 = .ok (.bipush 64, 2) := by decide +kernel
theorem d_M_knowLowest_3 : decode b_M_knowLowest 3 = .ok (.if_icmp .lt 9, 3) := by decide +kernel
theorem d_M_knowLowest_6 : decode b_M_knowLowest 6 = .ok (.ldc2_w 49, 3) := by decide +kernel
theorem d_M_knowLowest_9 : decode b_M_knowLowest 9 = .ok (.goto 8, 3) := by decide +kernel
theorem d_M_knowLowest_12 : decode b_M_knowLowest 12 = .ok (.lconst 1, 1) := by decide +kernel
theorem d_M_knowLowest_13 : decode b_M_knowLowest 13 = .ok (.iload_n 1, 1) := by decide +kernel
theorem d_M_knowLowest_14 : decode b_M_knowLowest 14 = .ok (.lshl, 1) := by decide +kernel
theorem d_M_knowLowest_15 : decode b_M_knowLowest 15 = .ok (.lconst 1, 1) := by decide +kernel
theorem d_M_knowLowest_16 : decode b_M_knowLowest 16 = .ok (.lsub, 1) := by decide +kernel
theorem d_M_knowLowest_17 : decode b_M_knowLowest 17 = .ok (.lstore 4, 2) := by decide +kernel
theorem d_M_knowLowest_19 : decode b_M_knowLowest 19 = .ok (.aload_n 0, 1) := by decide +kernel
theorem d_M_knowLowest_20 : decode b_M_knowLowest 20 = .ok (.getfield 7, 3) := by decide +kernel
theorem d_M_knowLowest_23 : decode b_M_knowLowest 23 = .ok (.bipush 18, 2) := by decide +kernel
theorem d_M_knowLowest_25 : decode b_M_knowLowest 25 = .ok (.lload_n 2, 1) := by decide +kernel
theorem d_M_knowLowest_26 : decode b_M_knowLowest 26 = .ok (.lload 4, 2) := by decide +kernel
theorem d_M_knowLowest_28 : decode b_M_knowLowest 28 = .ok (.land, 1) := by decide +kernel
theorem d_M_knowLowest_29 : decode b_M_knowLowest 29 = .ok (.lastore, 1) := by decide +kernel
theorem d_M_knowLowest_30 : decode b_M_knowLowest 30 = .ok (.aload_n 0, 1) := by decide +kernel
theorem d_M_knowLowest_31 : decode b_M_knowLowest 31 = .ok (.getfield 13, 3) := by decide +kernel
theorem d_M_knowLowest_34 : decode b_M_knowLowest 34 = .ok (.bipush 18, 2) := by decide +kernel
theorem d_M_knowLowest_36 : decode b_M_knowLowest 36 = .ok (.lload 4, 2) := by decide +kernel
theorem d_M_knowLowest_38 : decode b_M_knowLowest 38 = .ok (.ldc2_w 49, 3) := by decide +kernel
theorem d_M_knowLowest_41 : decode b_M_knowLowest 41 = .ok (.lxor, 1) := by decide +kernel
theorem d_M_knowLowest_42 : decode b_M_knowLowest 42 = .ok (.lastore, 1) := by decide +kernel
theorem d_M_knowLowest_43 : decode b_M_knowLowest 43 = .ok (.return_, 1) := by decide +kernel
def f_M_knowLowest_42u (r0 : (Nat → VV)) (p1 : Int32) (p2 : Int64) (r42n : (Nat → VV)) : (Nat → VV) := r42n
def f_M_knowLowest_29u (r0 : (Nat → VV)) (p1 : Int32) (p2 : Int64) (s17_0 : Int64) (r29n : (Nat → VV)) : (Nat → VV) := f_M_knowLowest_42u r0 p1 p2 (u2 r29n 18 (s17_0 ^^^ (-1 : Int64)))
def f_M_knowLowest_17 (r0 : (Nat → VV)) (p1 : Int32) (p2 : Int64) (s17_0 : Int64) : (Nat → VV) := f_M_knowLowest_29u r0 p1 p2 s17_0 (u1 r0 18 (p2 &&& s17_0))
def f_M_knowLowest (r0 : (Nat → VV)) (p1 : Int32) (p2 : Int64) : (Nat → VV) := (if p1 < 64 then f_M_knowLowest_17 r0 p1 p2 (((1 : Int64) <<< (p1.toInt64 &&& 63)) - (1 : Int64)) else f_M_knowLowest_17 r0 p1 p2 (-1))
set_option maxRecDepth 100000 in
set_option maxHeartbeats 4000000 in
theorem c_M_knowLowest (l : Launch) (dC : Nat → ClassId) (dI : Nat → Nat → Nat) (ad : Nat → Nat) (cJ cZ : ClassId) (sz : Nat) (c0 : Int32) (r0 : (Nat → VV)) (w0 : (Nat → Int64)) (s0 : Int32) (p1 : Int32) (p2 : Int64) : Met l y_M_knowLowest w_M_knowLowest ({ frames := 0, cells := 0, slots := 0, locals := 0 } : Room) (va_Pc [.ref (ad 0), .int (p1), .long (p2)] (nP (dC, dI) (mT cJ cZ) (mW ad cJ cZ c0 r0 w0 s0) sz)) (va_Qv (fun _ : Unit => True) (mB (dC, dI) (va_A (mW ad cJ cZ c0 r0 w0 s0) sz) (mW ad cJ cZ c0 (f_M_knowLowest r0 p1 p2) w0 s0)) (va_A (mW ad cJ cZ c0 r0 w0 s0) sz)) 0 0 (va_A (mW ad cJ cZ c0 r0 w0 s0) sz) := by
  refine Met.ofW (cc := b_M_knowLowest) (maxL := 6) (ret := none) (by decide) rfl ?_
  intro p e s m args below meth c s₁ B hml hv
  obtain ⟨rfl, hsz, hP, hK, hD0⟩ := hv
  have hx := B.exec
  have hb := B.bytes
  have hr := B.returns
  have hts := atoms_spec (ws := w_M_knowLowest) B.pre
  have hG : ∀ w ∈ gM, w.before _ s = true := fun w h => hts w (List.mem_cons_of_mem _ h)
  have hown : s.vm.findClass R_M = some m.cls := findClass_of_methodNamed B.named
  have hlocks := B.notSynchronized
  subst hsz
  have hD := hD0.self (sz := s.heap.size)
  generalize hAe : va_A (mW ad cJ cZ c0 r0 w0 s0) s.heap.size = A at hD ⊢
  have hA : ∀ q : Nat, s.heap.size ≤ q → A q := fun q h => by rw [← hAe]; exact Or.inr h
  have hS : va_S A s.heap s.heap [] := va_S.rf
  have hl := lv_entry ([.ref (ad 0), .int (p1), .long (p2)]) (n := 6) (Nat.le_of_ble_eq_true rfl)
  rw [lg_entry_eq]
  generalize (lg_sl ([.ref (ad 0), .int (p1), .long (p2)]) ++ List.replicate (6 - (lg_sl ([.ref (ad 0), .int (p1), .long (p2)])).length) Slot.unset).toArray = ls at hl ⊢
  have hl : lv_has ls 6 [(0, .ref (ad 0)), (1, .int (p1)), (2, .long (p2))] := hl
  have K42u : ∀ (r42n : (Nat → VV)) (hj : f_M_knowLowest r0 p1 p2 = f_M_knowLowest_42u r0 p1 p2 r42n) (H : Heap) (locs : List Loc) (hP : va_P (dC, dI) classes (mW ad cJ cZ c0 r42n w0 s0) H) (hD : va_D A (mW ad cJ cZ c0 r42n w0 s0)) (hS : va_S A s.heap H locs) (ls : Array Slot) (hl : lv_has ls 6 []), W p l e (headSpec w_M_knowLowest ({ frames := 0, cells := 0, slots := 0, locals := 0 } : Room)).room s m ([.ref (ad 0), .int (p1), .long (p2)] : List Value).toArray below meth c H locs 0 0 (MQ below (va_Qv (fun _ : Unit => True) (mB (dC, dI) A (mW ad cJ cZ c0 (f_M_knowLowest r0 p1 p2) w0 s0)) A) ([.ref (ad 0), .int (p1), .long (p2)] : List Value).toArray s 0 0 A) (F0 m 43 ls []) := by
    intro r42n hj H locs hP hD hS ls hl
    have fe : f_M_knowLowest r0 p1 p2 = r42n := hj.trans rfl
    exact W.vret hx hb hr (fun t ht hW => ⟨⟨(), rfl, trivial, by rw [ht, fe]; exact hP, by rw [fe]; exact hD⟩, hS.F ht⟩) hS.2.2 d_M_knowLowest_43
  have K29u : ∀ (s17_0 : Int64) (r29n : (Nat → VV)) (hj : f_M_knowLowest r0 p1 p2 = f_M_knowLowest_29u r0 p1 p2 s17_0 r29n) (H : Heap) (locs : List Loc) (hP : va_P (dC, dI) classes (mW ad cJ cZ c0 r29n w0 s0) H) (hD : va_D A (mW ad cJ cZ c0 r29n w0 s0)) (hS : va_S A s.heap H locs) (ls : Array Slot) (hl : lv_has ls 6 [(4, .long (s17_0)), (0, .ref (ad 0))]), W p l e (headSpec w_M_knowLowest ({ frames := 0, cells := 0, slots := 0, locals := 0 } : Room)).room s m ([.ref (ad 0), .int (p1), .long (p2)] : List Value).toArray below meth c H locs 0 0 (MQ below (va_Qv (fun _ : Unit => True) (mB (dC, dI) A (mW ad cJ cZ c0 (f_M_knowLowest r0 p1 p2) w0 s0)) A) ([.ref (ad 0), .int (p1), .long (p2)] : List Value).toArray s 0 0 A) (F0 m 30 ls []) := by
    intro s17_0 r29n hj H locs hP hD hS ls hl
    refine lv_aload_n hx hb d_M_knowLowest_30 rfl (lv_at hl 1 rfl) ?_
    refine va_get (D := (dC, dI)) (ci := 2) (v := .ref (ad 2)) (C := R_M) (T := F_M) (N := 10) hx hb hts (fun w h => List.mem_cons_of_mem _ (uw_M w h)) hown hK hP 0 rfl rfl 2 (by decide) (hG (.fieldLink R_M 13 "ValueSieveModel" "open" "[J") gx11) (fun _ h9 => h9) rfl d_M_knowLowest_31 ?_
    refine lv_bipush (v := 18) hx hb d_M_knowLowest_34 (by decide) ?_
    refine lv_lload hx hb d_M_knowLowest_36 (lv_at hl 0 rfl) ?_
    refine lv_ldc2 (v := -1) hx hb hown (hG (.constantLong R_M 49 (-1)) gx42) d_M_knowLowest_38 ?_
    refine lv_lxor hx hb d_M_knowLowest_41 ?_
    refine ms_2 (P := 18) (x := s17_0 ^^^ (-1 : Int64)) hx hb hK hP hD hS rfl (by decide) d_M_knowLowest_42 (fun H locs hP hD hS => ?_)
    obtain ⟨r42n, er42n⟩ : ∃ z, z = u2 r29n 18 (s17_0 ^^^ (-1 : Int64)) := ⟨_, rfl⟩
    rw [← er42n] at hP hD
    refine K42u r42n (Eq.trans (hj.trans rfl) (congrArg (fun r42n => f_M_knowLowest_42u r0 p1 p2 r42n) er42n.symm)) H locs ?_ ?_ hS ls (lv_sub hl [] rfl)
    · with_reducible exact hP
    · with_reducible exact hD
  have K17 : ∀ (s17_0 : Int64) (hj : f_M_knowLowest r0 p1 p2 = f_M_knowLowest_17 r0 p1 p2 s17_0) (H : Heap) (locs : List Loc) (hP : va_P (dC, dI) classes (mW ad cJ cZ c0 r0 w0 s0) H) (hD : va_D A (mW ad cJ cZ c0 r0 w0 s0)) (hS : va_S A s.heap H locs) (ls : Array Slot) (hl : lv_has ls 6 [(0, .ref (ad 0)), (2, .long (p2))]), W p l e (headSpec w_M_knowLowest ({ frames := 0, cells := 0, slots := 0, locals := 0 } : Room)).room s m ([.ref (ad 0), .int (p1), .long (p2)] : List Value).toArray below meth c H locs 0 0 (MQ below (va_Qv (fun _ : Unit => True) (mB (dC, dI) A (mW ad cJ cZ c0 (f_M_knowLowest r0 p1 p2) w0 s0)) A) ([.ref (ad 0), .int (p1), .long (p2)] : List Value).toArray s 0 0 A) (F0 m 17 ls [.long (s17_0)]) := by
    intro s17_0 hj H locs hP hD hS ls hl
    refine lv_lstore (lv' := [(4, .long (s17_0)), (0, .ref (ad 0)), (2, .long (p2))]) hx hb d_M_knowLowest_17 hl (by decide) rfl (fun ls hl => ?_)
    refine lv_aload_n hx hb d_M_knowLowest_19 rfl (lv_at hl 1 rfl) ?_
    refine va_get (D := (dC, dI)) (ci := 2) (v := .ref (ad 1)) (C := R_M) (T := F_M) (N := 10) hx hb hts (fun w h => List.mem_cons_of_mem _ (uw_M w h)) hown hK hP 0 rfl rfl 1 (by decide) (hG (.fieldLink R_M 7 "ValueSieveModel" "bits" "[J") gx10) (fun _ h9 => h9) rfl d_M_knowLowest_20 ?_
    refine lv_bipush (v := 18) hx hb d_M_knowLowest_23 (by decide) ?_
    refine lv_lload_n hx hb d_M_knowLowest_25 rfl (lv_at hl 2 rfl) ?_
    refine lv_lload hx hb d_M_knowLowest_26 (lv_at hl 0 rfl) ?_
    refine lv_land hx hb d_M_knowLowest_28 ?_
    refine ms_1 (P := 18) (x := p2 &&& s17_0) hx hb hK hP hD hS rfl (by decide) d_M_knowLowest_29 (fun H locs hP hD hS => ?_)
    obtain ⟨r29n, er29n⟩ : ∃ z, z = u1 r0 18 (p2 &&& s17_0) := ⟨_, rfl⟩
    rw [← er29n] at hP hD
    refine K29u s17_0 r29n (Eq.trans (hj.trans rfl) (congrArg (fun r29n => f_M_knowLowest_29u r0 p1 p2 s17_0 r29n) er29n.symm)) H locs ?_ ?_ hS ls (lv_sub hl [0, 1] rfl)
    · with_reducible exact hP
    · with_reducible exact hD
  refine lv_iload_n hx hb d_M_knowLowest_0 rfl (lv_at hl 1 rfl) ?_
  refine lv_bipush (v := 64) hx hb d_M_knowLowest_1 (by decide) ?_
  refine lv_icmp_lt (tgt := 12) hx hb d_M_knowLowest_3 (by decide) (fun e1_12 => ?_) (fun e1_12 => ?_)
  · refine lv_lconst (v := 1) hx hb d_M_knowLowest_12 (by decide) ?_
    refine lv_iload_n hx hb d_M_knowLowest_13 rfl (lv_at hl 1 rfl) ?_
    refine lv_lshl (v := (1 : Int64) <<< (p1.toInt64 &&& 63)) hx hb d_M_knowLowest_14 rfl ?_
    refine lv_lconst (v := 1) hx hb d_M_knowLowest_15 (by decide) ?_
    refine lv_lsub hx hb d_M_knowLowest_16 ?_
    refine K17 (((1 : Int64) <<< (p1.toInt64 &&& 63)) - (1 : Int64)) (by unfold f_M_knowLowest; first | with_reducible exact if_pos e1_12 | exact if_pos e1_12) s.heap [] ?_ ?_ hS ls (lv_sub hl [0, 2] rfl)
    · with_reducible exact hP
    · with_reducible exact hD
  · refine lv_ldc2 (v := -1) hx hb hown (hG (.constantLong R_M 49 (-1)) gx42) d_M_knowLowest_6 ?_
    refine lv_goto (tgt := 17) hx hb d_M_knowLowest_9 (by decide) ?_
    refine K17 (-1) (by unfold f_M_knowLowest; first | with_reducible exact if_neg e1_12 | exact if_neg e1_12) s.heap [] ?_ ?_ hS ls (lv_sub hl [0, 2] rfl)
    · with_reducible exact hP
    · with_reducible exact hD
-- multiply
theorem d_M_multiply_0 : decode b_M_multiply 0 = .ok (.aload_n 0, 1) := by decide +kernel
theorem d_M_multiply_1 : decode b_M_multiply 1 = .ok (.bipush 16, 2) := by decide +kernel
theorem d_M_multiply_3 : decode b_M_multiply 3 = .ok (.iconst 0, 1) := by decide +kernel
theorem d_M_multiply_4 : decode b_M_multiply 4 = .ok (.invokevirtual 149, 3) := by decide +kernel
theorem d_M_multiply_7 : decode b_M_multiply 7 = .ok (.aload_n 0, 1) := by decide +kernel
theorem d_M_multiply_8 : decode b_M_multiply 8 = .ok (.bipush 17, 2) := by decide +kernel
theorem d_M_multiply_10 : decode b_M_multiply 10 = .ok (.iconst 1, 1) := by decide +kernel
theorem d_M_multiply_11 : decode b_M_multiply 11 = .ok (.invokevirtual 149, 3) := by decide +kernel
theorem d_M_multiply_14 : decode b_M_multiply 14 = .ok (.iadd, 1) := by decide +kernel
theorem d_M_multiply_15 : decode b_M_multiply 15 = .ok (.istore_n 1, 1) := by decide +kernel
theorem d_M_multiply_16 : decode b_M_multiply 16 = .ok (.aload_n 0, 1) := by decide +kernel
theorem d_M_multiply_17 : decode b_M_multiply 17 = .ok (.bipush 17, 2) := by decide +kernel
theorem d_M_multiply_19 : decode b_M_multiply 19 = .ok (.iconst 0, 1) := by decide +kernel
theorem d_M_multiply_20 : decode b_M_multiply 20 = .ok (.invokevirtual 149, 3) := by decide +kernel
theorem d_M_multiply_23 : decode b_M_multiply 23 = .ok (.aload_n 0, 1) := by decide +kernel
theorem d_M_multiply_24 : decode b_M_multiply 24 = .ok (.bipush 16, 2) := by decide +kernel
theorem d_M_multiply_26 : decode b_M_multiply 26 = .ok (.iconst 1, 1) := by decide +kernel
theorem d_M_multiply_27 : decode b_M_multiply 27 = .ok (.invokevirtual 149, 3) := by decide +kernel
theorem d_M_multiply_30 : decode b_M_multiply 30 = .ok (.iadd, 1) := by decide +kernel
theorem d_M_multiply_31 : decode b_M_multiply 31 = .ok (.istore_n 2, 1) := by decide +kernel
theorem d_M_multiply_32 : decode b_M_multiply 32 = .ok (.aload_n 0, 1) := by decide +kernel
theorem d_M_multiply_33 : decode b_M_multiply 33 = .ok (.iload_n 1, 1) := by decide +kernel
theorem d_M_multiply_34 : decode b_M_multiply 34 = .ok (.iload_n 2, 1) := by decide +kernel
theorem d_M_multiply_35 : decode b_M_multiply 35 = .ok (.if_icmp .ge 7, 3) := by decide +kernel
theorem d_M_multiply_38 : decode b_M_multiply 38 = .ok (.iload_n 1, 1) := by decide +kernel
theorem d_M_multiply_39 : decode b_M_multiply 39 = .ok (.goto 4, 3) := by decide +kernel
theorem d_M_multiply_42 : decode b_M_multiply 42 = .ok (.iload_n 2, 1) := by decide +kernel
theorem d_M_multiply_43 : decode b_M_multiply 43 = .ok (.aload_n 0, 1) := by decide +kernel
theorem d_M_multiply_44 : decode b_M_multiply 44 = .ok (.getfield 7, 3) := by decide +kernel
theorem d_M_multiply_47 : decode b_M_multiply 47 = .ok (.bipush 16, 2) := by decide +kernel
theorem d_M_multiply_49 : decode b_M_multiply 49 = .ok (.laload, 1) := by decide +kernel
theorem d_M_multiply_50 : decode b_M_multiply 50 = .ok (.aload_n 0, 1) := by decide +kernel
theorem d_M_multiply_51 : decode b_M_multiply 51 = .ok (.getfield 7, 3) := by decide +kernel
theorem d_M_multiply_54 : decode b_M_multiply 54 = .ok (.bipush 17, 2) := by decide +kernel
theorem d_M_multiply_56 : decode b_M_multiply 56 = .ok (.laload, 1) := by decide +kernel
theorem d_M_multiply_57 : decode b_M_multiply 57 = .ok (.lmul, 1) := by decide +kernel
theorem d_M_multiply_58 : decode b_M_multiply 58 = .ok (.invokevirtual 153, 3) := by decide +kernel
theorem d_M_multiply_61 : decode b_M_multiply 61 = .ok (.aload_n 0, 1) := by decide +kernel
theorem d_M_multiply_62 : decode b_M_multiply 62 = .ok (.getfield 19, 3) := by decide +kernel
theorem d_M_multiply_65 : decode b_M_multiply 65 = .ok (.bipush 16, 2) := by decide +kernel
theorem d_M_multiply_67 : decode b_M_multiply 67 = .ok (.laload, 1) := by decide +kernel
theorem d_M_multiply_68 : decode b_M_multiply 68 = .ok (.aload_n 0, 1) := by decide +kernel
theorem d_M_multiply_69 : decode b_M_multiply 69 = .ok (.getfield 19, 3) := by decide +kernel
theorem d_M_multiply_72 : decode b_M_multiply 72 = .ok (.bipush 17, 2) := by decide +kernel
theorem d_M_multiply_74 : decode b_M_multiply 74 = .ok (.laload, 1) := by decide +kernel
theorem d_M_multiply_75 : decode b_M_multiply 75 = .ok (.invokestatic 51, 3) := by decide +kernel
theorem d_M_multiply_78 : decode b_M_multiply 78 = .ok (.ifCond .eq 47, 3) := by decide +kernel
theorem d_M_multiply_81 : decode b_M_multiply 81 = .ok (.aload_n 0, 1) := by decide +kernel
theorem d_M_multiply_82 : decode b_M_multiply 82 = .ok (.getfield 16, 3) := by decide +kernel
theorem d_M_multiply_85 : decode b_M_multiply 85 = .ok (.bipush 18, 2) := by decide +kernel
theorem d_M_multiply_87 : decode b_M_multiply 87 = .ok (.aload_n 0, 1) := by decide +kernel
theorem d_M_multiply_88 : decode b_M_multiply 88 = .ok (.getfield 16, 3) := by decide +kernel
theorem d_M_multiply_91 : decode b_M_multiply 91 = .ok (.bipush 16, 2) := by decide +kernel
theorem d_M_multiply_93 : decode b_M_multiply 93 = .ok (.laload, 1) := by decide +kernel
theorem d_M_multiply_94 : decode b_M_multiply 94 = .ok (.aload_n 0, 1) := by decide +kernel
theorem d_M_multiply_95 : decode b_M_multiply 95 = .ok (.getfield 16, 3) := by decide +kernel
theorem d_M_multiply_98 : decode b_M_multiply 98 = .ok (.bipush 17, 2) := by decide +kernel
theorem d_M_multiply_100 : decode b_M_multiply 100 = .ok (.laload, 1) := by decide +kernel
theorem d_M_multiply_101 : decode b_M_multiply 101 = .ok (.lmul, 1) := by decide +kernel
theorem d_M_multiply_102 : decode b_M_multiply 102 = .ok (.lastore, 1) := by decide +kernel
theorem d_M_multiply_103 : decode b_M_multiply 103 = .ok (.aload_n 0, 1) := by decide +kernel
theorem d_M_multiply_104 : decode b_M_multiply 104 = .ok (.getfield 19, 3) := by decide +kernel
theorem d_M_multiply_107 : decode b_M_multiply 107 = .ok (.bipush 18, 2) := by decide +kernel
theorem d_M_multiply_109 : decode b_M_multiply 109 = .ok (.aload_n 0, 1) := by decide +kernel
theorem d_M_multiply_110 : decode b_M_multiply 110 = .ok (.getfield 19, 3) := by decide +kernel
theorem d_M_multiply_113 : decode b_M_multiply 113 = .ok (.bipush 16, 2) := by decide +kernel
theorem d_M_multiply_115 : decode b_M_multiply 115 = .ok (.laload, 1) := by decide +kernel
theorem d_M_multiply_116 : decode b_M_multiply 116 = .ok (.aload_n 0, 1) := by decide +kernel
theorem d_M_multiply_117 : decode b_M_multiply 117 = .ok (.getfield 19, 3) := by decide +kernel
theorem d_M_multiply_120 : decode b_M_multiply 120 = .ok (.bipush 17, 2) := by decide +kernel
theorem d_M_multiply_122 : decode b_M_multiply 122 = .ok (.laload, 1) := by decide +kernel
theorem d_M_multiply_123 : decode b_M_multiply 123 = .ok (.lmul, 1) := by decide +kernel
theorem d_M_multiply_124 : decode b_M_multiply 124 = .ok (.lastore, 1) := by decide +kernel
theorem d_M_multiply_125 : decode b_M_multiply 125 = .ok (.aload_n 0, 1) := by decide +kernel
theorem d_M_multiply_126 : decode b_M_multiply 126 = .ok (.getfield 22, 3) := by decide +kernel
theorem d_M_multiply_129 : decode b_M_multiply 129 = .ok (.bipush 16, 2) := by decide +kernel
theorem d_M_multiply_131 : decode b_M_multiply 131 = .ok (.laload, 1) := by decide +kernel
theorem d_M_multiply_132 : decode b_M_multiply 132 = .ok (.aload_n 0, 1) := by decide +kernel
theorem d_M_multiply_133 : decode b_M_multiply 133 = .ok (.getfield 22, 3) := by decide +kernel
theorem d_M_multiply_136 : decode b_M_multiply 136 = .ok (.bipush 17, 2) := by decide +kernel
theorem d_M_multiply_138 : decode b_M_multiply 138 = .ok (.laload, 1) := by decide +kernel
theorem d_M_multiply_139 : decode b_M_multiply 139 = .ok (.invokestatic 156, 3) := by decide +kernel
theorem d_M_multiply_142 : decode b_M_multiply 142 = .ok (.ifCond .eq 238, 3) := by decide +kernel
theorem d_M_multiply_145 : decode b_M_multiply 145 = .ok (.aload_n 0, 1) := by decide +kernel
theorem d_M_multiply_146 : decode b_M_multiply 146 = .ok (.getfield 22, 3) := by decide +kernel
theorem d_M_multiply_149 : decode b_M_multiply 149 = .ok (.bipush 16, 2) := by decide +kernel
theorem d_M_multiply_151 : decode b_M_multiply 151 = .ok (.laload, 1) := by decide +kernel
theorem d_M_multiply_152 : decode b_M_multiply 152 = .ok (.aload_n 0, 1) := by decide +kernel
theorem d_M_multiply_153 : decode b_M_multiply 153 = .ok (.getfield 25, 3) := by decide +kernel
theorem d_M_multiply_156 : decode b_M_multiply 156 = .ok (.bipush 17, 2) := by decide +kernel
theorem d_M_multiply_158 : decode b_M_multiply 158 = .ok (.laload, 1) := by decide +kernel
theorem d_M_multiply_159 : decode b_M_multiply 159 = .ok (.invokestatic 156, 3) := by decide +kernel
theorem d_M_multiply_162 : decode b_M_multiply 162 = .ok (.ifCond .eq 218, 3) := by decide +kernel
theorem d_M_multiply_165 : decode b_M_multiply 165 = .ok (.aload_n 0, 1) := by decide +kernel
theorem d_M_multiply_166 : decode b_M_multiply 166 = .ok (.getfield 25, 3) := by decide +kernel
theorem d_M_multiply_169 : decode b_M_multiply 169 = .ok (.bipush 16, 2) := by decide +kernel
theorem d_M_multiply_171 : decode b_M_multiply 171 = .ok (.laload, 1) := by decide +kernel
theorem d_M_multiply_172 : decode b_M_multiply 172 = .ok (.aload_n 0, 1) := by decide +kernel
theorem d_M_multiply_173 : decode b_M_multiply 173 = .ok (.getfield 22, 3) := by decide +kernel
theorem d_M_multiply_176 : decode b_M_multiply 176 = .ok (.bipush 17, 2) := by decide +kernel
theorem d_M_multiply_178 : decode b_M_multiply 178 = .ok (.laload, 1) := by decide +kernel
theorem d_M_multiply_179 : decode b_M_multiply 179 = .ok (.invokestatic 156, 3) := by decide +kernel
theorem d_M_multiply_182 : decode b_M_multiply 182 = .ok (.ifCond .eq 198, 3) := by decide +kernel
theorem d_M_multiply_185 : decode b_M_multiply 185 = .ok (.aload_n 0, 1) := by decide +kernel
theorem d_M_multiply_186 : decode b_M_multiply 186 = .ok (.getfield 25, 3) := by decide +kernel
theorem d_M_multiply_189 : decode b_M_multiply 189 = .ok (.bipush 16, 2) := by decide +kernel
theorem d_M_multiply_191 : decode b_M_multiply 191 = .ok (.laload, 1) := by decide +kernel
theorem d_M_multiply_192 : decode b_M_multiply 192 = .ok (.aload_n 0, 1) := by decide +kernel
theorem d_M_multiply_193 : decode b_M_multiply 193 = .ok (.getfield 25, 3) := by decide +kernel
theorem d_M_multiply_196 : decode b_M_multiply 196 = .ok (.bipush 17, 2) := by decide +kernel
theorem d_M_multiply_198 : decode b_M_multiply 198 = .ok (.laload, 1) := by decide +kernel
theorem d_M_multiply_199 : decode b_M_multiply 199 = .ok (.invokestatic 156, 3) := by decide +kernel
theorem d_M_multiply_202 : decode b_M_multiply 202 = .ok (.ifCond .eq 178, 3) := by decide +kernel
theorem d_M_multiply_205 : decode b_M_multiply 205 = .ok (.aload_n 0, 1) := by decide +kernel
theorem d_M_multiply_206 : decode b_M_multiply 206 = .ok (.getfield 22, 3) := by decide +kernel
theorem d_M_multiply_209 : decode b_M_multiply 209 = .ok (.bipush 16, 2) := by decide +kernel
theorem d_M_multiply_211 : decode b_M_multiply 211 = .ok (.laload, 1) := by decide +kernel
theorem d_M_multiply_212 : decode b_M_multiply 212 = .ok (.aload_n 0, 1) := by decide +kernel
theorem d_M_multiply_213 : decode b_M_multiply 213 = .ok (.getfield 22, 3) := by decide +kernel
theorem d_M_multiply_216 : decode b_M_multiply 216 = .ok (.bipush 17, 2) := by decide +kernel
theorem d_M_multiply_218 : decode b_M_multiply 218 = .ok (.laload, 1) := by decide +kernel
theorem d_M_multiply_219 : decode b_M_multiply 219 = .ok (.lmul, 1) := by decide +kernel
theorem d_M_multiply_220 : decode b_M_multiply 220 = .ok (.lstore_n 3, 1) := by decide +kernel
theorem d_M_multiply_221 : decode b_M_multiply 221 = .ok (.aload_n 0, 1) := by decide +kernel
theorem d_M_multiply_222 : decode b_M_multiply 222 = .ok (.getfield 22, 3) := by decide +kernel
theorem d_M_multiply_225 : decode b_M_multiply 225 = .ok (.bipush 16, 2) := by decide +kernel
theorem d_M_multiply_227 : decode b_M_multiply 227 = .ok (.laload, 1) := by decide +kernel
theorem d_M_multiply_228 : decode b_M_multiply 228 = .ok (.aload_n 0, 1) := by decide +kernel
theorem d_M_multiply_229 : decode b_M_multiply 229 = .ok (.getfield 25, 3) := by decide +kernel
theorem d_M_multiply_232 : decode b_M_multiply 232 = .ok (.bipush 17, 2) := by decide +kernel
theorem d_M_multiply_234 : decode b_M_multiply 234 = .ok (.laload, 1) := by decide +kernel
theorem d_M_multiply_235 : decode b_M_multiply 235 = .ok (.lmul, 1) := by decide +kernel
theorem d_M_multiply_236 : decode b_M_multiply 236 = .ok (.lstore 5, 2) := by decide +kernel
theorem d_M_multiply_238 : decode b_M_multiply 238 = .ok (.aload_n 0, 1) := by decide +kernel
theorem d_M_multiply_239 : decode b_M_multiply 239 = .ok (.getfield 25, 3) := by decide +kernel
theorem d_M_multiply_242 : decode b_M_multiply 242 = .ok (.bipush 16, 2) := by decide +kernel
theorem d_M_multiply_244 : decode b_M_multiply 244 = .ok (.laload, 1) := by decide +kernel
theorem d_M_multiply_245 : decode b_M_multiply 245 = .ok (.aload_n 0, 1) := by decide +kernel
theorem d_M_multiply_246 : decode b_M_multiply 246 = .ok (.getfield 22, 3) := by decide +kernel
theorem d_M_multiply_249 : decode b_M_multiply 249 = .ok (.bipush 17, 2) := by decide +kernel
theorem d_M_multiply_251 : decode b_M_multiply 251 = .ok (.laload, 1) := by decide +kernel
theorem d_M_multiply_252 : decode b_M_multiply 252 = .ok (.lmul, 1) := by decide +kernel
theorem d_M_multiply_253 : decode b_M_multiply 253 = .ok (.lstore 7, 2) := by decide +kernel
theorem d_M_multiply_255 : decode b_M_multiply 255 = .ok (.aload_n 0, 1) := by decide +kernel
theorem d_M_multiply_256 : decode b_M_multiply 256 = .ok (.getfield 25, 3) := by decide +kernel
theorem d_M_multiply_259 : decode b_M_multiply 259 = .ok (.bipush 16, 2) := by decide +kernel
theorem d_M_multiply_261 : decode b_M_multiply 261 = .ok (.laload, 1) := by decide +kernel
theorem d_M_multiply_262 : decode b_M_multiply 262 = .ok (.aload_n 0, 1) := by decide +kernel
theorem d_M_multiply_263 : decode b_M_multiply 263 = .ok (.getfield 25, 3) := by decide +kernel
theorem d_M_multiply_266 : decode b_M_multiply 266 = .ok (.bipush 17, 2) := by decide +kernel
theorem d_M_multiply_268 : decode b_M_multiply 268 = .ok (.laload, 1) := by decide +kernel
theorem d_M_multiply_269 : decode b_M_multiply 269 = .ok (.lmul, 1) := by decide +kernel
theorem d_M_multiply_270 : decode b_M_multiply 270 = .ok (.lstore 9, 2) := by decide +kernel
theorem d_M_multiply_272 : decode b_M_multiply 272 = .ok (.lload_n 3, 1) := by decide +kernel
theorem d_M_multiply_273 : decode b_M_multiply 273 = .ok (.lload 5, 2) := by decide +kernel
theorem d_M_multiply_275 : decode b_M_multiply 275 = .ok (.lcmp, 1) := by decide +kernel
theorem d_M_multiply_276 : decode b_M_multiply 276 = .ok (.ifCond .ge 7, 3) := by decide +kernel
theorem d_M_multiply_279 : decode b_M_multiply 279 = .ok (.lload_n 3, 1) := by decide +kernel
theorem d_M_multiply_280 : decode b_M_multiply 280 = .ok (.goto 5, 3) := by decide +kernel
theorem d_M_multiply_283 : decode b_M_multiply 283 = .ok (.lload 5, 2) := by decide +kernel
theorem d_M_multiply_285 : decode b_M_multiply 285 = .ok (.lstore 11, 2) := by decide +kernel
theorem d_M_multiply_287 : decode b_M_multiply 287 = .ok (.lload 7, 2) := by decide +kernel
theorem d_M_multiply_289 : decode b_M_multiply 289 = .ok (.lload 9, 2) := by decide +kernel
theorem d_M_multiply_291 : decode b_M_multiply 291 = .ok (.lcmp, 1) := by decide +kernel
theorem d_M_multiply_292 : decode b_M_multiply 292 = .ok (.ifCond .ge 8, 3) := by decide +kernel
theorem d_M_multiply_295 : decode b_M_multiply 295 = .ok (.lload 7, 2) := by decide +kernel
theorem d_M_multiply_297 : decode b_M_multiply 297 = .ok (.goto 5, 3) := by decide +kernel
theorem d_M_multiply_300 : decode b_M_multiply 300 = .ok (.lload 9, 2) := by decide +kernel
theorem d_M_multiply_302 : decode b_M_multiply 302 = .ok (.lstore 13, 2) := by decide +kernel
theorem d_M_multiply_304 : decode b_M_multiply 304 = .ok (.aload_n 0, 1) := by decide +kernel
theorem d_M_multiply_305 : decode b_M_multiply 305 = .ok (.getfield 22, 3) := by decide +kernel
theorem d_M_multiply_308 : decode b_M_multiply 308 = .ok (.bipush 18, 2) := by decide +kernel
theorem d_M_multiply_310 : decode b_M_multiply 310 = .ok (.lload 11, 2) := by decide +kernel
theorem d_M_multiply_312 : decode b_M_multiply 312 = .ok (.lload 13, 2) := by decide +kernel
theorem d_M_multiply_314 : decode b_M_multiply 314 = .ok (.lcmp, 1) := by decide +kernel
theorem d_M_multiply_315 : decode b_M_multiply 315 = .ok (.ifCond .ge 8, 3) := by decide +kernel
theorem d_M_multiply_318 : decode b_M_multiply 318 = .ok (.lload 11, 2) := by decide +kernel
theorem d_M_multiply_320 : decode b_M_multiply 320 = .ok (.goto 5, 3) := by decide +kernel
theorem d_M_multiply_323 : decode b_M_multiply 323 = .ok (.lload 13, 2) := by decide +kernel
theorem d_M_multiply_325 : decode b_M_multiply 325 = .ok (.lastore, 1) := by decide +kernel
theorem d_M_multiply_326 : decode b_M_multiply 326 = .ok (.lload_n 3, 1) := by decide +kernel
theorem d_M_multiply_327 : decode b_M_multiply 327 = .ok (.lload 5, 2) := by decide +kernel
theorem d_M_multiply_329 : decode b_M_multiply 329 = .ok (.lcmp, 1) := by decide +kernel
theorem d_M_multiply_330 : decode b_M_multiply 330 = .ok (.ifCond .ge 8, 3) := by decide +kernel
theorem d_M_multiply_333 : decode b_M_multiply 333 = .ok (.lload 5, 2) := by decide +kernel
theorem d_M_multiply_335 : decode b_M_multiply 335 = .ok (.goto 4, 3) := by decide +kernel
theorem d_M_multiply_338 : decode b_M_multiply 338 = .ok (.lload_n 3, 1) := by decide +kernel
theorem d_M_multiply_339 : decode b_M_multiply 339 = .ok (.lstore 11, 2) := by decide +kernel
theorem d_M_multiply_341 : decode b_M_multiply 341 = .ok (.lload 7, 2) := by decide +kernel
theorem d_M_multiply_343 : decode b_M_multiply 343 = .ok (.lload 9, 2) := by decide +kernel
theorem d_M_multiply_345 : decode b_M_multiply 345 = .ok (.lcmp, 1) := by decide +kernel
theorem d_M_multiply_346 : decode b_M_multiply 346 = .ok (.ifCond .ge 8, 3) := by decide +kernel
theorem d_M_multiply_349 : decode b_M_multiply 349 = .ok (.lload 9, 2) := by decide +kernel
theorem d_M_multiply_351 : decode b_M_multiply 351 = .ok (.goto 5, 3) := by decide +kernel
theorem d_M_multiply_354 : decode b_M_multiply 354 = .ok (.lload 7, 2) := by decide +kernel
theorem d_M_multiply_356 : decode b_M_multiply 356 = .ok (.lstore 13, 2) := by decide +kernel
theorem d_M_multiply_358 : decode b_M_multiply 358 = .ok (.aload_n 0, 1) := by decide +kernel
theorem d_M_multiply_359 : decode b_M_multiply 359 = .ok (.getfield 25, 3) := by decide +kernel
theorem d_M_multiply_362 : decode b_M_multiply 362 = .ok (.bipush 18, 2) := by decide +kernel
theorem d_M_multiply_364 : decode b_M_multiply 364 = .ok (.lload 11, 2) := by decide +kernel
theorem d_M_multiply_366 : decode b_M_multiply 366 = .ok (.lload 13, 2) := by decide +kernel
theorem d_M_multiply_368 : decode b_M_multiply 368 = .ok (.lcmp, 1) := by decide +kernel
theorem d_M_multiply_369 : decode b_M_multiply 369 = .ok (.ifCond .ge 8, 3) := by decide +kernel
theorem d_M_multiply_372 : decode b_M_multiply 372 = .ok (.lload 13, 2) := by decide +kernel
theorem d_M_multiply_374 : decode b_M_multiply 374 = .ok (.goto 5, 3) := by decide +kernel
theorem d_M_multiply_377 : decode b_M_multiply 377 = .ok (.lload 11, 2) := by decide +kernel
theorem d_M_multiply_379 : decode b_M_multiply 379 = .ok (.lastore, 1) := by decide +kernel
theorem d_M_multiply_380 : decode b_M_multiply 380 = .ok (.return_, 1) := by decide +kernel
def f_M_multiply_379u (r0 : (Nat → VV)) (r379n : (Nat → VV)) : (Nat → VV) := r379n
def f_M_multiply_379 (r0 : (Nat → VV)) (s379_0 : Int64) (r325n : (Nat → VV)) : (Nat → VV) := f_M_multiply_379u r0 (u6 r325n 18 s379_0)
def f_M_multiply_356 (r0 : (Nat → VV)) (s339_0 : Int64) (s356_0 : Int64) (r325n : (Nat → VV)) : (Nat → VV) := (if s339_0 < s356_0 then f_M_multiply_379 r0 s356_0 r325n else f_M_multiply_379 r0 s339_0 r325n)
def f_M_multiply_339 (r0 : (Nat → VV)) (v270 : Int64) (v253 : Int64) (s339_0 : Int64) (r325n : (Nat → VV)) : (Nat → VV) := (if v253 < v270 then f_M_multiply_356 r0 s339_0 v270 r325n else f_M_multiply_356 r0 s339_0 v253 r325n)
def f_M_multiply_325u (r0 : (Nat → VV)) (v270 : Int64) (v253 : Int64) (v236 : Int64) (v220 : Int64) (r325n : (Nat → VV)) : (Nat → VV) := (if v220 < v236 then f_M_multiply_339 r0 v270 v253 v236 r325n else f_M_multiply_339 r0 v270 v253 v220 r325n)
def f_M_multiply_325 (r0 : (Nat → VV)) (v270 : Int64) (v253 : Int64) (v236 : Int64) (v220 : Int64) (s325_0 : Int64) (r125 : (Nat → VV)) : (Nat → VV) := f_M_multiply_325u r0 v270 v253 v236 v220 (u5 r125 18 s325_0)
def f_M_multiply_302 (r0 : (Nat → VV)) (s285_0 : Int64) (v270 : Int64) (v253 : Int64) (v236 : Int64) (v220 : Int64) (s302_0 : Int64) (r125 : (Nat → VV)) : (Nat → VV) := (if s285_0 < s302_0 then f_M_multiply_325 r0 v270 v253 v236 v220 s285_0 r125 else f_M_multiply_325 r0 v270 v253 v236 v220 s302_0 r125)
def f_M_multiply_285 (r0 : (Nat → VV)) (v270 : Int64) (v253 : Int64) (v236 : Int64) (v220 : Int64) (s285_0 : Int64) (r125 : (Nat → VV)) : (Nat → VV) := (if v253 < v270 then f_M_multiply_302 r0 s285_0 v270 v253 v236 v220 v253 r125 else f_M_multiply_302 r0 s285_0 v270 v253 v236 v220 v270 r125)
def f_M_multiply_270v (r0 : (Nat → VV)) (v270 : Int64) (v253 : Int64) (v236 : Int64) (v220 : Int64) (r125 : (Nat → VV)) : (Nat → VV) := (if v220 < v236 then f_M_multiply_285 r0 v270 v253 v236 v220 v220 r125 else f_M_multiply_285 r0 v270 v253 v236 v220 v236 r125)
def f_M_multiply_253v (r0 : (Nat → VV)) (v253 : Int64) (v236 : Int64) (v220 : Int64) (r125 : (Nat → VV)) : (Nat → VV) := f_M_multiply_270v r0 (((r125 16).2.2.2.2.2.1) * ((r125 17).2.2.2.2.2.1)) v253 v236 v220 r125
def f_M_multiply_236v (r0 : (Nat → VV)) (v236 : Int64) (v220 : Int64) (r125 : (Nat → VV)) : (Nat → VV) := f_M_multiply_253v r0 (((r125 16).2.2.2.2.2.1) * ((r125 17).2.2.2.2.1)) v236 v220 r125
def f_M_multiply_220v (r0 : (Nat → VV)) (v220 : Int64) (r125 : (Nat → VV)) : (Nat → VV) := f_M_multiply_236v r0 (((r125 16).2.2.2.2.1) * ((r125 17).2.2.2.2.2.1)) v220 r125
def f_M_multiply_125 (r0 : (Nat → VV)) (r125 : (Nat → VV)) : (Nat → VV) := (if (f_M_isLong ((r125 16).2.2.2.2.1) ((r125 17).2.2.2.2.1)) = true then (if (f_M_isLong ((r125 16).2.2.2.2.1) ((r125 17).2.2.2.2.2.1)) = true then (if (f_M_isLong ((r125 16).2.2.2.2.2.1) ((r125 17).2.2.2.2.1)) = true then (if (f_M_isLong ((r125 16).2.2.2.2.2.1) ((r125 17).2.2.2.2.2.1)) = true then f_M_multiply_220v r0 (((r125 16).2.2.2.2.1) * ((r125 17).2.2.2.2.1)) r125 else r125) else r125) else r125) else r125)
def f_M_multiply_124u (r0 : (Nat → VV)) (r124n : (Nat → VV)) : (Nat → VV) := f_M_multiply_125 r0 r124n
def f_M_multiply_102u (r0 : (Nat → VV)) (r102n : (Nat → VV)) : (Nat → VV) := f_M_multiply_124u r0 (u4 r102n 18 (((r102n 16).2.2.2.1) * ((r102n 17).2.2.2.1)))
def f_M_multiply_58g (r0 : (Nat → VV)) (g58 : (Nat → VV)) : (Nat → VV) := (if (f_M_fits ((g58 16).2.2.2.1) ((g58 17).2.2.2.1)) = true then f_M_multiply_102u r0 (u3 g58 18 (((g58 16).2.2.1) * ((g58 17).2.2.1))) else f_M_multiply_125 r0 g58)
def f_M_multiply_43 (r0 : (Nat → VV)) (s43_0 : Int32) : (Nat → VV) := f_M_multiply_58g r0 (f_M_knowLowest r0 s43_0 (((r0 16).1) * ((r0 17).1)))
def f_M_multiply_31v (r0 : (Nat → VV)) (v31 : Int32) (v15 : Int32) : (Nat → VV) := (if v31 ≤ v15 then f_M_multiply_43 r0 v31 else f_M_multiply_43 r0 v15)
def f_M_multiply_15v (r0 : (Nat → VV)) (v15 : Int32) : (Nat → VV) := f_M_multiply_31v r0 ((f_M_lowest r0 17 false) + (f_M_lowest r0 16 true)) v15
def f_M_multiply (r0 : (Nat → VV)) : (Nat → VV) := f_M_multiply_15v r0 ((f_M_lowest r0 16 false) + (f_M_lowest r0 17 true))
set_option maxRecDepth 100000 in
set_option maxHeartbeats 4000000 in
theorem c_M_multiply (l : Launch) (dC : Nat → ClassId) (dI : Nat → Nat → Nat) (ad : Nat → Nat) (cJ cZ : ClassId) (sz : Nat) (c0 : Int32) (r0 : (Nat → VV)) (w0 : (Nat → Int64)) (s0 : Int32) : Met l y_M_multiply w_M_multiply ({ frames := 4, cells := 0, slots := 0, locals := 105 } : Room) (va_Pc [.ref (ad 0)] (nP (dC, dI) (mT cJ cZ) (mW ad cJ cZ c0 r0 w0 s0) sz)) (va_Qv (fun _ : Unit => True) (mB (dC, dI) (va_A (mW ad cJ cZ c0 r0 w0 s0) sz) (mW ad cJ cZ c0 (f_M_multiply r0) w0 s0)) (va_A (mW ad cJ cZ c0 r0 w0 s0) sz)) 0 0 (va_A (mW ad cJ cZ c0 r0 w0 s0) sz) := by
  refine Met.ofW (cc := b_M_multiply) (maxL := 15) (ret := none) (by decide) rfl ?_
  intro p e s m args below meth c s₁ B hml hv
  obtain ⟨rfl, hsz, hP, hK, hD0⟩ := hv
  have hx := B.exec
  have hb := B.bytes
  have hr := B.returns
  have hts := atoms_spec (ws := w_M_multiply) B.pre
  have hG : ∀ w ∈ gM, w.before _ s = true := fun w h => hts w (List.mem_cons_of_mem _ h)
  have hown : s.vm.findClass R_M = some m.cls := findClass_of_methodNamed B.named
  have hlocks := B.notSynchronized
  subst hsz
  have hD := hD0.self (sz := s.heap.size)
  generalize hAe : va_A (mW ad cJ cZ c0 r0 w0 s0) s.heap.size = A at hD ⊢
  have hA : ∀ q : Nat, s.heap.size ≤ q → A q := fun q h => by rw [← hAe]; exact Or.inr h
  have hS : va_S A s.heap s.heap [] := va_S.rf
  have hl := lv_entry ([.ref (ad 0)]) (n := 15) (Nat.le_of_ble_eq_true rfl)
  rw [lg_entry_eq]
  generalize (lg_sl ([.ref (ad 0)]) ++ List.replicate (15 - (lg_sl ([.ref (ad 0)])).length) Slot.unset).toArray = ls at hl ⊢
  have hl : lv_has ls 15 [(0, .ref (ad 0))] := hl
  have K379u : ∀ (r379n : (Nat → VV)) (hj : f_M_multiply r0 = f_M_multiply_379u r0 r379n) (H : Heap) (locs : List Loc) (hP : va_P (dC, dI) classes (mW ad cJ cZ c0 r379n w0 s0) H) (hD : va_D A (mW ad cJ cZ c0 r379n w0 s0)) (hS : va_S A s.heap H locs) (ls : Array Slot) (hl : lv_has ls 15 []), W p l e (headSpec w_M_multiply ({ frames := 4, cells := 0, slots := 0, locals := 105 } : Room)).room s m ([.ref (ad 0)] : List Value).toArray below meth c H locs 0 0 (MQ below (va_Qv (fun _ : Unit => True) (mB (dC, dI) A (mW ad cJ cZ c0 (f_M_multiply r0) w0 s0)) A) ([.ref (ad 0)] : List Value).toArray s 0 0 A) (F0 m 380 ls []) := by
    intro r379n hj H locs hP hD hS ls hl
    have fe : f_M_multiply r0 = r379n := hj.trans rfl
    exact W.vret hx hb hr (fun t ht hW => ⟨⟨(), rfl, trivial, by rw [ht, fe]; exact hP, by rw [fe]; exact hD⟩, hS.F ht⟩) hS.2.2 d_M_multiply_380
  have K379 : ∀ (s379_0 : Int64) (r325n : (Nat → VV)) (hj : f_M_multiply r0 = f_M_multiply_379 r0 s379_0 r325n) (H : Heap) (locs : List Loc) (hP : va_P (dC, dI) classes (mW ad cJ cZ c0 r325n w0 s0) H) (hD : va_D A (mW ad cJ cZ c0 r325n w0 s0)) (hS : va_S A s.heap H locs) (ls : Array Slot) (hl : lv_has ls 15 []), W p l e (headSpec w_M_multiply ({ frames := 4, cells := 0, slots := 0, locals := 105 } : Room)).room s m ([.ref (ad 0)] : List Value).toArray below meth c H locs 0 0 (MQ below (va_Qv (fun _ : Unit => True) (mB (dC, dI) A (mW ad cJ cZ c0 (f_M_multiply r0) w0 s0)) A) ([.ref (ad 0)] : List Value).toArray s 0 0 A) (F0 m 379 ls [.long (s379_0), .int (18), .ref (ad 6)]) := by
    intro s379_0 r325n hj H locs hP hD hS ls hl
    refine ms_6 (P := 18) (x := s379_0) hx hb hK hP hD hS rfl (by decide) d_M_multiply_379 (fun H locs hP hD hS => ?_)
    obtain ⟨r379n, er379n⟩ : ∃ z, z = u6 r325n 18 s379_0 := ⟨_, rfl⟩
    rw [← er379n] at hP hD
    refine K379u r379n (Eq.trans (hj.trans rfl) (congrArg (fun r379n => f_M_multiply_379u r0 r379n) er379n.symm)) H locs ?_ ?_ hS ls (lv_sub hl [] rfl)
    · with_reducible exact hP
    · with_reducible exact hD
  have K356 : ∀ (s339_0 : Int64) (s356_0 : Int64) (r325n : (Nat → VV)) (hj : f_M_multiply r0 = f_M_multiply_356 r0 s339_0 s356_0 r325n) (H : Heap) (locs : List Loc) (hP : va_P (dC, dI) classes (mW ad cJ cZ c0 r325n w0 s0) H) (hD : va_D A (mW ad cJ cZ c0 r325n w0 s0)) (hS : va_S A s.heap H locs) (ls : Array Slot) (hl : lv_has ls 15 [(11, .long (s339_0)), (0, .ref (ad 0))]), W p l e (headSpec w_M_multiply ({ frames := 4, cells := 0, slots := 0, locals := 105 } : Room)).room s m ([.ref (ad 0)] : List Value).toArray below meth c H locs 0 0 (MQ below (va_Qv (fun _ : Unit => True) (mB (dC, dI) A (mW ad cJ cZ c0 (f_M_multiply r0) w0 s0)) A) ([.ref (ad 0)] : List Value).toArray s 0 0 A) (F0 m 356 ls [.long (s356_0)]) := by
    intro s339_0 s356_0 r325n hj H locs hP hD hS ls hl
    refine lv_lstore (lv' := [(13, .long (s356_0)), (11, .long (s339_0)), (0, .ref (ad 0))]) hx hb d_M_multiply_356 hl (by decide) rfl (fun ls hl => ?_)
    refine lv_aload_n hx hb d_M_multiply_358 rfl (lv_at hl 2 rfl) ?_
    refine va_get (D := (dC, dI)) (ci := 2) (v := .ref (ad 6)) (C := R_M) (T := F_M) (N := 10) hx hb hts (fun w h => List.mem_cons_of_mem _ (uw_M w h)) hown hK hP 0 rfl rfl 6 (by decide) (hG (.fieldLink R_M 25 "ValueSieveModel" "greatest" "[J") gx15) (fun _ h9 => h9) rfl d_M_multiply_359 ?_
    refine lv_bipush (v := 18) hx hb d_M_multiply_362 (by decide) ?_
    refine lv_lload hx hb d_M_multiply_364 (lv_at hl 1 rfl) ?_
    refine lv_lload hx hb d_M_multiply_366 (lv_at hl 0 rfl) ?_
    refine wl_ge (tgt := 377) hx hb d_M_multiply_368 d_M_multiply_369 (by decide) (fun e1_377 => ?_) (fun e1_377 => ?_)
    · refine lv_lload hx hb d_M_multiply_377 (lv_at hl 1 rfl) ?_
      refine K379 s339_0 r325n (hj.trans (by unfold f_M_multiply_356; first | with_reducible exact if_neg e1_377 | exact if_neg e1_377)) H locs ?_ ?_ hS ls (lv_sub hl [] rfl)
      · with_reducible exact hP
      · with_reducible exact hD
    · refine lv_lload hx hb d_M_multiply_372 (lv_at hl 0 rfl) ?_
      refine lv_goto (tgt := 379) hx hb d_M_multiply_374 (by decide) ?_
      refine K379 s356_0 r325n (hj.trans (by unfold f_M_multiply_356; first | with_reducible exact if_pos e1_377 | exact if_pos e1_377)) H locs ?_ ?_ hS ls (lv_sub hl [] rfl)
      · with_reducible exact hP
      · with_reducible exact hD
  have K339 : ∀ (v270 : Int64) (v253 : Int64) (s339_0 : Int64) (r325n : (Nat → VV)) (hj : f_M_multiply r0 = f_M_multiply_339 r0 v270 v253 s339_0 r325n) (H : Heap) (locs : List Loc) (hP : va_P (dC, dI) classes (mW ad cJ cZ c0 r325n w0 s0) H) (hD : va_D A (mW ad cJ cZ c0 r325n w0 s0)) (hS : va_S A s.heap H locs) (ls : Array Slot) (hl : lv_has ls 15 [(9, .long (v270)), (7, .long (v253)), (0, .ref (ad 0))]), W p l e (headSpec w_M_multiply ({ frames := 4, cells := 0, slots := 0, locals := 105 } : Room)).room s m ([.ref (ad 0)] : List Value).toArray below meth c H locs 0 0 (MQ below (va_Qv (fun _ : Unit => True) (mB (dC, dI) A (mW ad cJ cZ c0 (f_M_multiply r0) w0 s0)) A) ([.ref (ad 0)] : List Value).toArray s 0 0 A) (F0 m 339 ls [.long (s339_0)]) := by
    intro v270 v253 s339_0 r325n hj H locs hP hD hS ls hl
    refine lv_lstore (lv' := [(11, .long (s339_0)), (9, .long (v270)), (7, .long (v253)), (0, .ref (ad 0))]) hx hb d_M_multiply_339 hl (by decide) rfl (fun ls hl => ?_)
    refine lv_lload hx hb d_M_multiply_341 (lv_at hl 2 rfl) ?_
    refine lv_lload hx hb d_M_multiply_343 (lv_at hl 1 rfl) ?_
    refine wl_ge (tgt := 354) hx hb d_M_multiply_345 d_M_multiply_346 (by decide) (fun e1_354 => ?_) (fun e1_354 => ?_)
    · refine lv_lload hx hb d_M_multiply_354 (lv_at hl 2 rfl) ?_
      refine K356 s339_0 v253 r325n (hj.trans (by unfold f_M_multiply_339; first | with_reducible exact if_neg e1_354 | exact if_neg e1_354)) H locs ?_ ?_ hS ls (lv_sub hl [0, 3] rfl)
      · with_reducible exact hP
      · with_reducible exact hD
    · refine lv_lload hx hb d_M_multiply_349 (lv_at hl 1 rfl) ?_
      refine lv_goto (tgt := 356) hx hb d_M_multiply_351 (by decide) ?_
      refine K356 s339_0 v270 r325n (hj.trans (by unfold f_M_multiply_339; first | with_reducible exact if_pos e1_354 | exact if_pos e1_354)) H locs ?_ ?_ hS ls (lv_sub hl [0, 3] rfl)
      · with_reducible exact hP
      · with_reducible exact hD
  have K325u : ∀ (v270 : Int64) (v253 : Int64) (v236 : Int64) (v220 : Int64) (r325n : (Nat → VV)) (hj : f_M_multiply r0 = f_M_multiply_325u r0 v270 v253 v236 v220 r325n) (H : Heap) (locs : List Loc) (hP : va_P (dC, dI) classes (mW ad cJ cZ c0 r325n w0 s0) H) (hD : va_D A (mW ad cJ cZ c0 r325n w0 s0)) (hS : va_S A s.heap H locs) (ls : Array Slot) (hl : lv_has ls 15 [(9, .long (v270)), (7, .long (v253)), (5, .long (v236)), (3, .long (v220)), (0, .ref (ad 0))]), W p l e (headSpec w_M_multiply ({ frames := 4, cells := 0, slots := 0, locals := 105 } : Room)).room s m ([.ref (ad 0)] : List Value).toArray below meth c H locs 0 0 (MQ below (va_Qv (fun _ : Unit => True) (mB (dC, dI) A (mW ad cJ cZ c0 (f_M_multiply r0) w0 s0)) A) ([.ref (ad 0)] : List Value).toArray s 0 0 A) (F0 m 326 ls []) := by
    intro v270 v253 v236 v220 r325n hj H locs hP hD hS ls hl
    refine lv_lload_n hx hb d_M_multiply_326 rfl (lv_at hl 3 rfl) ?_
    refine lv_lload hx hb d_M_multiply_327 (lv_at hl 2 rfl) ?_
    refine wl_ge (tgt := 338) hx hb d_M_multiply_329 d_M_multiply_330 (by decide) (fun e1_338 => ?_) (fun e1_338 => ?_)
    · refine lv_lload_n hx hb d_M_multiply_338 rfl (lv_at hl 3 rfl) ?_
      refine K339 v270 v253 v220 r325n (hj.trans (by unfold f_M_multiply_325u; first | with_reducible exact if_neg e1_338 | exact if_neg e1_338)) H locs ?_ ?_ hS ls (lv_sub hl [0, 1, 4] rfl)
      · with_reducible exact hP
      · with_reducible exact hD
    · refine lv_lload hx hb d_M_multiply_333 (lv_at hl 2 rfl) ?_
      refine lv_goto (tgt := 339) hx hb d_M_multiply_335 (by decide) ?_
      refine K339 v270 v253 v236 r325n (hj.trans (by unfold f_M_multiply_325u; first | with_reducible exact if_pos e1_338 | exact if_pos e1_338)) H locs ?_ ?_ hS ls (lv_sub hl [0, 1, 4] rfl)
      · with_reducible exact hP
      · with_reducible exact hD
  have K325 : ∀ (v270 : Int64) (v253 : Int64) (v236 : Int64) (v220 : Int64) (s325_0 : Int64) (r125 : (Nat → VV)) (hj : f_M_multiply r0 = f_M_multiply_325 r0 v270 v253 v236 v220 s325_0 r125) (H : Heap) (locs : List Loc) (hP : va_P (dC, dI) classes (mW ad cJ cZ c0 r125 w0 s0) H) (hD : va_D A (mW ad cJ cZ c0 r125 w0 s0)) (hS : va_S A s.heap H locs) (ls : Array Slot) (hl : lv_has ls 15 [(9, .long (v270)), (7, .long (v253)), (5, .long (v236)), (3, .long (v220)), (0, .ref (ad 0))]), W p l e (headSpec w_M_multiply ({ frames := 4, cells := 0, slots := 0, locals := 105 } : Room)).room s m ([.ref (ad 0)] : List Value).toArray below meth c H locs 0 0 (MQ below (va_Qv (fun _ : Unit => True) (mB (dC, dI) A (mW ad cJ cZ c0 (f_M_multiply r0) w0 s0)) A) ([.ref (ad 0)] : List Value).toArray s 0 0 A) (F0 m 325 ls [.long (s325_0), .int (18), .ref (ad 5)]) := by
    intro v270 v253 v236 v220 s325_0 r125 hj H locs hP hD hS ls hl
    refine ms_5 (P := 18) (x := s325_0) hx hb hK hP hD hS rfl (by decide) d_M_multiply_325 (fun H locs hP hD hS => ?_)
    obtain ⟨r325n, er325n⟩ : ∃ z, z = u5 r125 18 s325_0 := ⟨_, rfl⟩
    rw [← er325n] at hP hD
    refine K325u v270 v253 v236 v220 r325n (Eq.trans (hj.trans rfl) (congrArg (fun r325n => f_M_multiply_325u r0 v270 v253 v236 v220 r325n) er325n.symm)) H locs ?_ ?_ hS ls (lv_sub hl [0, 1, 2, 3, 4] rfl)
    · with_reducible exact hP
    · with_reducible exact hD
  have K302 : ∀ (s285_0 : Int64) (v270 : Int64) (v253 : Int64) (v236 : Int64) (v220 : Int64) (s302_0 : Int64) (r125 : (Nat → VV)) (hj : f_M_multiply r0 = f_M_multiply_302 r0 s285_0 v270 v253 v236 v220 s302_0 r125) (H : Heap) (locs : List Loc) (hP : va_P (dC, dI) classes (mW ad cJ cZ c0 r125 w0 s0) H) (hD : va_D A (mW ad cJ cZ c0 r125 w0 s0)) (hS : va_S A s.heap H locs) (ls : Array Slot) (hl : lv_has ls 15 [(11, .long (s285_0)), (9, .long (v270)), (7, .long (v253)), (5, .long (v236)), (3, .long (v220)), (0, .ref (ad 0))]), W p l e (headSpec w_M_multiply ({ frames := 4, cells := 0, slots := 0, locals := 105 } : Room)).room s m ([.ref (ad 0)] : List Value).toArray below meth c H locs 0 0 (MQ below (va_Qv (fun _ : Unit => True) (mB (dC, dI) A (mW ad cJ cZ c0 (f_M_multiply r0) w0 s0)) A) ([.ref (ad 0)] : List Value).toArray s 0 0 A) (F0 m 302 ls [.long (s302_0)]) := by
    intro s285_0 v270 v253 v236 v220 s302_0 r125 hj H locs hP hD hS ls hl
    refine lv_lstore (lv' := [(13, .long (s302_0)), (11, .long (s285_0)), (9, .long (v270)), (7, .long (v253)), (5, .long (v236)), (3, .long (v220)), (0, .ref (ad 0))]) hx hb d_M_multiply_302 hl (by decide) rfl (fun ls hl => ?_)
    refine lv_aload_n hx hb d_M_multiply_304 rfl (lv_at hl 6 rfl) ?_
    refine va_get (D := (dC, dI)) (ci := 2) (v := .ref (ad 5)) (C := R_M) (T := F_M) (N := 10) hx hb hts (fun w h => List.mem_cons_of_mem _ (uw_M w h)) hown hK hP 0 rfl rfl 5 (by decide) (hG (.fieldLink R_M 22 "ValueSieveModel" "least" "[J") gx14) (fun _ h9 => h9) rfl d_M_multiply_305 ?_
    refine lv_bipush (v := 18) hx hb d_M_multiply_308 (by decide) ?_
    refine lv_lload hx hb d_M_multiply_310 (lv_at hl 1 rfl) ?_
    refine lv_lload hx hb d_M_multiply_312 (lv_at hl 0 rfl) ?_
    refine wl_ge (tgt := 323) hx hb d_M_multiply_314 d_M_multiply_315 (by decide) (fun e1_323 => ?_) (fun e1_323 => ?_)
    · refine lv_lload hx hb d_M_multiply_323 (lv_at hl 0 rfl) ?_
      refine K325 v270 v253 v236 v220 s302_0 r125 (hj.trans (by unfold f_M_multiply_302; first | with_reducible exact if_neg e1_323 | exact if_neg e1_323)) H locs ?_ ?_ hS ls (lv_sub hl [2, 3, 4, 5, 6] rfl)
      · with_reducible exact hP
      · with_reducible exact hD
    · refine lv_lload hx hb d_M_multiply_318 (lv_at hl 1 rfl) ?_
      refine lv_goto (tgt := 325) hx hb d_M_multiply_320 (by decide) ?_
      refine K325 v270 v253 v236 v220 s285_0 r125 (hj.trans (by unfold f_M_multiply_302; first | with_reducible exact if_pos e1_323 | exact if_pos e1_323)) H locs ?_ ?_ hS ls (lv_sub hl [2, 3, 4, 5, 6] rfl)
      · with_reducible exact hP
      · with_reducible exact hD
  have K285 : ∀ (v270 : Int64) (v253 : Int64) (v236 : Int64) (v220 : Int64) (s285_0 : Int64) (r125 : (Nat → VV)) (hj : f_M_multiply r0 = f_M_multiply_285 r0 v270 v253 v236 v220 s285_0 r125) (H : Heap) (locs : List Loc) (hP : va_P (dC, dI) classes (mW ad cJ cZ c0 r125 w0 s0) H) (hD : va_D A (mW ad cJ cZ c0 r125 w0 s0)) (hS : va_S A s.heap H locs) (ls : Array Slot) (hl : lv_has ls 15 [(9, .long (v270)), (7, .long (v253)), (5, .long (v236)), (3, .long (v220)), (0, .ref (ad 0))]), W p l e (headSpec w_M_multiply ({ frames := 4, cells := 0, slots := 0, locals := 105 } : Room)).room s m ([.ref (ad 0)] : List Value).toArray below meth c H locs 0 0 (MQ below (va_Qv (fun _ : Unit => True) (mB (dC, dI) A (mW ad cJ cZ c0 (f_M_multiply r0) w0 s0)) A) ([.ref (ad 0)] : List Value).toArray s 0 0 A) (F0 m 285 ls [.long (s285_0)]) := by
    intro v270 v253 v236 v220 s285_0 r125 hj H locs hP hD hS ls hl
    refine lv_lstore (lv' := [(11, .long (s285_0)), (9, .long (v270)), (7, .long (v253)), (5, .long (v236)), (3, .long (v220)), (0, .ref (ad 0))]) hx hb d_M_multiply_285 hl (by decide) rfl (fun ls hl => ?_)
    refine lv_lload hx hb d_M_multiply_287 (lv_at hl 2 rfl) ?_
    refine lv_lload hx hb d_M_multiply_289 (lv_at hl 1 rfl) ?_
    refine wl_ge (tgt := 300) hx hb d_M_multiply_291 d_M_multiply_292 (by decide) (fun e1_300 => ?_) (fun e1_300 => ?_)
    · refine lv_lload hx hb d_M_multiply_300 (lv_at hl 1 rfl) ?_
      refine K302 s285_0 v270 v253 v236 v220 v270 r125 (hj.trans (by unfold f_M_multiply_285; first | with_reducible exact if_neg e1_300 | exact if_neg e1_300)) H locs ?_ ?_ hS ls (lv_sub hl [0, 1, 2, 3, 4, 5] rfl)
      · with_reducible exact hP
      · with_reducible exact hD
    · refine lv_lload hx hb d_M_multiply_295 (lv_at hl 2 rfl) ?_
      refine lv_goto (tgt := 302) hx hb d_M_multiply_297 (by decide) ?_
      refine K302 s285_0 v270 v253 v236 v220 v253 r125 (hj.trans (by unfold f_M_multiply_285; first | with_reducible exact if_pos e1_300 | exact if_pos e1_300)) H locs ?_ ?_ hS ls (lv_sub hl [0, 1, 2, 3, 4, 5] rfl)
      · with_reducible exact hP
      · with_reducible exact hD
  have K270v : ∀ (v270 : Int64) (v253 : Int64) (v236 : Int64) (v220 : Int64) (r125 : (Nat → VV)) (hj : f_M_multiply r0 = f_M_multiply_270v r0 v270 v253 v236 v220 r125) (H : Heap) (locs : List Loc) (hP : va_P (dC, dI) classes (mW ad cJ cZ c0 r125 w0 s0) H) (hD : va_D A (mW ad cJ cZ c0 r125 w0 s0)) (hS : va_S A s.heap H locs) (ls : Array Slot) (hl : lv_has ls 15 [(9, .long (v270)), (7, .long (v253)), (5, .long (v236)), (3, .long (v220)), (0, .ref (ad 0))]), W p l e (headSpec w_M_multiply ({ frames := 4, cells := 0, slots := 0, locals := 105 } : Room)).room s m ([.ref (ad 0)] : List Value).toArray below meth c H locs 0 0 (MQ below (va_Qv (fun _ : Unit => True) (mB (dC, dI) A (mW ad cJ cZ c0 (f_M_multiply r0) w0 s0)) A) ([.ref (ad 0)] : List Value).toArray s 0 0 A) (F0 m 272 ls []) := by
    intro v270 v253 v236 v220 r125 hj H locs hP hD hS ls hl
    refine lv_lload_n hx hb d_M_multiply_272 rfl (lv_at hl 3 rfl) ?_
    refine lv_lload hx hb d_M_multiply_273 (lv_at hl 2 rfl) ?_
    refine wl_ge (tgt := 283) hx hb d_M_multiply_275 d_M_multiply_276 (by decide) (fun e1_283 => ?_) (fun e1_283 => ?_)
    · refine lv_lload hx hb d_M_multiply_283 (lv_at hl 2 rfl) ?_
      refine K285 v270 v253 v236 v220 v236 r125 (hj.trans (by unfold f_M_multiply_270v; first | with_reducible exact if_neg e1_283 | exact if_neg e1_283)) H locs ?_ ?_ hS ls (lv_sub hl [0, 1, 2, 3, 4] rfl)
      · with_reducible exact hP
      · with_reducible exact hD
    · refine lv_lload_n hx hb d_M_multiply_279 rfl (lv_at hl 3 rfl) ?_
      refine lv_goto (tgt := 285) hx hb d_M_multiply_280 (by decide) ?_
      refine K285 v270 v253 v236 v220 v220 r125 (hj.trans (by unfold f_M_multiply_270v; first | with_reducible exact if_pos e1_283 | exact if_pos e1_283)) H locs ?_ ?_ hS ls (lv_sub hl [0, 1, 2, 3, 4] rfl)
      · with_reducible exact hP
      · with_reducible exact hD
  have K253v : ∀ (v253 : Int64) (v236 : Int64) (v220 : Int64) (r125 : (Nat → VV)) (hj : f_M_multiply r0 = f_M_multiply_253v r0 v253 v236 v220 r125) (H : Heap) (locs : List Loc) (hP : va_P (dC, dI) classes (mW ad cJ cZ c0 r125 w0 s0) H) (hD : va_D A (mW ad cJ cZ c0 r125 w0 s0)) (hS : va_S A s.heap H locs) (ls : Array Slot) (hl : lv_has ls 15 [(7, .long (v253)), (5, .long (v236)), (3, .long (v220)), (0, .ref (ad 0))]), W p l e (headSpec w_M_multiply ({ frames := 4, cells := 0, slots := 0, locals := 105 } : Room)).room s m ([.ref (ad 0)] : List Value).toArray below meth c H locs 0 0 (MQ below (va_Qv (fun _ : Unit => True) (mB (dC, dI) A (mW ad cJ cZ c0 (f_M_multiply r0) w0 s0)) A) ([.ref (ad 0)] : List Value).toArray s 0 0 A) (F0 m 255 ls []) := by
    intro v253 v236 v220 r125 hj H locs hP hD hS ls hl
    refine lv_aload_n hx hb d_M_multiply_255 rfl (lv_at hl 3 rfl) ?_
    refine va_get (D := (dC, dI)) (ci := 2) (v := .ref (ad 6)) (C := R_M) (T := F_M) (N := 10) hx hb hts (fun w h => List.mem_cons_of_mem _ (uw_M w h)) hown hK hP 0 rfl rfl 6 (by decide) (hG (.fieldLink R_M 25 "ValueSieveModel" "greatest" "[J") gx15) (fun _ h9 => h9) rfl d_M_multiply_256 ?_
    refine lv_bipush (v := 16) hx hb d_M_multiply_259 (by decide) ?_
    refine ml_6 (P := 16) hx hb hK hP rfl (by decide) d_M_multiply_261 ?_
    refine lv_aload_n hx hb d_M_multiply_262 rfl (lv_at hl 3 rfl) ?_
    refine va_get (D := (dC, dI)) (ci := 2) (v := .ref (ad 6)) (C := R_M) (T := F_M) (N := 10) hx hb hts (fun w h => List.mem_cons_of_mem _ (uw_M w h)) hown hK hP 0 rfl rfl 6 (by decide) (hG (.fieldLink R_M 25 "ValueSieveModel" "greatest" "[J") gx15) (fun _ h9 => h9) rfl d_M_multiply_263 ?_
    refine lv_bipush (v := 17) hx hb d_M_multiply_266 (by decide) ?_
    refine ml_6 (P := 17) hx hb hK hP rfl (by decide) d_M_multiply_268 ?_
    refine lv_lmul hx hb d_M_multiply_269 ?_
    refine lv_topl (fun v270 ev270 => ?_)
    refine lv_lstore (lv' := [(9, .long (v270)), (7, .long (v253)), (5, .long (v236)), (3, .long (v220)), (0, .ref (ad 0))]) hx hb d_M_multiply_270 hl (by decide) rfl (fun ls hl => ?_)
    refine K270v v270 v253 v236 v220 r125 (Eq.trans (hj.trans rfl) (congrArg (fun v270 => f_M_multiply_270v r0 v270 v253 v236 v220 r125) ev270.symm)) H locs ?_ ?_ hS ls (lv_sub hl [0, 1, 2, 3, 4] rfl)
    · with_reducible exact hP
    · with_reducible exact hD
  have K236v : ∀ (v236 : Int64) (v220 : Int64) (r125 : (Nat → VV)) (hj : f_M_multiply r0 = f_M_multiply_236v r0 v236 v220 r125) (H : Heap) (locs : List Loc) (hP : va_P (dC, dI) classes (mW ad cJ cZ c0 r125 w0 s0) H) (hD : va_D A (mW ad cJ cZ c0 r125 w0 s0)) (hS : va_S A s.heap H locs) (ls : Array Slot) (hl : lv_has ls 15 [(5, .long (v236)), (3, .long (v220)), (0, .ref (ad 0))]), W p l e (headSpec w_M_multiply ({ frames := 4, cells := 0, slots := 0, locals := 105 } : Room)).room s m ([.ref (ad 0)] : List Value).toArray below meth c H locs 0 0 (MQ below (va_Qv (fun _ : Unit => True) (mB (dC, dI) A (mW ad cJ cZ c0 (f_M_multiply r0) w0 s0)) A) ([.ref (ad 0)] : List Value).toArray s 0 0 A) (F0 m 238 ls []) := by
    intro v236 v220 r125 hj H locs hP hD hS ls hl
    refine lv_aload_n hx hb d_M_multiply_238 rfl (lv_at hl 2 rfl) ?_
    refine va_get (D := (dC, dI)) (ci := 2) (v := .ref (ad 6)) (C := R_M) (T := F_M) (N := 10) hx hb hts (fun w h => List.mem_cons_of_mem _ (uw_M w h)) hown hK hP 0 rfl rfl 6 (by decide) (hG (.fieldLink R_M 25 "ValueSieveModel" "greatest" "[J") gx15) (fun _ h9 => h9) rfl d_M_multiply_239 ?_
    refine lv_bipush (v := 16) hx hb d_M_multiply_242 (by decide) ?_
    refine ml_6 (P := 16) hx hb hK hP rfl (by decide) d_M_multiply_244 ?_
    refine lv_aload_n hx hb d_M_multiply_245 rfl (lv_at hl 2 rfl) ?_
    refine va_get (D := (dC, dI)) (ci := 2) (v := .ref (ad 5)) (C := R_M) (T := F_M) (N := 10) hx hb hts (fun w h => List.mem_cons_of_mem _ (uw_M w h)) hown hK hP 0 rfl rfl 5 (by decide) (hG (.fieldLink R_M 22 "ValueSieveModel" "least" "[J") gx14) (fun _ h9 => h9) rfl d_M_multiply_246 ?_
    refine lv_bipush (v := 17) hx hb d_M_multiply_249 (by decide) ?_
    refine ml_5 (P := 17) hx hb hK hP rfl (by decide) d_M_multiply_251 ?_
    refine lv_lmul hx hb d_M_multiply_252 ?_
    refine lv_topl (fun v253 ev253 => ?_)
    refine lv_lstore (lv' := [(7, .long (v253)), (5, .long (v236)), (3, .long (v220)), (0, .ref (ad 0))]) hx hb d_M_multiply_253 hl (by decide) rfl (fun ls hl => ?_)
    refine K253v v253 v236 v220 r125 (Eq.trans (hj.trans rfl) (congrArg (fun v253 => f_M_multiply_253v r0 v253 v236 v220 r125) ev253.symm)) H locs ?_ ?_ hS ls (lv_sub hl [0, 1, 2, 3] rfl)
    · with_reducible exact hP
    · with_reducible exact hD
  have K220v : ∀ (v220 : Int64) (r125 : (Nat → VV)) (hj : f_M_multiply r0 = f_M_multiply_220v r0 v220 r125) (H : Heap) (locs : List Loc) (hP : va_P (dC, dI) classes (mW ad cJ cZ c0 r125 w0 s0) H) (hD : va_D A (mW ad cJ cZ c0 r125 w0 s0)) (hS : va_S A s.heap H locs) (ls : Array Slot) (hl : lv_has ls 15 [(3, .long (v220)), (0, .ref (ad 0))]), W p l e (headSpec w_M_multiply ({ frames := 4, cells := 0, slots := 0, locals := 105 } : Room)).room s m ([.ref (ad 0)] : List Value).toArray below meth c H locs 0 0 (MQ below (va_Qv (fun _ : Unit => True) (mB (dC, dI) A (mW ad cJ cZ c0 (f_M_multiply r0) w0 s0)) A) ([.ref (ad 0)] : List Value).toArray s 0 0 A) (F0 m 221 ls []) := by
    intro v220 r125 hj H locs hP hD hS ls hl
    refine lv_aload_n hx hb d_M_multiply_221 rfl (lv_at hl 1 rfl) ?_
    refine va_get (D := (dC, dI)) (ci := 2) (v := .ref (ad 5)) (C := R_M) (T := F_M) (N := 10) hx hb hts (fun w h => List.mem_cons_of_mem _ (uw_M w h)) hown hK hP 0 rfl rfl 5 (by decide) (hG (.fieldLink R_M 22 "ValueSieveModel" "least" "[J") gx14) (fun _ h9 => h9) rfl d_M_multiply_222 ?_
    refine lv_bipush (v := 16) hx hb d_M_multiply_225 (by decide) ?_
    refine ml_5 (P := 16) hx hb hK hP rfl (by decide) d_M_multiply_227 ?_
    refine lv_aload_n hx hb d_M_multiply_228 rfl (lv_at hl 1 rfl) ?_
    refine va_get (D := (dC, dI)) (ci := 2) (v := .ref (ad 6)) (C := R_M) (T := F_M) (N := 10) hx hb hts (fun w h => List.mem_cons_of_mem _ (uw_M w h)) hown hK hP 0 rfl rfl 6 (by decide) (hG (.fieldLink R_M 25 "ValueSieveModel" "greatest" "[J") gx15) (fun _ h9 => h9) rfl d_M_multiply_229 ?_
    refine lv_bipush (v := 17) hx hb d_M_multiply_232 (by decide) ?_
    refine ml_6 (P := 17) hx hb hK hP rfl (by decide) d_M_multiply_234 ?_
    refine lv_lmul hx hb d_M_multiply_235 ?_
    refine lv_topl (fun v236 ev236 => ?_)
    refine lv_lstore (lv' := [(5, .long (v236)), (3, .long (v220)), (0, .ref (ad 0))]) hx hb d_M_multiply_236 hl (by decide) rfl (fun ls hl => ?_)
    refine K236v v236 v220 r125 (Eq.trans (hj.trans rfl) (congrArg (fun v236 => f_M_multiply_236v r0 v236 v220 r125) ev236.symm)) H locs ?_ ?_ hS ls (lv_sub hl [0, 1, 2] rfl)
    · with_reducible exact hP
    · with_reducible exact hD
  have K125 : ∀ (r125 : (Nat → VV)) (hj : f_M_multiply r0 = f_M_multiply_125 r0 r125) (H : Heap) (locs : List Loc) (hP : va_P (dC, dI) classes (mW ad cJ cZ c0 r125 w0 s0) H) (hD : va_D A (mW ad cJ cZ c0 r125 w0 s0)) (hS : va_S A s.heap H locs) (ls : Array Slot) (hl : lv_has ls 15 [(0, .ref (ad 0))]), W p l e (headSpec w_M_multiply ({ frames := 4, cells := 0, slots := 0, locals := 105 } : Room)).room s m ([.ref (ad 0)] : List Value).toArray below meth c H locs 0 0 (MQ below (va_Qv (fun _ : Unit => True) (mB (dC, dI) A (mW ad cJ cZ c0 (f_M_multiply r0) w0 s0)) A) ([.ref (ad 0)] : List Value).toArray s 0 0 A) (F0 m 125 ls []) := by
    intro r125 hj H locs hP hD hS ls hl
    refine lv_aload_n hx hb d_M_multiply_125 rfl (lv_at hl 0 rfl) ?_
    refine va_get (D := (dC, dI)) (ci := 2) (v := .ref (ad 5)) (C := R_M) (T := F_M) (N := 10) hx hb hts (fun w h => List.mem_cons_of_mem _ (uw_M w h)) hown hK hP 0 rfl rfl 5 (by decide) (hG (.fieldLink R_M 22 "ValueSieveModel" "least" "[J") gx14) (fun _ h9 => h9) rfl d_M_multiply_126 ?_
    refine lv_bipush (v := 16) hx hb d_M_multiply_129 (by decide) ?_
    refine ml_5 (P := 16) hx hb hK hP rfl (by decide) d_M_multiply_131 ?_
    refine lv_aload_n hx hb d_M_multiply_132 rfl (lv_at hl 0 rfl) ?_
    refine va_get (D := (dC, dI)) (ci := 2) (v := .ref (ad 5)) (C := R_M) (T := F_M) (N := 10) hx hb hts (fun w h => List.mem_cons_of_mem _ (uw_M w h)) hown hK hP 0 rfl rfl 5 (by decide) (hG (.fieldLink R_M 22 "ValueSieveModel" "least" "[J") gx14) (fun _ h9 => h9) rfl d_M_multiply_133 ?_
    refine lv_bipush (v := 17) hx hb d_M_multiply_136 (by decide) ?_
    refine ml_5 (P := 17) hx hb hK hP rfl (by decide) d_M_multiply_138 ?_
    refine rc_i (W.runS (As := [.long ((r125 16).2.2.2.2.1), .long ((r125 17).2.2.2.2.1)]) (rest := []) ⟨hx, hb, hml, hown, hts⟩ (c_M_isLong l ((r125 16).2.2.2.2.1) ((r125 17).2.2.2.2.1)) (va_cwS 2 hts (gxS gx161 gx162 gx0 gx163) rfl rfl rfl (by decide +kernel) ⟨(Nat.le_of_ble_eq_true rfl), (Nat.le_of_ble_eq_true rfl)⟩) ⟨bl0, fun U hU hW => ⟨rfl, trivial⟩⟩ rfl rfl hl.1 rfl (lv_room (Nat.le_of_ble_eq_true rfl)) d_M_multiply_139 ⟨Nat.zero_le _, Nat.zero_le _⟩) ?_
    refine wz_eq (tgt := 380) hx hb d_M_multiply_142 (by decide) (fun e1_380 => ?_) (fun e1_380 => ?_)
    · have fe : f_M_multiply r0 = r125 := hj.trans (by unfold f_M_multiply_125; first | with_reducible exact if_neg e1_380 | exact if_neg e1_380)
      exact W.vret hx hb hr (fun t ht hW => ⟨⟨(), rfl, trivial, by rw [ht, fe]; exact hP, by rw [fe]; exact hD⟩, hS.F ht⟩) hS.2.2 d_M_multiply_380
    · refine lv_aload_n hx hb d_M_multiply_145 rfl (lv_at hl 0 rfl) ?_
      refine va_get (D := (dC, dI)) (ci := 2) (v := .ref (ad 5)) (C := R_M) (T := F_M) (N := 10) hx hb hts (fun w h => List.mem_cons_of_mem _ (uw_M w h)) hown hK hP 0 rfl rfl 5 (by decide) (hG (.fieldLink R_M 22 "ValueSieveModel" "least" "[J") gx14) (fun _ h9 => h9) rfl d_M_multiply_146 ?_
      refine lv_bipush (v := 16) hx hb d_M_multiply_149 (by decide) ?_
      refine ml_5 (P := 16) hx hb hK hP rfl (by decide) d_M_multiply_151 ?_
      refine lv_aload_n hx hb d_M_multiply_152 rfl (lv_at hl 0 rfl) ?_
      refine va_get (D := (dC, dI)) (ci := 2) (v := .ref (ad 6)) (C := R_M) (T := F_M) (N := 10) hx hb hts (fun w h => List.mem_cons_of_mem _ (uw_M w h)) hown hK hP 0 rfl rfl 6 (by decide) (hG (.fieldLink R_M 25 "ValueSieveModel" "greatest" "[J") gx15) (fun _ h9 => h9) rfl d_M_multiply_153 ?_
      refine lv_bipush (v := 17) hx hb d_M_multiply_156 (by decide) ?_
      refine ml_6 (P := 17) hx hb hK hP rfl (by decide) d_M_multiply_158 ?_
      refine rc_i (W.runS (As := [.long ((r125 16).2.2.2.2.1), .long ((r125 17).2.2.2.2.2.1)]) (rest := []) ⟨hx, hb, hml, hown, hts⟩ (c_M_isLong l ((r125 16).2.2.2.2.1) ((r125 17).2.2.2.2.2.1)) (va_cwS 2 hts (gxS gx161 gx162 gx0 gx163) rfl rfl rfl (by decide +kernel) ⟨(Nat.le_of_ble_eq_true rfl), (Nat.le_of_ble_eq_true rfl)⟩) ⟨bl0, fun U hU hW => ⟨rfl, trivial⟩⟩ rfl rfl hl.1 rfl (lv_room (Nat.le_of_ble_eq_true rfl)) d_M_multiply_159 ⟨Nat.zero_le _, Nat.zero_le _⟩) ?_
      refine wz_eq (tgt := 380) hx hb d_M_multiply_162 (by decide) (fun e2_380 => ?_) (fun e2_380 => ?_)
      · have fe : f_M_multiply r0 = r125 := hj.trans (by unfold f_M_multiply_125; first | with_reducible exact (if_pos e1_380).trans (if_neg e2_380) | exact (if_pos e1_380).trans (if_neg e2_380))
        exact W.vret hx hb hr (fun t ht hW => ⟨⟨(), rfl, trivial, by rw [ht, fe]; exact hP, by rw [fe]; exact hD⟩, hS.F ht⟩) hS.2.2 d_M_multiply_380
      · refine lv_aload_n hx hb d_M_multiply_165 rfl (lv_at hl 0 rfl) ?_
        refine va_get (D := (dC, dI)) (ci := 2) (v := .ref (ad 6)) (C := R_M) (T := F_M) (N := 10) hx hb hts (fun w h => List.mem_cons_of_mem _ (uw_M w h)) hown hK hP 0 rfl rfl 6 (by decide) (hG (.fieldLink R_M 25 "ValueSieveModel" "greatest" "[J") gx15) (fun _ h9 => h9) rfl d_M_multiply_166 ?_
        refine lv_bipush (v := 16) hx hb d_M_multiply_169 (by decide) ?_
        refine ml_6 (P := 16) hx hb hK hP rfl (by decide) d_M_multiply_171 ?_
        refine lv_aload_n hx hb d_M_multiply_172 rfl (lv_at hl 0 rfl) ?_
        refine va_get (D := (dC, dI)) (ci := 2) (v := .ref (ad 5)) (C := R_M) (T := F_M) (N := 10) hx hb hts (fun w h => List.mem_cons_of_mem _ (uw_M w h)) hown hK hP 0 rfl rfl 5 (by decide) (hG (.fieldLink R_M 22 "ValueSieveModel" "least" "[J") gx14) (fun _ h9 => h9) rfl d_M_multiply_173 ?_
        refine lv_bipush (v := 17) hx hb d_M_multiply_176 (by decide) ?_
        refine ml_5 (P := 17) hx hb hK hP rfl (by decide) d_M_multiply_178 ?_
        refine rc_i (W.runS (As := [.long ((r125 16).2.2.2.2.2.1), .long ((r125 17).2.2.2.2.1)]) (rest := []) ⟨hx, hb, hml, hown, hts⟩ (c_M_isLong l ((r125 16).2.2.2.2.2.1) ((r125 17).2.2.2.2.1)) (va_cwS 2 hts (gxS gx161 gx162 gx0 gx163) rfl rfl rfl (by decide +kernel) ⟨(Nat.le_of_ble_eq_true rfl), (Nat.le_of_ble_eq_true rfl)⟩) ⟨bl0, fun U hU hW => ⟨rfl, trivial⟩⟩ rfl rfl hl.1 rfl (lv_room (Nat.le_of_ble_eq_true rfl)) d_M_multiply_179 ⟨Nat.zero_le _, Nat.zero_le _⟩) ?_
        refine wz_eq (tgt := 380) hx hb d_M_multiply_182 (by decide) (fun e3_380 => ?_) (fun e3_380 => ?_)
        · have fe : f_M_multiply r0 = r125 := hj.trans (by unfold f_M_multiply_125; first | with_reducible exact (if_pos e1_380).trans ((if_pos e2_380).trans (if_neg e3_380)) | exact (if_pos e1_380).trans ((if_pos e2_380).trans (if_neg e3_380)))
          exact W.vret hx hb hr (fun t ht hW => ⟨⟨(), rfl, trivial, by rw [ht, fe]; exact hP, by rw [fe]; exact hD⟩, hS.F ht⟩) hS.2.2 d_M_multiply_380
        · refine lv_aload_n hx hb d_M_multiply_185 rfl (lv_at hl 0 rfl) ?_
          refine va_get (D := (dC, dI)) (ci := 2) (v := .ref (ad 6)) (C := R_M) (T := F_M) (N := 10) hx hb hts (fun w h => List.mem_cons_of_mem _ (uw_M w h)) hown hK hP 0 rfl rfl 6 (by decide) (hG (.fieldLink R_M 25 "ValueSieveModel" "greatest" "[J") gx15) (fun _ h9 => h9) rfl d_M_multiply_186 ?_
          refine lv_bipush (v := 16) hx hb d_M_multiply_189 (by decide) ?_
          refine ml_6 (P := 16) hx hb hK hP rfl (by decide) d_M_multiply_191 ?_
          refine lv_aload_n hx hb d_M_multiply_192 rfl (lv_at hl 0 rfl) ?_
          refine va_get (D := (dC, dI)) (ci := 2) (v := .ref (ad 6)) (C := R_M) (T := F_M) (N := 10) hx hb hts (fun w h => List.mem_cons_of_mem _ (uw_M w h)) hown hK hP 0 rfl rfl 6 (by decide) (hG (.fieldLink R_M 25 "ValueSieveModel" "greatest" "[J") gx15) (fun _ h9 => h9) rfl d_M_multiply_193 ?_
          refine lv_bipush (v := 17) hx hb d_M_multiply_196 (by decide) ?_
          refine ml_6 (P := 17) hx hb hK hP rfl (by decide) d_M_multiply_198 ?_
          refine rc_i (W.runS (As := [.long ((r125 16).2.2.2.2.2.1), .long ((r125 17).2.2.2.2.2.1)]) (rest := []) ⟨hx, hb, hml, hown, hts⟩ (c_M_isLong l ((r125 16).2.2.2.2.2.1) ((r125 17).2.2.2.2.2.1)) (va_cwS 2 hts (gxS gx161 gx162 gx0 gx163) rfl rfl rfl (by decide +kernel) ⟨(Nat.le_of_ble_eq_true rfl), (Nat.le_of_ble_eq_true rfl)⟩) ⟨bl0, fun U hU hW => ⟨rfl, trivial⟩⟩ rfl rfl hl.1 rfl (lv_room (Nat.le_of_ble_eq_true rfl)) d_M_multiply_199 ⟨Nat.zero_le _, Nat.zero_le _⟩) ?_
          refine wz_eq (tgt := 380) hx hb d_M_multiply_202 (by decide) (fun e4_380 => ?_) (fun e4_380 => ?_)
          · have fe : f_M_multiply r0 = r125 := hj.trans (by unfold f_M_multiply_125; first | with_reducible exact (if_pos e1_380).trans ((if_pos e2_380).trans ((if_pos e3_380).trans (if_neg e4_380))) | exact (if_pos e1_380).trans ((if_pos e2_380).trans ((if_pos e3_380).trans (if_neg e4_380))))
            exact W.vret hx hb hr (fun t ht hW => ⟨⟨(), rfl, trivial, by rw [ht, fe]; exact hP, by rw [fe]; exact hD⟩, hS.F ht⟩) hS.2.2 d_M_multiply_380
          · refine lv_aload_n hx hb d_M_multiply_205 rfl (lv_at hl 0 rfl) ?_
            refine va_get (D := (dC, dI)) (ci := 2) (v := .ref (ad 5)) (C := R_M) (T := F_M) (N := 10) hx hb hts (fun w h => List.mem_cons_of_mem _ (uw_M w h)) hown hK hP 0 rfl rfl 5 (by decide) (hG (.fieldLink R_M 22 "ValueSieveModel" "least" "[J") gx14) (fun _ h9 => h9) rfl d_M_multiply_206 ?_
            refine lv_bipush (v := 16) hx hb d_M_multiply_209 (by decide) ?_
            refine ml_5 (P := 16) hx hb hK hP rfl (by decide) d_M_multiply_211 ?_
            refine lv_aload_n hx hb d_M_multiply_212 rfl (lv_at hl 0 rfl) ?_
            refine va_get (D := (dC, dI)) (ci := 2) (v := .ref (ad 5)) (C := R_M) (T := F_M) (N := 10) hx hb hts (fun w h => List.mem_cons_of_mem _ (uw_M w h)) hown hK hP 0 rfl rfl 5 (by decide) (hG (.fieldLink R_M 22 "ValueSieveModel" "least" "[J") gx14) (fun _ h9 => h9) rfl d_M_multiply_213 ?_
            refine lv_bipush (v := 17) hx hb d_M_multiply_216 (by decide) ?_
            refine ml_5 (P := 17) hx hb hK hP rfl (by decide) d_M_multiply_218 ?_
            refine lv_lmul hx hb d_M_multiply_219 ?_
            refine lv_topl (fun v220 ev220 => ?_)
            refine lv_lstore_n (lv' := [(3, .long (v220)), (0, .ref (ad 0))]) hx hb d_M_multiply_220 rfl hl (by decide) rfl (fun ls hl => ?_)
            refine K220v v220 r125 (Eq.trans (hj.trans (by unfold f_M_multiply_125; first | with_reducible exact (if_pos e1_380).trans ((if_pos e2_380).trans ((if_pos e3_380).trans (if_pos e4_380))) | exact (if_pos e1_380).trans ((if_pos e2_380).trans ((if_pos e3_380).trans (if_pos e4_380))))) (congrArg (fun v220 => f_M_multiply_220v r0 v220 r125) ev220.symm)) H locs ?_ ?_ hS ls (lv_sub hl [0, 1] rfl)
            · with_reducible exact hP
            · with_reducible exact hD
  have K124u : ∀ (r124n : (Nat → VV)) (hj : f_M_multiply r0 = f_M_multiply_124u r0 r124n) (H : Heap) (locs : List Loc) (hP : va_P (dC, dI) classes (mW ad cJ cZ c0 r124n w0 s0) H) (hD : va_D A (mW ad cJ cZ c0 r124n w0 s0)) (hS : va_S A s.heap H locs) (ls : Array Slot) (hl : lv_has ls 15 [(0, .ref (ad 0))]), W p l e (headSpec w_M_multiply ({ frames := 4, cells := 0, slots := 0, locals := 105 } : Room)).room s m ([.ref (ad 0)] : List Value).toArray below meth c H locs 0 0 (MQ below (va_Qv (fun _ : Unit => True) (mB (dC, dI) A (mW ad cJ cZ c0 (f_M_multiply r0) w0 s0)) A) ([.ref (ad 0)] : List Value).toArray s 0 0 A) (F0 m 125 ls []) := by
    intro r124n hj H locs hP hD hS ls hl
    refine K125 r124n (hj.trans rfl) H locs ?_ ?_ hS ls (lv_sub hl [0] rfl)
    · with_reducible exact hP
    · with_reducible exact hD
  have K102u : ∀ (r102n : (Nat → VV)) (hj : f_M_multiply r0 = f_M_multiply_102u r0 r102n) (H : Heap) (locs : List Loc) (hP : va_P (dC, dI) classes (mW ad cJ cZ c0 r102n w0 s0) H) (hD : va_D A (mW ad cJ cZ c0 r102n w0 s0)) (hS : va_S A s.heap H locs) (ls : Array Slot) (hl : lv_has ls 15 [(0, .ref (ad 0))]), W p l e (headSpec w_M_multiply ({ frames := 4, cells := 0, slots := 0, locals := 105 } : Room)).room s m ([.ref (ad 0)] : List Value).toArray below meth c H locs 0 0 (MQ below (va_Qv (fun _ : Unit => True) (mB (dC, dI) A (mW ad cJ cZ c0 (f_M_multiply r0) w0 s0)) A) ([.ref (ad 0)] : List Value).toArray s 0 0 A) (F0 m 103 ls []) := by
    intro r102n hj H locs hP hD hS ls hl
    refine lv_aload_n hx hb d_M_multiply_103 rfl (lv_at hl 0 rfl) ?_
    refine va_get (D := (dC, dI)) (ci := 2) (v := .ref (ad 4)) (C := R_M) (T := F_M) (N := 10) hx hb hts (fun w h => List.mem_cons_of_mem _ (uw_M w h)) hown hK hP 0 rfl rfl 4 (by decide) (hG (.fieldLink R_M 19 "ValueSieveModel" "high" "[J") gx13) (fun _ h9 => h9) rfl d_M_multiply_104 ?_
    refine lv_bipush (v := 18) hx hb d_M_multiply_107 (by decide) ?_
    refine lv_aload_n hx hb d_M_multiply_109 rfl (lv_at hl 0 rfl) ?_
    refine va_get (D := (dC, dI)) (ci := 2) (v := .ref (ad 4)) (C := R_M) (T := F_M) (N := 10) hx hb hts (fun w h => List.mem_cons_of_mem _ (uw_M w h)) hown hK hP 0 rfl rfl 4 (by decide) (hG (.fieldLink R_M 19 "ValueSieveModel" "high" "[J") gx13) (fun _ h9 => h9) rfl d_M_multiply_110 ?_
    refine lv_bipush (v := 16) hx hb d_M_multiply_113 (by decide) ?_
    refine ml_4 (P := 16) hx hb hK hP rfl (by decide) d_M_multiply_115 ?_
    refine lv_aload_n hx hb d_M_multiply_116 rfl (lv_at hl 0 rfl) ?_
    refine va_get (D := (dC, dI)) (ci := 2) (v := .ref (ad 4)) (C := R_M) (T := F_M) (N := 10) hx hb hts (fun w h => List.mem_cons_of_mem _ (uw_M w h)) hown hK hP 0 rfl rfl 4 (by decide) (hG (.fieldLink R_M 19 "ValueSieveModel" "high" "[J") gx13) (fun _ h9 => h9) rfl d_M_multiply_117 ?_
    refine lv_bipush (v := 17) hx hb d_M_multiply_120 (by decide) ?_
    refine ml_4 (P := 17) hx hb hK hP rfl (by decide) d_M_multiply_122 ?_
    refine lv_lmul hx hb d_M_multiply_123 ?_
    refine ms_4 (P := 18) (x := ((r102n 16).2.2.2.1) * ((r102n 17).2.2.2.1)) hx hb hK hP hD hS rfl (by decide) d_M_multiply_124 (fun H locs hP hD hS => ?_)
    obtain ⟨r124n, er124n⟩ : ∃ z, z = u4 r102n 18 (((r102n 16).2.2.2.1) * ((r102n 17).2.2.2.1)) := ⟨_, rfl⟩
    rw [← er124n] at hP hD
    refine K124u r124n (Eq.trans (hj.trans rfl) (congrArg (fun r124n => f_M_multiply_124u r0 r124n) er124n.symm)) H locs ?_ ?_ hS ls (lv_sub hl [0] rfl)
    · with_reducible exact hP
    · with_reducible exact hD
  have K58g : ∀ (g58 : (Nat → VV)) (hj : f_M_multiply r0 = f_M_multiply_58g r0 g58) (H : Heap) (locs : List Loc) (hP : va_P (dC, dI) classes (mW ad cJ cZ c0 g58 w0 s0) H) (hD : va_D A (mW ad cJ cZ c0 g58 w0 s0)) (hS : va_S A s.heap H locs) (ls : Array Slot) (hl : lv_has ls 15 [(0, .ref (ad 0))]), W p l e (headSpec w_M_multiply ({ frames := 4, cells := 0, slots := 0, locals := 105 } : Room)).room s m ([.ref (ad 0)] : List Value).toArray below meth c H locs 0 0 (MQ below (va_Qv (fun _ : Unit => True) (mB (dC, dI) A (mW ad cJ cZ c0 (f_M_multiply r0) w0 s0)) A) ([.ref (ad 0)] : List Value).toArray s 0 0 A) (F0 m 61 ls []) := by
    intro g58 hj H locs hP hD hS ls hl
    refine lv_aload_n hx hb d_M_multiply_61 rfl (lv_at hl 0 rfl) ?_
    refine va_get (D := (dC, dI)) (ci := 2) (v := .ref (ad 4)) (C := R_M) (T := F_M) (N := 10) hx hb hts (fun w h => List.mem_cons_of_mem _ (uw_M w h)) hown hK hP 0 rfl rfl 4 (by decide) (hG (.fieldLink R_M 19 "ValueSieveModel" "high" "[J") gx13) (fun _ h9 => h9) rfl d_M_multiply_62 ?_
    refine lv_bipush (v := 16) hx hb d_M_multiply_65 (by decide) ?_
    refine ml_4 (P := 16) hx hb hK hP rfl (by decide) d_M_multiply_67 ?_
    refine lv_aload_n hx hb d_M_multiply_68 rfl (lv_at hl 0 rfl) ?_
    refine va_get (D := (dC, dI)) (ci := 2) (v := .ref (ad 4)) (C := R_M) (T := F_M) (N := 10) hx hb hts (fun w h => List.mem_cons_of_mem _ (uw_M w h)) hown hK hP 0 rfl rfl 4 (by decide) (hG (.fieldLink R_M 19 "ValueSieveModel" "high" "[J") gx13) (fun _ h9 => h9) rfl d_M_multiply_69 ?_
    refine lv_bipush (v := 17) hx hb d_M_multiply_72 (by decide) ?_
    refine ml_4 (P := 17) hx hb hK hP rfl (by decide) d_M_multiply_74 ?_
    refine rc_i (W.runS (As := [.long ((g58 16).2.2.2.1), .long ((g58 17).2.2.2.1)]) (rest := []) ⟨hx, hb, hml, hown, hts⟩ (c_M_fits l ((g58 16).2.2.2.1) ((g58 17).2.2.2.1)) (va_cwS 2 hts (gxS gx154 gx155 gx0 gx156) rfl rfl rfl (by decide +kernel) ⟨(Nat.le_of_ble_eq_true rfl), (Nat.le_of_ble_eq_true rfl)⟩) ⟨bl0, fun U hU hW => ⟨rfl, trivial⟩⟩ rfl rfl hl.1 rfl (lv_room (Nat.le_of_ble_eq_true rfl)) d_M_multiply_75 ⟨Nat.zero_le _, Nat.zero_le _⟩) ?_
    refine wz_eq (tgt := 125) hx hb d_M_multiply_78 (by decide) (fun e1_125 => ?_) (fun e1_125 => ?_)
    · refine K125 g58 (hj.trans (by unfold f_M_multiply_58g; first | with_reducible exact if_neg e1_125 | exact if_neg e1_125)) H locs ?_ ?_ hS ls (lv_sub hl [0] rfl)
      · with_reducible exact hP
      · with_reducible exact hD
    · refine lv_aload_n hx hb d_M_multiply_81 rfl (lv_at hl 0 rfl) ?_
      refine va_get (D := (dC, dI)) (ci := 2) (v := .ref (ad 3)) (C := R_M) (T := F_M) (N := 10) hx hb hts (fun w h => List.mem_cons_of_mem _ (uw_M w h)) hown hK hP 0 rfl rfl 3 (by decide) (hG (.fieldLink R_M 16 "ValueSieveModel" "low" "[J") gx12) (fun _ h9 => h9) rfl d_M_multiply_82 ?_
      refine lv_bipush (v := 18) hx hb d_M_multiply_85 (by decide) ?_
      refine lv_aload_n hx hb d_M_multiply_87 rfl (lv_at hl 0 rfl) ?_
      refine va_get (D := (dC, dI)) (ci := 2) (v := .ref (ad 3)) (C := R_M) (T := F_M) (N := 10) hx hb hts (fun w h => List.mem_cons_of_mem _ (uw_M w h)) hown hK hP 0 rfl rfl 3 (by decide) (hG (.fieldLink R_M 16 "ValueSieveModel" "low" "[J") gx12) (fun _ h9 => h9) rfl d_M_multiply_88 ?_
      refine lv_bipush (v := 16) hx hb d_M_multiply_91 (by decide) ?_
      refine ml_3 (P := 16) hx hb hK hP rfl (by decide) d_M_multiply_93 ?_
      refine lv_aload_n hx hb d_M_multiply_94 rfl (lv_at hl 0 rfl) ?_
      refine va_get (D := (dC, dI)) (ci := 2) (v := .ref (ad 3)) (C := R_M) (T := F_M) (N := 10) hx hb hts (fun w h => List.mem_cons_of_mem _ (uw_M w h)) hown hK hP 0 rfl rfl 3 (by decide) (hG (.fieldLink R_M 16 "ValueSieveModel" "low" "[J") gx12) (fun _ h9 => h9) rfl d_M_multiply_95 ?_
      refine lv_bipush (v := 17) hx hb d_M_multiply_98 (by decide) ?_
      refine ml_3 (P := 17) hx hb hK hP rfl (by decide) d_M_multiply_100 ?_
      refine lv_lmul hx hb d_M_multiply_101 ?_
      refine ms_3 (P := 18) (x := ((g58 16).2.2.1) * ((g58 17).2.2.1)) hx hb hK hP hD hS rfl (by decide) d_M_multiply_102 (fun H locs hP hD hS => ?_)
      obtain ⟨r102n, er102n⟩ : ∃ z, z = u3 g58 18 (((g58 16).2.2.1) * ((g58 17).2.2.1)) := ⟨_, rfl⟩
      rw [← er102n] at hP hD
      refine K102u r102n (Eq.trans (hj.trans (by unfold f_M_multiply_58g; first | with_reducible exact if_pos e1_125 | exact if_pos e1_125)) (congrArg (fun r102n => f_M_multiply_102u r0 r102n) er102n.symm)) H locs ?_ ?_ hS ls (lv_sub hl [0] rfl)
      · with_reducible exact hP
      · with_reducible exact hD
  have K43 : ∀ (s43_0 : Int32) (hj : f_M_multiply r0 = f_M_multiply_43 r0 s43_0) (H : Heap) (locs : List Loc) (hP : va_P (dC, dI) classes (mW ad cJ cZ c0 r0 w0 s0) H) (hD : va_D A (mW ad cJ cZ c0 r0 w0 s0)) (hS : va_S A s.heap H locs) (ls : Array Slot) (hl : lv_has ls 15 [(0, .ref (ad 0))]), W p l e (headSpec w_M_multiply ({ frames := 4, cells := 0, slots := 0, locals := 105 } : Room)).room s m ([.ref (ad 0)] : List Value).toArray below meth c H locs 0 0 (MQ below (va_Qv (fun _ : Unit => True) (mB (dC, dI) A (mW ad cJ cZ c0 (f_M_multiply r0) w0 s0)) A) ([.ref (ad 0)] : List Value).toArray s 0 0 A) (F0 m 43 ls [.int (s43_0), .ref (ad 0)]) := by
    intro s43_0 hj H locs hP hD hS ls hl
    refine lv_aload_n hx hb d_M_multiply_43 rfl (lv_at hl 0 rfl) ?_
    refine va_get (D := (dC, dI)) (ci := 2) (v := .ref (ad 1)) (C := R_M) (T := F_M) (N := 10) hx hb hts (fun w h => List.mem_cons_of_mem _ (uw_M w h)) hown hK hP 0 rfl rfl 1 (by decide) (hG (.fieldLink R_M 7 "ValueSieveModel" "bits" "[J") gx10) (fun _ h9 => h9) rfl d_M_multiply_44 ?_
    refine lv_bipush (v := 16) hx hb d_M_multiply_47 (by decide) ?_
    refine ml_1 (P := 16) hx hb hK hP rfl (by decide) d_M_multiply_49 ?_
    refine lv_aload_n hx hb d_M_multiply_50 rfl (lv_at hl 0 rfl) ?_
    refine va_get (D := (dC, dI)) (ci := 2) (v := .ref (ad 1)) (C := R_M) (T := F_M) (N := 10) hx hb hts (fun w h => List.mem_cons_of_mem _ (uw_M w h)) hown hK hP 0 rfl rfl 1 (by decide) (hG (.fieldLink R_M 7 "ValueSieveModel" "bits" "[J") gx10) (fun _ h9 => h9) rfl d_M_multiply_51 ?_
    refine lv_bipush (v := 17) hx hb d_M_multiply_54 (by decide) ?_
    refine ml_1 (P := 17) hx hb hK hP rfl (by decide) d_M_multiply_56 ?_
    refine lv_lmul hx hb d_M_multiply_57 ?_
    refine mm_v (F := f_M_knowLowest r0 s43_0 (((r0 16).1) * ((r0 17).1))) (w1 := fun g58 => (mW ad cJ cZ c0 g58 w0 s0)) (va_runV (As := [.int (s43_0), .long (((r0 16).1) * ((r0 17).1))]) (rest := []) ⟨hx, hb, hml, hown, hts⟩ (c_M_knowLowest l dC dI ad cJ cZ H.size c0 r0 w0 s0 s43_0 (((r0 16).1) * ((r0 17).1))) (cwV 2 hts (gxV gx151 gx152 gx287 gx0 gx153) rfl rfl rfl (by decide +kernel) ⟨(Nat.le_of_ble_eq_true rfl), (Nat.le_of_ble_eq_true rfl)⟩) ⟨blp, va_recv hK hP (ci := 2) (q0 := 0) rfl rfl, fun U hU hW => ⟨rfl, by rw [hU], by rw [hU]; exact hP, va_K.moved hW.alike hK, hD.weaken (fun _ _ _ _ => trivial)⟩⟩ rfl rfl hl.1 rfl (lv_room (Nat.le_of_ble_eq_true rfl)) d_M_multiply_58 ⟨Nat.zero_le _, Nat.zero_le _⟩) hD hS hA (fun g58 eg58 H locs hP hD hS => ?_)
    refine K58g g58 (Eq.trans (hj.trans rfl) (congrArg (fun g58 => f_M_multiply_58g r0 g58) eg58)) H locs ?_ ?_ hS ls (lv_sub hl [0] rfl)
    · with_reducible exact hP
    · with_reducible exact hD
  have K31v : ∀ (v31 : Int32) (v15 : Int32) (hj : f_M_multiply r0 = f_M_multiply_31v r0 v31 v15) (H : Heap) (locs : List Loc) (hP : va_P (dC, dI) classes (mW ad cJ cZ c0 r0 w0 s0) H) (hD : va_D A (mW ad cJ cZ c0 r0 w0 s0)) (hS : va_S A s.heap H locs) (ls : Array Slot) (hl : lv_has ls 15 [(2, .int (v31)), (1, .int (v15)), (0, .ref (ad 0))]), W p l e (headSpec w_M_multiply ({ frames := 4, cells := 0, slots := 0, locals := 105 } : Room)).room s m ([.ref (ad 0)] : List Value).toArray below meth c H locs 0 0 (MQ below (va_Qv (fun _ : Unit => True) (mB (dC, dI) A (mW ad cJ cZ c0 (f_M_multiply r0) w0 s0)) A) ([.ref (ad 0)] : List Value).toArray s 0 0 A) (F0 m 32 ls []) := by
    intro v31 v15 hj H locs hP hD hS ls hl
    refine lv_aload_n hx hb d_M_multiply_32 rfl (lv_at hl 2 rfl) ?_
    refine lv_iload_n hx hb d_M_multiply_33 rfl (lv_at hl 1 rfl) ?_
    refine lv_iload_n hx hb d_M_multiply_34 rfl (lv_at hl 0 rfl) ?_
    refine lv_icmp_ge (tgt := 42) hx hb d_M_multiply_35 (by decide) (fun e1_42 => ?_) (fun e1_42 => ?_)
    · refine lv_iload_n hx hb d_M_multiply_42 rfl (lv_at hl 0 rfl) ?_
      refine K43 v31 (hj.trans (by unfold f_M_multiply_31v; first | with_reducible exact if_pos e1_42 | exact if_pos e1_42)) H locs ?_ ?_ hS ls (lv_sub hl [2] rfl)
      · with_reducible exact hP
      · with_reducible exact hD
    · refine lv_iload_n hx hb d_M_multiply_38 rfl (lv_at hl 1 rfl) ?_
      refine lv_goto (tgt := 43) hx hb d_M_multiply_39 (by decide) ?_
      refine K43 v15 (hj.trans (by unfold f_M_multiply_31v; first | with_reducible exact if_neg e1_42 | exact if_neg e1_42)) H locs ?_ ?_ hS ls (lv_sub hl [2] rfl)
      · with_reducible exact hP
      · with_reducible exact hD
  have K15v : ∀ (v15 : Int32) (hj : f_M_multiply r0 = f_M_multiply_15v r0 v15) (H : Heap) (locs : List Loc) (hP : va_P (dC, dI) classes (mW ad cJ cZ c0 r0 w0 s0) H) (hD : va_D A (mW ad cJ cZ c0 r0 w0 s0)) (hS : va_S A s.heap H locs) (ls : Array Slot) (hl : lv_has ls 15 [(1, .int (v15)), (0, .ref (ad 0))]), W p l e (headSpec w_M_multiply ({ frames := 4, cells := 0, slots := 0, locals := 105 } : Room)).room s m ([.ref (ad 0)] : List Value).toArray below meth c H locs 0 0 (MQ below (va_Qv (fun _ : Unit => True) (mB (dC, dI) A (mW ad cJ cZ c0 (f_M_multiply r0) w0 s0)) A) ([.ref (ad 0)] : List Value).toArray s 0 0 A) (F0 m 16 ls []) := by
    intro v15 hj H locs hP hD hS ls hl
    refine lv_aload_n hx hb d_M_multiply_16 rfl (lv_at hl 1 rfl) ?_
    refine lv_bipush (v := 17) hx hb d_M_multiply_17 (by decide) ?_
    refine lv_iconst (v := 0) hx hb d_M_multiply_19 (by decide) ?_
    refine rc_i (W.runV (As := [.int (17), .int (0)]) (rest := []) ⟨hx, hb, hml, hown, hts⟩ (c_M_lowest l dC dI ad cJ cZ c0 r0 w0 s0 17 false (by decide)) (cwV 2 hts (gxV gx148 gx149 gx286 gx0 gx150) rfl rfl rfl (by decide +kernel) ⟨(Nat.le_of_ble_eq_true rfl), (Nat.le_of_ble_eq_true rfl)⟩) ⟨bln, va_recv hK hP (ci := 2) (q0 := 0) rfl rfl, fun U hU hW => ⟨rfl, by rw [hU]; exact hP, va_K.moved hW.alike hK⟩⟩ rfl rfl hl.1 rfl (lv_room (Nat.le_of_ble_eq_true rfl)) d_M_multiply_20 ⟨Nat.zero_le _, Nat.zero_le _⟩) ?_
    refine lv_aload_n hx hb d_M_multiply_23 rfl (lv_at hl 1 rfl) ?_
    refine lv_bipush (v := 16) hx hb d_M_multiply_24 (by decide) ?_
    refine lv_iconst (v := 1) hx hb d_M_multiply_26 (by decide) ?_
    refine rc_i (W.runV (As := [.int (16), .int (1)]) (rest := [.int (f_M_lowest r0 17 false)]) ⟨hx, hb, hml, hown, hts⟩ (c_M_lowest l dC dI ad cJ cZ c0 r0 w0 s0 16 true (by decide)) (cwV 2 hts (gxV gx148 gx149 gx286 gx0 gx150) rfl rfl rfl (by decide +kernel) ⟨(Nat.le_of_ble_eq_true rfl), (Nat.le_of_ble_eq_true rfl)⟩) ⟨bln, va_recv hK hP (ci := 2) (q0 := 0) rfl rfl, fun U hU hW => ⟨rfl, by rw [hU]; exact hP, va_K.moved hW.alike hK⟩⟩ rfl rfl hl.1 rfl (lv_room (Nat.le_of_ble_eq_true rfl)) d_M_multiply_27 ⟨Nat.zero_le _, Nat.zero_le _⟩) ?_
    refine lv_iadd hx hb d_M_multiply_30 ?_
    refine lv_topi (fun v31 ev31 => ?_)
    refine lv_istore_n (lv' := [(2, .int (v31)), (1, .int (v15)), (0, .ref (ad 0))]) hx hb d_M_multiply_31 rfl hl (by decide) rfl (fun ls hl => ?_)
    refine K31v v31 v15 (Eq.trans (hj.trans rfl) (congrArg (fun v31 => f_M_multiply_31v r0 v31 v15) ev31.symm)) H locs ?_ ?_ hS ls (lv_sub hl [0, 1, 2] rfl)
    · with_reducible exact hP
    · with_reducible exact hD
  refine lv_aload_n hx hb d_M_multiply_0 rfl (lv_at hl 0 rfl) ?_
  refine lv_bipush (v := 16) hx hb d_M_multiply_1 (by decide) ?_
  refine lv_iconst (v := 0) hx hb d_M_multiply_3 (by decide) ?_
  refine rc_i (W.runV (As := [.int (16), .int (0)]) (rest := []) ⟨hx, hb, hml, hown, hts⟩ (c_M_lowest l dC dI ad cJ cZ c0 r0 w0 s0 16 false (by decide)) (cwV 2 hts (gxV gx148 gx149 gx286 gx0 gx150) rfl rfl rfl (by decide +kernel) ⟨(Nat.le_of_ble_eq_true rfl), (Nat.le_of_ble_eq_true rfl)⟩) ⟨bln, va_recv hK hP (ci := 2) (q0 := 0) rfl rfl, fun U hU hW => ⟨rfl, by rw [hU]; exact hP, va_K.moved hW.alike hK⟩⟩ rfl rfl hl.1 rfl (lv_room (Nat.le_of_ble_eq_true rfl)) d_M_multiply_4 ⟨Nat.zero_le _, Nat.zero_le _⟩) ?_
  refine lv_aload_n hx hb d_M_multiply_7 rfl (lv_at hl 0 rfl) ?_
  refine lv_bipush (v := 17) hx hb d_M_multiply_8 (by decide) ?_
  refine lv_iconst (v := 1) hx hb d_M_multiply_10 (by decide) ?_
  refine rc_i (W.runV (As := [.int (17), .int (1)]) (rest := [.int (f_M_lowest r0 16 false)]) ⟨hx, hb, hml, hown, hts⟩ (c_M_lowest l dC dI ad cJ cZ c0 r0 w0 s0 17 true (by decide)) (cwV 2 hts (gxV gx148 gx149 gx286 gx0 gx150) rfl rfl rfl (by decide +kernel) ⟨(Nat.le_of_ble_eq_true rfl), (Nat.le_of_ble_eq_true rfl)⟩) ⟨bln, va_recv hK hP (ci := 2) (q0 := 0) rfl rfl, fun U hU hW => ⟨rfl, by rw [hU]; exact hP, va_K.moved hW.alike hK⟩⟩ rfl rfl hl.1 rfl (lv_room (Nat.le_of_ble_eq_true rfl)) d_M_multiply_11 ⟨Nat.zero_le _, Nat.zero_le _⟩) ?_
  refine lv_iadd hx hb d_M_multiply_14 ?_
  refine lv_topi (fun v15 ev15 => ?_)
  refine lv_istore_n (lv' := [(1, .int (v15)), (0, .ref (ad 0))]) hx hb d_M_multiply_15 rfl hl (by decide) rfl (fun ls hl => ?_)
  refine K15v v15 (Eq.trans (rfl) (congrArg (fun v15 => f_M_multiply_15v r0 v15) ev15.symm)) s.heap [] ?_ ?_ hS ls (lv_sub hl [0, 1] rfl)
  · with_reducible exact hP
  · with_reducible exact hD
-- divide
theorem d_M_divide_0 : decode b_M_divide 0 = .ok (.aload_n 0, 1) := by decide +kernel
theorem d_M_divide_1 : decode b_M_divide 1 = .ok (.getfield 16, 3) := by decide +kernel
theorem d_M_divide_4 : decode b_M_divide 4 = .ok (.bipush 18, 2) := by decide +kernel
theorem d_M_divide_6 : decode b_M_divide 6 = .ok (.aload_n 0, 1) := by decide +kernel
theorem d_M_divide_7 : decode b_M_divide 7 = .ok (.getfield 16, 3) := by decide +kernel
theorem d_M_divide_10 : decode b_M_divide 10 = .ok (.bipush 17, 2) := by decide +kernel
theorem d_M_divide_12 : decode b_M_divide 12 = .ok (.laload, 1) := by decide +kernel
theorem d_M_divide_13 : decode b_M_divide 13 = .ok (.lconst 0, 1) := by decide +kernel
theorem d_M_divide_14 : decode b_M_divide 14 = .ok (.lcmp, 1) := by decide +kernel
theorem d_M_divide_15 : decode b_M_divide 15 = .ok (.ifCond .ne 7, 3) := by decide +kernel
theorem d_M_divide_18 : decode b_M_divide 18 = .ok (.lconst 0, 1) := by decide +kernel
theorem d_M_divide_19 : decode b_M_divide 19 = .ok (.goto 20, 3) := by decide +kernel
theorem d_M_divide_22 : decode b_M_divide 22 = .ok (.aload_n 0, 1) := by decide +kernel
theorem d_M_divide_23 : decode b_M_divide 23 = .ok (.getfield 16, 3) := by decide +kernel
theorem d_M_divide_26 : decode b_M_divide 26 = .ok (.bipush 16, 2) := by decide +kernel
theorem d_M_divide_28 : decode b_M_divide 28 = .ok (.laload, 1) := by decide +kernel
theorem d_M_divide_29 : decode b_M_divide 29 = .ok (.aload_n 0, 1) := by decide +kernel
theorem d_M_divide_30 : decode b_M_divide 30 = .ok (.getfield 19, 3) := by decide +kernel
theorem d_M_divide_33 : decode b_M_divide 33 = .ok (.bipush 17, 2) := by decide +kernel
theorem d_M_divide_35 : decode b_M_divide 35 = .ok (.laload, 1) := by decide +kernel
theorem d_M_divide_36 : decode b_M_divide 36 = .ok (.invokestatic 45, 3) := by decide +kernel
theorem d_M_divide_39 : decode b_M_divide 39 = .ok (.lastore, 1) := by decide +kernel
theorem d_M_divide_40 : decode b_M_divide 40 = .ok (.aload_n 0, 1) := by decide +kernel
theorem d_M_divide_41 : decode b_M_divide 41 = .ok (.getfield 19, 3) := by decide +kernel
theorem d_M_divide_44 : decode b_M_divide 44 = .ok (.bipush 18, 2) := by decide +kernel
theorem d_M_divide_46 : decode b_M_divide 46 = .ok (.aload_n 0, 1) := by decide +kernel
theorem d_M_divide_47 : decode b_M_divide 47 = .ok (.getfield 16, 3) := by decide +kernel
theorem d_M_divide_50 : decode b_M_divide 50 = .ok (.bipush 17, 2) := by decide +kernel
theorem d_M_divide_52 : decode b_M_divide 52 = .ok (.laload, 1) := by decide +kernel
theorem d_M_divide_53 : decode b_M_divide 53 = .ok (.lconst 0, 1) := by decide +kernel
theorem d_M_divide_54 : decode b_M_divide 54 = .ok (.lcmp, 1) := by decide +kernel
theorem d_M_divide_55 : decode b_M_divide 55 = .ok (.ifCond .ne 13, 3) := by decide +kernel
theorem d_M_divide_58 : decode b_M_divide 58 = .ok (.aload_n 0, 1) := by decide +kernel
theorem d_M_divide_59 : decode b_M_divide 59 = .ok (.getfield 19, 3) := by decide +kernel
theorem d_M_divide_62 : decode b_M_divide 62 = .ok (.bipush 16, 2) := by decide +kernel
theorem d_M_divide_64 : decode b_M_divide 64 = .ok (.laload, 1) := by decide +kernel
theorem d_M_divide_65 : decode b_M_divide 65 = .ok (.goto 20, 3) := by decide +kernel
theorem d_M_divide_68 : decode b_M_divide 68 = .ok (.aload_n 0, 1) := by decide +kernel
theorem d_M_divide_69 : decode b_M_divide 69 = .ok (.getfield 19, 3) := by decide +kernel
theorem d_M_divide_72 : decode b_M_divide 72 = .ok (.bipush 16, 2) := by decide +kernel
theorem d_M_divide_74 : decode b_M_divide 74 = .ok (.laload, 1) := by decide +kernel
theorem d_M_divide_75 : decode b_M_divide 75 = .ok (.aload_n 0, 1) := by decide +kernel
theorem d_M_divide_76 : decode b_M_divide 76 = .ok (.getfield 16, 3) := by decide +kernel
theorem d_M_divide_79 : decode b_M_divide 79 = .ok (.bipush 17, 2) := by decide +kernel
theorem d_M_divide_81 : decode b_M_divide 81 = .ok (.laload, 1) := by decide +kernel
theorem d_M_divide_82 : decode b_M_divide 82 = .ok (.invokestatic 45, 3) := by decide +kernel
theorem d_M_divide_85 : decode b_M_divide 85 = .ok (.lastore, 1) := by decide +kernel
theorem d_M_divide_86 : decode b_M_divide 86 = .ok (.return_, 1) := by decide +kernel
def f_M_divide_85u (r0 : (Nat → VV)) (r85n : (Nat → VV)) : (Nat → VV) := r85n
def f_M_divide_85 (r0 : (Nat → VV)) (s85_0 : Int64) (r39n : (Nat → VV)) : (Nat → VV) := f_M_divide_85u r0 (u4 r39n 18 s85_0)
def f_M_divide_39u (r0 : (Nat → VV)) (r39n : (Nat → VV)) : (Nat → VV) := (if ((r39n 17).2.2.1) = 0 then f_M_divide_85 r0 ((r39n 16).2.2.2.1) r39n else f_M_divide_85 r0 (f_M_quotient ((r39n 16).2.2.2.1) ((r39n 17).2.2.1)) r39n)
def f_M_divide_39 (r0 : (Nat → VV)) (s39_0 : Int64) : (Nat → VV) := f_M_divide_39u r0 (u3 r0 18 s39_0)
def f_M_divide (r0 : (Nat → VV)) : (Nat → VV) := (if ((r0 17).2.2.1) = 0 then f_M_divide_39 r0 0 else f_M_divide_39 r0 (f_M_quotient ((r0 16).2.2.1) ((r0 17).2.2.2.1)))
set_option maxRecDepth 100000 in
set_option maxHeartbeats 4000000 in
theorem c_M_divide (l : Launch) (dC : Nat → ClassId) (dI : Nat → Nat → Nat) (ad : Nat → Nat) (cJ cZ : ClassId) (sz : Nat) (c0 : Int32) (r0 : (Nat → VV)) (w0 : (Nat → Int64)) (s0 : Int32) : Met l y_M_divide w_M_divide ({ frames := 2, cells := 0, slots := 0, locals := 52 } : Room) (va_Pc [.ref (ad 0)] (nP (dC, dI) (mT cJ cZ) (mW ad cJ cZ c0 r0 w0 s0) sz)) (va_Qv (fun _ : Unit => True) (mB (dC, dI) (va_A (mW ad cJ cZ c0 r0 w0 s0) sz) (mW ad cJ cZ c0 (f_M_divide r0) w0 s0)) (va_A (mW ad cJ cZ c0 r0 w0 s0) sz)) 0 0 (va_A (mW ad cJ cZ c0 r0 w0 s0) sz) := by
  refine Met.ofW (cc := b_M_divide) (maxL := 1) (ret := none) (by decide) rfl ?_
  intro p e s m args below meth c s₁ B hml hv
  obtain ⟨rfl, hsz, hP, hK, hD0⟩ := hv
  have hx := B.exec
  have hb := B.bytes
  have hr := B.returns
  have hts := atoms_spec (ws := w_M_divide) B.pre
  have hG : ∀ w ∈ gM, w.before _ s = true := fun w h => hts w (List.mem_cons_of_mem _ h)
  have hown : s.vm.findClass R_M = some m.cls := findClass_of_methodNamed B.named
  have hlocks := B.notSynchronized
  subst hsz
  have hD := hD0.self (sz := s.heap.size)
  generalize hAe : va_A (mW ad cJ cZ c0 r0 w0 s0) s.heap.size = A at hD ⊢
  have hA : ∀ q : Nat, s.heap.size ≤ q → A q := fun q h => by rw [← hAe]; exact Or.inr h
  have hS : va_S A s.heap s.heap [] := va_S.rf
  have hl := lv_entry ([.ref (ad 0)]) (n := 1) (Nat.le_of_ble_eq_true rfl)
  rw [lg_entry_eq]
  generalize (lg_sl ([.ref (ad 0)]) ++ List.replicate (1 - (lg_sl ([.ref (ad 0)])).length) Slot.unset).toArray = ls at hl ⊢
  have hl : lv_has ls 1 [(0, .ref (ad 0))] := hl
  have K85u : ∀ (r85n : (Nat → VV)) (hj : f_M_divide r0 = f_M_divide_85u r0 r85n) (H : Heap) (locs : List Loc) (hP : va_P (dC, dI) classes (mW ad cJ cZ c0 r85n w0 s0) H) (hD : va_D A (mW ad cJ cZ c0 r85n w0 s0)) (hS : va_S A s.heap H locs) (ls : Array Slot) (hl : lv_has ls 1 []), W p l e (headSpec w_M_divide ({ frames := 2, cells := 0, slots := 0, locals := 52 } : Room)).room s m ([.ref (ad 0)] : List Value).toArray below meth c H locs 0 0 (MQ below (va_Qv (fun _ : Unit => True) (mB (dC, dI) A (mW ad cJ cZ c0 (f_M_divide r0) w0 s0)) A) ([.ref (ad 0)] : List Value).toArray s 0 0 A) (F0 m 86 ls []) := by
    intro r85n hj H locs hP hD hS ls hl
    have fe : f_M_divide r0 = r85n := hj.trans rfl
    exact W.vret hx hb hr (fun t ht hW => ⟨⟨(), rfl, trivial, by rw [ht, fe]; exact hP, by rw [fe]; exact hD⟩, hS.F ht⟩) hS.2.2 d_M_divide_86
  have K85 : ∀ (s85_0 : Int64) (r39n : (Nat → VV)) (hj : f_M_divide r0 = f_M_divide_85 r0 s85_0 r39n) (H : Heap) (locs : List Loc) (hP : va_P (dC, dI) classes (mW ad cJ cZ c0 r39n w0 s0) H) (hD : va_D A (mW ad cJ cZ c0 r39n w0 s0)) (hS : va_S A s.heap H locs) (ls : Array Slot) (hl : lv_has ls 1 []), W p l e (headSpec w_M_divide ({ frames := 2, cells := 0, slots := 0, locals := 52 } : Room)).room s m ([.ref (ad 0)] : List Value).toArray below meth c H locs 0 0 (MQ below (va_Qv (fun _ : Unit => True) (mB (dC, dI) A (mW ad cJ cZ c0 (f_M_divide r0) w0 s0)) A) ([.ref (ad 0)] : List Value).toArray s 0 0 A) (F0 m 85 ls [.long (s85_0), .int (18), .ref (ad 4)]) := by
    intro s85_0 r39n hj H locs hP hD hS ls hl
    refine ms_4 (P := 18) (x := s85_0) hx hb hK hP hD hS rfl (by decide) d_M_divide_85 (fun H locs hP hD hS => ?_)
    obtain ⟨r85n, er85n⟩ : ∃ z, z = u4 r39n 18 s85_0 := ⟨_, rfl⟩
    rw [← er85n] at hP hD
    refine K85u r85n (Eq.trans (hj.trans rfl) (congrArg (fun r85n => f_M_divide_85u r0 r85n) er85n.symm)) H locs ?_ ?_ hS ls (lv_sub hl [] rfl)
    · with_reducible exact hP
    · with_reducible exact hD
  have K39u : ∀ (r39n : (Nat → VV)) (hj : f_M_divide r0 = f_M_divide_39u r0 r39n) (H : Heap) (locs : List Loc) (hP : va_P (dC, dI) classes (mW ad cJ cZ c0 r39n w0 s0) H) (hD : va_D A (mW ad cJ cZ c0 r39n w0 s0)) (hS : va_S A s.heap H locs) (ls : Array Slot) (hl : lv_has ls 1 [(0, .ref (ad 0))]), W p l e (headSpec w_M_divide ({ frames := 2, cells := 0, slots := 0, locals := 52 } : Room)).room s m ([.ref (ad 0)] : List Value).toArray below meth c H locs 0 0 (MQ below (va_Qv (fun _ : Unit => True) (mB (dC, dI) A (mW ad cJ cZ c0 (f_M_divide r0) w0 s0)) A) ([.ref (ad 0)] : List Value).toArray s 0 0 A) (F0 m 40 ls []) := by
    intro r39n hj H locs hP hD hS ls hl
    refine lv_aload_n hx hb d_M_divide_40 rfl (lv_at hl 0 rfl) ?_
    refine va_get (D := (dC, dI)) (ci := 2) (v := .ref (ad 4)) (C := R_M) (T := F_M) (N := 10) hx hb hts (fun w h => List.mem_cons_of_mem _ (uw_M w h)) hown hK hP 0 rfl rfl 4 (by decide) (hG (.fieldLink R_M 19 "ValueSieveModel" "high" "[J") gx13) (fun _ h9 => h9) rfl d_M_divide_41 ?_
    refine lv_bipush (v := 18) hx hb d_M_divide_44 (by decide) ?_
    refine lv_aload_n hx hb d_M_divide_46 rfl (lv_at hl 0 rfl) ?_
    refine va_get (D := (dC, dI)) (ci := 2) (v := .ref (ad 3)) (C := R_M) (T := F_M) (N := 10) hx hb hts (fun w h => List.mem_cons_of_mem _ (uw_M w h)) hown hK hP 0 rfl rfl 3 (by decide) (hG (.fieldLink R_M 16 "ValueSieveModel" "low" "[J") gx12) (fun _ h9 => h9) rfl d_M_divide_47 ?_
    refine lv_bipush (v := 17) hx hb d_M_divide_50 (by decide) ?_
    refine ml_3 (P := 17) hx hb hK hP rfl (by decide) d_M_divide_52 ?_
    refine lv_lconst (v := 0) hx hb d_M_divide_53 (by decide) ?_
    refine wl_ne (tgt := 68) hx hb d_M_divide_54 d_M_divide_55 (by decide) (fun e1_68 => ?_) (fun e1_68 => ?_)
    · refine lv_aload_n hx hb d_M_divide_68 rfl (lv_at hl 0 rfl) ?_
      refine va_get (D := (dC, dI)) (ci := 2) (v := .ref (ad 4)) (C := R_M) (T := F_M) (N := 10) hx hb hts (fun w h => List.mem_cons_of_mem _ (uw_M w h)) hown hK hP 0 rfl rfl 4 (by decide) (hG (.fieldLink R_M 19 "ValueSieveModel" "high" "[J") gx13) (fun _ h9 => h9) rfl d_M_divide_69 ?_
      refine lv_bipush (v := 16) hx hb d_M_divide_72 (by decide) ?_
      refine ml_4 (P := 16) hx hb hK hP rfl (by decide) d_M_divide_74 ?_
      refine lv_aload_n hx hb d_M_divide_75 rfl (lv_at hl 0 rfl) ?_
      refine va_get (D := (dC, dI)) (ci := 2) (v := .ref (ad 3)) (C := R_M) (T := F_M) (N := 10) hx hb hts (fun w h => List.mem_cons_of_mem _ (uw_M w h)) hown hK hP 0 rfl rfl 3 (by decide) (hG (.fieldLink R_M 16 "ValueSieveModel" "low" "[J") gx12) (fun _ h9 => h9) rfl d_M_divide_76 ?_
      refine lv_bipush (v := 17) hx hb d_M_divide_79 (by decide) ?_
      refine ml_3 (P := 17) hx hb hK hP rfl (by decide) d_M_divide_81 ?_
      refine rc_l (W.runS (As := [.long ((r39n 16).2.2.2.1), .long ((r39n 17).2.2.1)]) (rest := [.int (18), .ref (ad 4)]) ⟨hx, hb, hml, hown, hts⟩ (c_M_quotient l ((r39n 16).2.2.2.1) ((r39n 17).2.2.1)) (va_cwS 2 hts (gxS gx157 gx158 gx0 gx159) rfl rfl rfl (by decide +kernel) ⟨(Nat.le_of_ble_eq_true rfl), (Nat.le_of_ble_eq_true rfl)⟩) ⟨bl0, fun U hU hW => ⟨rfl, trivial⟩⟩ rfl rfl hl.1 rfl (lv_room (Nat.le_of_ble_eq_true rfl)) d_M_divide_82 ⟨Nat.zero_le _, Nat.zero_le _⟩) ?_
      refine K85 (f_M_quotient ((r39n 16).2.2.2.1) ((r39n 17).2.2.1)) r39n (hj.trans (by unfold f_M_divide_39u; first | with_reducible exact if_neg e1_68 | exact if_neg e1_68)) H locs ?_ ?_ hS ls (lv_sub hl [] rfl)
      · with_reducible exact hP
      · with_reducible exact hD
    · refine lv_aload_n hx hb d_M_divide_58 rfl (lv_at hl 0 rfl) ?_
      refine va_get (D := (dC, dI)) (ci := 2) (v := .ref (ad 4)) (C := R_M) (T := F_M) (N := 10) hx hb hts (fun w h => List.mem_cons_of_mem _ (uw_M w h)) hown hK hP 0 rfl rfl 4 (by decide) (hG (.fieldLink R_M 19 "ValueSieveModel" "high" "[J") gx13) (fun _ h9 => h9) rfl d_M_divide_59 ?_
      refine lv_bipush (v := 16) hx hb d_M_divide_62 (by decide) ?_
      refine ml_4 (P := 16) hx hb hK hP rfl (by decide) d_M_divide_64 ?_
      refine lv_goto (tgt := 85) hx hb d_M_divide_65 (by decide) ?_
      refine K85 ((r39n 16).2.2.2.1) r39n (hj.trans (by unfold f_M_divide_39u; first | with_reducible exact if_pos e1_68 | exact if_pos e1_68)) H locs ?_ ?_ hS ls (lv_sub hl [] rfl)
      · with_reducible exact hP
      · with_reducible exact hD
  have K39 : ∀ (s39_0 : Int64) (hj : f_M_divide r0 = f_M_divide_39 r0 s39_0) (H : Heap) (locs : List Loc) (hP : va_P (dC, dI) classes (mW ad cJ cZ c0 r0 w0 s0) H) (hD : va_D A (mW ad cJ cZ c0 r0 w0 s0)) (hS : va_S A s.heap H locs) (ls : Array Slot) (hl : lv_has ls 1 [(0, .ref (ad 0))]), W p l e (headSpec w_M_divide ({ frames := 2, cells := 0, slots := 0, locals := 52 } : Room)).room s m ([.ref (ad 0)] : List Value).toArray below meth c H locs 0 0 (MQ below (va_Qv (fun _ : Unit => True) (mB (dC, dI) A (mW ad cJ cZ c0 (f_M_divide r0) w0 s0)) A) ([.ref (ad 0)] : List Value).toArray s 0 0 A) (F0 m 39 ls [.long (s39_0), .int (18), .ref (ad 3)]) := by
    intro s39_0 hj H locs hP hD hS ls hl
    refine ms_3 (P := 18) (x := s39_0) hx hb hK hP hD hS rfl (by decide) d_M_divide_39 (fun H locs hP hD hS => ?_)
    obtain ⟨r39n, er39n⟩ : ∃ z, z = u3 r0 18 s39_0 := ⟨_, rfl⟩
    rw [← er39n] at hP hD
    refine K39u r39n (Eq.trans (hj.trans rfl) (congrArg (fun r39n => f_M_divide_39u r0 r39n) er39n.symm)) H locs ?_ ?_ hS ls (lv_sub hl [0] rfl)
    · with_reducible exact hP
    · with_reducible exact hD
  refine lv_aload_n hx hb d_M_divide_0 rfl (lv_at hl 0 rfl) ?_
  refine va_get (D := (dC, dI)) (ci := 2) (v := .ref (ad 3)) (C := R_M) (T := F_M) (N := 10) hx hb hts (fun w h => List.mem_cons_of_mem _ (uw_M w h)) hown hK hP 0 rfl rfl 3 (by decide) (hG (.fieldLink R_M 16 "ValueSieveModel" "low" "[J") gx12) (fun _ h9 => h9) rfl d_M_divide_1 ?_
  refine lv_bipush (v := 18) hx hb d_M_divide_4 (by decide) ?_
  refine lv_aload_n hx hb d_M_divide_6 rfl (lv_at hl 0 rfl) ?_
  refine va_get (D := (dC, dI)) (ci := 2) (v := .ref (ad 3)) (C := R_M) (T := F_M) (N := 10) hx hb hts (fun w h => List.mem_cons_of_mem _ (uw_M w h)) hown hK hP 0 rfl rfl 3 (by decide) (hG (.fieldLink R_M 16 "ValueSieveModel" "low" "[J") gx12) (fun _ h9 => h9) rfl d_M_divide_7 ?_
  refine lv_bipush (v := 17) hx hb d_M_divide_10 (by decide) ?_
  refine ml_3 (P := 17) hx hb hK hP rfl (by decide) d_M_divide_12 ?_
  refine lv_lconst (v := 0) hx hb d_M_divide_13 (by decide) ?_
  refine wl_ne (tgt := 22) hx hb d_M_divide_14 d_M_divide_15 (by decide) (fun e1_22 => ?_) (fun e1_22 => ?_)
  · refine lv_aload_n hx hb d_M_divide_22 rfl (lv_at hl 0 rfl) ?_
    refine va_get (D := (dC, dI)) (ci := 2) (v := .ref (ad 3)) (C := R_M) (T := F_M) (N := 10) hx hb hts (fun w h => List.mem_cons_of_mem _ (uw_M w h)) hown hK hP 0 rfl rfl 3 (by decide) (hG (.fieldLink R_M 16 "ValueSieveModel" "low" "[J") gx12) (fun _ h9 => h9) rfl d_M_divide_23 ?_
    refine lv_bipush (v := 16) hx hb d_M_divide_26 (by decide) ?_
    refine ml_3 (P := 16) hx hb hK hP rfl (by decide) d_M_divide_28 ?_
    refine lv_aload_n hx hb d_M_divide_29 rfl (lv_at hl 0 rfl) ?_
    refine va_get (D := (dC, dI)) (ci := 2) (v := .ref (ad 4)) (C := R_M) (T := F_M) (N := 10) hx hb hts (fun w h => List.mem_cons_of_mem _ (uw_M w h)) hown hK hP 0 rfl rfl 4 (by decide) (hG (.fieldLink R_M 19 "ValueSieveModel" "high" "[J") gx13) (fun _ h9 => h9) rfl d_M_divide_30 ?_
    refine lv_bipush (v := 17) hx hb d_M_divide_33 (by decide) ?_
    refine ml_4 (P := 17) hx hb hK hP rfl (by decide) d_M_divide_35 ?_
    refine rc_l (W.runS (As := [.long ((r0 16).2.2.1), .long ((r0 17).2.2.2.1)]) (rest := [.int (18), .ref (ad 3)]) ⟨hx, hb, hml, hown, hts⟩ (c_M_quotient l ((r0 16).2.2.1) ((r0 17).2.2.2.1)) (va_cwS 2 hts (gxS gx157 gx158 gx0 gx159) rfl rfl rfl (by decide +kernel) ⟨(Nat.le_of_ble_eq_true rfl), (Nat.le_of_ble_eq_true rfl)⟩) ⟨bl0, fun U hU hW => ⟨rfl, trivial⟩⟩ rfl rfl hl.1 rfl (lv_room (Nat.le_of_ble_eq_true rfl)) d_M_divide_36 ⟨Nat.zero_le _, Nat.zero_le _⟩) ?_
    refine K39 (f_M_quotient ((r0 16).2.2.1) ((r0 17).2.2.2.1)) (by unfold f_M_divide; first | with_reducible exact if_neg e1_22 | exact if_neg e1_22) s.heap [] ?_ ?_ hS ls (lv_sub hl [0] rfl)
    · with_reducible exact hP
    · with_reducible exact hD
  · refine lv_lconst (v := 0) hx hb d_M_divide_18 (by decide) ?_
    refine lv_goto (tgt := 39) hx hb d_M_divide_19 (by decide) ?_
    refine K39 0 (by unfold f_M_divide; first | with_reducible exact if_pos e1_22 | exact if_pos e1_22) s.heap [] ?_ ?_ hS ls (lv_sub hl [0] rfl)
    · with_reducible exact hP
    · with_reducible exact hD
-- remain
theorem d_M_remain_0 : decode b_M_remain 0 = .ok (.aload_n 0, 1) := by decide +kernel
theorem d_M_remain_1 : decode b_M_remain 1 = .ok (.getfield 19, 3) := by decide +kernel
theorem d_M_remain_4 : decode b_M_remain 4 = .ok (.bipush 16, 2) := by decide +kernel
theorem d_M_remain_6 : decode b_M_remain 6 = .ok (.laload, 1) := by decide +kernel
theorem d_M_remain_7 : decode b_M_remain 7 = .ok (.aload_n 0, 1) := by decide +kernel
theorem d_M_remain_8 : decode b_M_remain 8 = .ok (.getfield 16, 3) := by decide +kernel
theorem d_M_remain_11 : decode b_M_remain 11 = .ok (.bipush 17, 2) := by decide +kernel
theorem d_M_remain_13 : decode b_M_remain 13 = .ok (.laload, 1) := by decide +kernel
theorem d_M_remain_14 : decode b_M_remain 14 = .ok (.invokestatic 39, 3) := by decide +kernel
theorem d_M_remain_17 : decode b_M_remain 17 = .ok (.ifCond .eq 14, 3) := by decide +kernel
theorem d_M_remain_20 : decode b_M_remain 20 = .ok (.aload_n 0, 1) := by decide +kernel
theorem d_M_remain_21 : decode b_M_remain 21 = .ok (.bipush 16, 2) := by decide +kernel
theorem d_M_remain_23 : decode b_M_remain 23 = .ok (.bipush 18, 2) := by decide +kernel
theorem d_M_remain_25 : decode b_M_remain 25 = .ok (.invokevirtual 90, 3) := by decide +kernel
theorem d_M_remain_28 : decode b_M_remain 28 = .ok (.goto 59, 3) := by decide +kernel
theorem d_M_remain_31 : decode b_M_remain 31 = .ok (.aload_n 0, 1) := by decide +kernel
theorem d_M_remain_32 : decode b_M_remain 32 = .ok (.getfield 16, 3) := by decide +kernel
theorem d_M_remain_35 : decode b_M_remain 35 = .ok (.bipush 18, 2) := by decide +kernel
theorem d_M_remain_37 : decode b_M_remain 37 = .ok (.lconst 0, 1) := by decide +kernel
theorem d_M_remain_38 : decode b_M_remain 38 = .ok (.lastore, 1) := by decide +kernel
theorem d_M_remain_39 : decode b_M_remain 39 = .ok (.aload_n 0, 1) := by decide +kernel
theorem d_M_remain_40 : decode b_M_remain 40 = .ok (.getfield 19, 3) := by decide +kernel
theorem d_M_remain_43 : decode b_M_remain 43 = .ok (.bipush 18, 2) := by decide +kernel
theorem d_M_remain_45 : decode b_M_remain 45 = .ok (.aload_n 0, 1) := by decide +kernel
theorem d_M_remain_46 : decode b_M_remain 46 = .ok (.getfield 16, 3) := by decide +kernel
theorem d_M_remain_49 : decode b_M_remain 49 = .ok (.bipush 17, 2) := by decide +kernel
theorem d_M_remain_51 : decode b_M_remain 51 = .ok (.laload, 1) := by decide +kernel
theorem d_M_remain_52 : decode b_M_remain 52 = .ok (.lconst 0, 1) := by decide +kernel
theorem d_M_remain_53 : decode b_M_remain 53 = .ok (.lcmp, 1) := by decide +kernel
theorem d_M_remain_54 : decode b_M_remain 54 = .ok (.ifCond .ne 13, 3) := by decide +kernel
theorem d_M_remain_57 : decode b_M_remain 57 = .ok (.aload_n 0, 1) := by decide +kernel
theorem d_M_remain_58 : decode b_M_remain 58 = .ok (.getfield 19, 3) := by decide +kernel
theorem d_M_remain_61 : decode b_M_remain 61 = .ok (.bipush 16, 2) := by decide +kernel
theorem d_M_remain_63 : decode b_M_remain 63 = .ok (.laload, 1) := by decide +kernel
theorem d_M_remain_64 : decode b_M_remain 64 = .ok (.goto 22, 3) := by decide +kernel
theorem d_M_remain_67 : decode b_M_remain 67 = .ok (.aload_n 0, 1) := by decide +kernel
theorem d_M_remain_68 : decode b_M_remain 68 = .ok (.getfield 19, 3) := by decide +kernel
theorem d_M_remain_71 : decode b_M_remain 71 = .ok (.bipush 16, 2) := by decide +kernel
theorem d_M_remain_73 : decode b_M_remain 73 = .ok (.laload, 1) := by decide +kernel
theorem d_M_remain_74 : decode b_M_remain 74 = .ok (.aload_n 0, 1) := by decide +kernel
theorem d_M_remain_75 : decode b_M_remain 75 = .ok (.getfield 19, 3) := by decide +kernel
theorem d_M_remain_78 : decode b_M_remain 78 = .ok (.bipush 17, 2) := by decide +kernel
theorem d_M_remain_80 : decode b_M_remain 80 = .ok (.laload, 1) := by decide +kernel
theorem d_M_remain_81 : decode b_M_remain 81 = .ok (.lconst 1, 1) := by decide +kernel
theorem d_M_remain_82 : decode b_M_remain 82 = .ok (.lsub, 1) := by decide +kernel
theorem d_M_remain_83 : decode b_M_remain 83 = .ok (.invokestatic 61, 3) := by decide +kernel
theorem d_M_remain_86 : decode b_M_remain 86 = .ok (.lastore, 1) := by decide +kernel
theorem d_M_remain_87 : decode b_M_remain 87 = .ok (.return_, 1) := by decide +kernel
def f_M_remain_86u (r0 : (Nat → VV)) (r86n : (Nat → VV)) : (Nat → VV) := r86n
def f_M_remain_86 (r0 : (Nat → VV)) (s86_0 : Int64) (r38n : (Nat → VV)) : (Nat → VV) := f_M_remain_86u r0 (u4 r38n 18 s86_0)
def f_M_remain_38u (r0 : (Nat → VV)) (r38n : (Nat → VV)) : (Nat → VV) := (if ((r38n 17).2.2.1) = 0 then f_M_remain_86 r0 ((r38n 16).2.2.2.1) r38n else f_M_remain_86 r0 (f_M_lesser ((r38n 16).2.2.2.1) (((r38n 17).2.2.2.1) - (1 : Int64))) r38n)
def f_M_remain_25g (r0 : (Nat → VV)) (g25 : (Nat → VV)) : (Nat → VV) := g25
def f_M_remain (r0 : (Nat → VV)) : (Nat → VV) := (if (f_M_below ((r0 16).2.2.2.1) ((r0 17).2.2.1)) = true then f_M_remain_25g r0 (f_M_copy r0 16 18) else f_M_remain_38u r0 (u3 r0 18 0))
set_option maxRecDepth 100000 in
set_option maxHeartbeats 4000000 in
theorem c_M_remain (l : Launch) (dC : Nat → ClassId) (dI : Nat → Nat → Nat) (ad : Nat → Nat) (cJ cZ : ClassId) (sz : Nat) (c0 : Int32) (r0 : (Nat → VV)) (w0 : (Nat → Int64)) (s0 : Int32) : Met l y_M_remain w_M_remain ({ frames := 2, cells := 0, slots := 0, locals := 46 } : Room) (va_Pc [.ref (ad 0)] (nP (dC, dI) (mT cJ cZ) (mW ad cJ cZ c0 r0 w0 s0) sz)) (va_Qv (fun _ : Unit => True) (mB (dC, dI) (va_A (mW ad cJ cZ c0 r0 w0 s0) sz) (mW ad cJ cZ c0 (f_M_remain r0) w0 s0)) (va_A (mW ad cJ cZ c0 r0 w0 s0) sz)) 0 0 (va_A (mW ad cJ cZ c0 r0 w0 s0) sz) := by
  refine Met.ofW (cc := b_M_remain) (maxL := 1) (ret := none) (by decide) rfl ?_
  intro p e s m args below meth c s₁ B hml hv
  obtain ⟨rfl, hsz, hP, hK, hD0⟩ := hv
  have hx := B.exec
  have hb := B.bytes
  have hr := B.returns
  have hts := atoms_spec (ws := w_M_remain) B.pre
  have hG : ∀ w ∈ gM, w.before _ s = true := fun w h => hts w (List.mem_cons_of_mem _ h)
  have hown : s.vm.findClass R_M = some m.cls := findClass_of_methodNamed B.named
  have hlocks := B.notSynchronized
  subst hsz
  have hD := hD0.self (sz := s.heap.size)
  generalize hAe : va_A (mW ad cJ cZ c0 r0 w0 s0) s.heap.size = A at hD ⊢
  have hA : ∀ q : Nat, s.heap.size ≤ q → A q := fun q h => by rw [← hAe]; exact Or.inr h
  have hS : va_S A s.heap s.heap [] := va_S.rf
  have hl := lv_entry ([.ref (ad 0)]) (n := 1) (Nat.le_of_ble_eq_true rfl)
  rw [lg_entry_eq]
  generalize (lg_sl ([.ref (ad 0)]) ++ List.replicate (1 - (lg_sl ([.ref (ad 0)])).length) Slot.unset).toArray = ls at hl ⊢
  have hl : lv_has ls 1 [(0, .ref (ad 0))] := hl
  have K86u : ∀ (r86n : (Nat → VV)) (hj : f_M_remain r0 = f_M_remain_86u r0 r86n) (H : Heap) (locs : List Loc) (hP : va_P (dC, dI) classes (mW ad cJ cZ c0 r86n w0 s0) H) (hD : va_D A (mW ad cJ cZ c0 r86n w0 s0)) (hS : va_S A s.heap H locs) (ls : Array Slot) (hl : lv_has ls 1 []), W p l e (headSpec w_M_remain ({ frames := 2, cells := 0, slots := 0, locals := 46 } : Room)).room s m ([.ref (ad 0)] : List Value).toArray below meth c H locs 0 0 (MQ below (va_Qv (fun _ : Unit => True) (mB (dC, dI) A (mW ad cJ cZ c0 (f_M_remain r0) w0 s0)) A) ([.ref (ad 0)] : List Value).toArray s 0 0 A) (F0 m 87 ls []) := by
    intro r86n hj H locs hP hD hS ls hl
    have fe : f_M_remain r0 = r86n := hj.trans rfl
    exact W.vret hx hb hr (fun t ht hW => ⟨⟨(), rfl, trivial, by rw [ht, fe]; exact hP, by rw [fe]; exact hD⟩, hS.F ht⟩) hS.2.2 d_M_remain_87
  have K86 : ∀ (s86_0 : Int64) (r38n : (Nat → VV)) (hj : f_M_remain r0 = f_M_remain_86 r0 s86_0 r38n) (H : Heap) (locs : List Loc) (hP : va_P (dC, dI) classes (mW ad cJ cZ c0 r38n w0 s0) H) (hD : va_D A (mW ad cJ cZ c0 r38n w0 s0)) (hS : va_S A s.heap H locs) (ls : Array Slot) (hl : lv_has ls 1 []), W p l e (headSpec w_M_remain ({ frames := 2, cells := 0, slots := 0, locals := 46 } : Room)).room s m ([.ref (ad 0)] : List Value).toArray below meth c H locs 0 0 (MQ below (va_Qv (fun _ : Unit => True) (mB (dC, dI) A (mW ad cJ cZ c0 (f_M_remain r0) w0 s0)) A) ([.ref (ad 0)] : List Value).toArray s 0 0 A) (F0 m 86 ls [.long (s86_0), .int (18), .ref (ad 4)]) := by
    intro s86_0 r38n hj H locs hP hD hS ls hl
    refine ms_4 (P := 18) (x := s86_0) hx hb hK hP hD hS rfl (by decide) d_M_remain_86 (fun H locs hP hD hS => ?_)
    obtain ⟨r86n, er86n⟩ : ∃ z, z = u4 r38n 18 s86_0 := ⟨_, rfl⟩
    rw [← er86n] at hP hD
    refine K86u r86n (Eq.trans (hj.trans rfl) (congrArg (fun r86n => f_M_remain_86u r0 r86n) er86n.symm)) H locs ?_ ?_ hS ls (lv_sub hl [] rfl)
    · with_reducible exact hP
    · with_reducible exact hD
  have K38u : ∀ (r38n : (Nat → VV)) (hj : f_M_remain r0 = f_M_remain_38u r0 r38n) (H : Heap) (locs : List Loc) (hP : va_P (dC, dI) classes (mW ad cJ cZ c0 r38n w0 s0) H) (hD : va_D A (mW ad cJ cZ c0 r38n w0 s0)) (hS : va_S A s.heap H locs) (ls : Array Slot) (hl : lv_has ls 1 [(0, .ref (ad 0))]), W p l e (headSpec w_M_remain ({ frames := 2, cells := 0, slots := 0, locals := 46 } : Room)).room s m ([.ref (ad 0)] : List Value).toArray below meth c H locs 0 0 (MQ below (va_Qv (fun _ : Unit => True) (mB (dC, dI) A (mW ad cJ cZ c0 (f_M_remain r0) w0 s0)) A) ([.ref (ad 0)] : List Value).toArray s 0 0 A) (F0 m 39 ls []) := by
    intro r38n hj H locs hP hD hS ls hl
    refine lv_aload_n hx hb d_M_remain_39 rfl (lv_at hl 0 rfl) ?_
    refine va_get (D := (dC, dI)) (ci := 2) (v := .ref (ad 4)) (C := R_M) (T := F_M) (N := 10) hx hb hts (fun w h => List.mem_cons_of_mem _ (uw_M w h)) hown hK hP 0 rfl rfl 4 (by decide) (hG (.fieldLink R_M 19 "ValueSieveModel" "high" "[J") gx13) (fun _ h9 => h9) rfl d_M_remain_40 ?_
    refine lv_bipush (v := 18) hx hb d_M_remain_43 (by decide) ?_
    refine lv_aload_n hx hb d_M_remain_45 rfl (lv_at hl 0 rfl) ?_
    refine va_get (D := (dC, dI)) (ci := 2) (v := .ref (ad 3)) (C := R_M) (T := F_M) (N := 10) hx hb hts (fun w h => List.mem_cons_of_mem _ (uw_M w h)) hown hK hP 0 rfl rfl 3 (by decide) (hG (.fieldLink R_M 16 "ValueSieveModel" "low" "[J") gx12) (fun _ h9 => h9) rfl d_M_remain_46 ?_
    refine lv_bipush (v := 17) hx hb d_M_remain_49 (by decide) ?_
    refine ml_3 (P := 17) hx hb hK hP rfl (by decide) d_M_remain_51 ?_
    refine lv_lconst (v := 0) hx hb d_M_remain_52 (by decide) ?_
    refine wl_ne (tgt := 67) hx hb d_M_remain_53 d_M_remain_54 (by decide) (fun e1_67 => ?_) (fun e1_67 => ?_)
    · refine lv_aload_n hx hb d_M_remain_67 rfl (lv_at hl 0 rfl) ?_
      refine va_get (D := (dC, dI)) (ci := 2) (v := .ref (ad 4)) (C := R_M) (T := F_M) (N := 10) hx hb hts (fun w h => List.mem_cons_of_mem _ (uw_M w h)) hown hK hP 0 rfl rfl 4 (by decide) (hG (.fieldLink R_M 19 "ValueSieveModel" "high" "[J") gx13) (fun _ h9 => h9) rfl d_M_remain_68 ?_
      refine lv_bipush (v := 16) hx hb d_M_remain_71 (by decide) ?_
      refine ml_4 (P := 16) hx hb hK hP rfl (by decide) d_M_remain_73 ?_
      refine lv_aload_n hx hb d_M_remain_74 rfl (lv_at hl 0 rfl) ?_
      refine va_get (D := (dC, dI)) (ci := 2) (v := .ref (ad 4)) (C := R_M) (T := F_M) (N := 10) hx hb hts (fun w h => List.mem_cons_of_mem _ (uw_M w h)) hown hK hP 0 rfl rfl 4 (by decide) (hG (.fieldLink R_M 19 "ValueSieveModel" "high" "[J") gx13) (fun _ h9 => h9) rfl d_M_remain_75 ?_
      refine lv_bipush (v := 17) hx hb d_M_remain_78 (by decide) ?_
      refine ml_4 (P := 17) hx hb hK hP rfl (by decide) d_M_remain_80 ?_
      refine lv_lconst (v := 1) hx hb d_M_remain_81 (by decide) ?_
      refine lv_lsub hx hb d_M_remain_82 ?_
      refine rc_l (W.runS (As := [.long ((r38n 16).2.2.2.1), .long (((r38n 17).2.2.2.1) - (1 : Int64))]) (rest := [.int (18), .ref (ad 4)]) ⟨hx, hb, hml, hown, hts⟩ (c_M_lesser l ((r38n 16).2.2.2.1) (((r38n 17).2.2.2.1) - (1 : Int64))) (va_cwS 2 hts (gxS gx84 gx85 gx0 gx86) rfl rfl rfl (by decide +kernel) ⟨(Nat.le_of_ble_eq_true rfl), (Nat.le_of_ble_eq_true rfl)⟩) ⟨bl0, fun U hU hW => ⟨rfl, trivial⟩⟩ rfl rfl hl.1 rfl (lv_room (Nat.le_of_ble_eq_true rfl)) d_M_remain_83 ⟨Nat.zero_le _, Nat.zero_le _⟩) ?_
      refine K86 (f_M_lesser ((r38n 16).2.2.2.1) (((r38n 17).2.2.2.1) - (1 : Int64))) r38n (hj.trans (by unfold f_M_remain_38u; first | with_reducible exact if_neg e1_67 | exact if_neg e1_67)) H locs ?_ ?_ hS ls (lv_sub hl [] rfl)
      · with_reducible exact hP
      · with_reducible exact hD
    · refine lv_aload_n hx hb d_M_remain_57 rfl (lv_at hl 0 rfl) ?_
      refine va_get (D := (dC, dI)) (ci := 2) (v := .ref (ad 4)) (C := R_M) (T := F_M) (N := 10) hx hb hts (fun w h => List.mem_cons_of_mem _ (uw_M w h)) hown hK hP 0 rfl rfl 4 (by decide) (hG (.fieldLink R_M 19 "ValueSieveModel" "high" "[J") gx13) (fun _ h9 => h9) rfl d_M_remain_58 ?_
      refine lv_bipush (v := 16) hx hb d_M_remain_61 (by decide) ?_
      refine ml_4 (P := 16) hx hb hK hP rfl (by decide) d_M_remain_63 ?_
      refine lv_goto (tgt := 86) hx hb d_M_remain_64 (by decide) ?_
      refine K86 ((r38n 16).2.2.2.1) r38n (hj.trans (by unfold f_M_remain_38u; first | with_reducible exact if_pos e1_67 | exact if_pos e1_67)) H locs ?_ ?_ hS ls (lv_sub hl [] rfl)
      · with_reducible exact hP
      · with_reducible exact hD
  have K25g : ∀ (g25 : (Nat → VV)) (hj : f_M_remain r0 = f_M_remain_25g r0 g25) (H : Heap) (locs : List Loc) (hP : va_P (dC, dI) classes (mW ad cJ cZ c0 g25 w0 s0) H) (hD : va_D A (mW ad cJ cZ c0 g25 w0 s0)) (hS : va_S A s.heap H locs) (ls : Array Slot) (hl : lv_has ls 1 []), W p l e (headSpec w_M_remain ({ frames := 2, cells := 0, slots := 0, locals := 46 } : Room)).room s m ([.ref (ad 0)] : List Value).toArray below meth c H locs 0 0 (MQ below (va_Qv (fun _ : Unit => True) (mB (dC, dI) A (mW ad cJ cZ c0 (f_M_remain r0) w0 s0)) A) ([.ref (ad 0)] : List Value).toArray s 0 0 A) (F0 m 28 ls []) := by
    intro g25 hj H locs hP hD hS ls hl
    refine lv_goto (tgt := 87) hx hb d_M_remain_28 (by decide) ?_
    have fe : f_M_remain r0 = g25 := hj.trans rfl
    exact W.vret hx hb hr (fun t ht hW => ⟨⟨(), rfl, trivial, by rw [ht, fe]; exact hP, by rw [fe]; exact hD⟩, hS.F ht⟩) hS.2.2 d_M_remain_87
  refine lv_aload_n hx hb d_M_remain_0 rfl (lv_at hl 0 rfl) ?_
  refine va_get (D := (dC, dI)) (ci := 2) (v := .ref (ad 4)) (C := R_M) (T := F_M) (N := 10) hx hb hts (fun w h => List.mem_cons_of_mem _ (uw_M w h)) hown hK hP 0 rfl rfl 4 (by decide) (hG (.fieldLink R_M 19 "ValueSieveModel" "high" "[J") gx13) (fun _ h9 => h9) rfl d_M_remain_1 ?_
  refine lv_bipush (v := 16) hx hb d_M_remain_4 (by decide) ?_
  refine ml_4 (P := 16) hx hb hK hP rfl (by decide) d_M_remain_6 ?_
  refine lv_aload_n hx hb d_M_remain_7 rfl (lv_at hl 0 rfl) ?_
  refine va_get (D := (dC, dI)) (ci := 2) (v := .ref (ad 3)) (C := R_M) (T := F_M) (N := 10) hx hb hts (fun w h => List.mem_cons_of_mem _ (uw_M w h)) hown hK hP 0 rfl rfl 3 (by decide) (hG (.fieldLink R_M 16 "ValueSieveModel" "low" "[J") gx12) (fun _ h9 => h9) rfl d_M_remain_8 ?_
  refine lv_bipush (v := 17) hx hb d_M_remain_11 (by decide) ?_
  refine ml_3 (P := 17) hx hb hK hP rfl (by decide) d_M_remain_13 ?_
  refine rc_i (W.runS (As := [.long ((r0 16).2.2.2.1), .long ((r0 17).2.2.1)]) (rest := []) ⟨hx, hb, hml, hown, hts⟩ (c_M_below l ((r0 16).2.2.2.1) ((r0 17).2.2.1)) (va_cwS 2 hts (gxS gx57 gx58 gx0 gx59) rfl rfl rfl (by decide +kernel) ⟨(Nat.le_of_ble_eq_true rfl), (Nat.le_of_ble_eq_true rfl)⟩) ⟨bl0, fun U hU hW => ⟨rfl, trivial⟩⟩ rfl rfl hl.1 rfl (lv_room (Nat.le_of_ble_eq_true rfl)) d_M_remain_14 ⟨Nat.zero_le _, Nat.zero_le _⟩) ?_
  refine wz_eq (tgt := 31) hx hb d_M_remain_17 (by decide) (fun e1_31 => ?_) (fun e1_31 => ?_)
  · refine lv_aload_n hx hb d_M_remain_31 rfl (lv_at hl 0 rfl) ?_
    refine va_get (D := (dC, dI)) (ci := 2) (v := .ref (ad 3)) (C := R_M) (T := F_M) (N := 10) hx hb hts (fun w h => List.mem_cons_of_mem _ (uw_M w h)) hown hK hP 0 rfl rfl 3 (by decide) (hG (.fieldLink R_M 16 "ValueSieveModel" "low" "[J") gx12) (fun _ h9 => h9) rfl d_M_remain_32 ?_
    refine lv_bipush (v := 18) hx hb d_M_remain_35 (by decide) ?_
    refine lv_lconst (v := 0) hx hb d_M_remain_37 (by decide) ?_
    refine ms_3 (P := 18) (x := 0) hx hb hK hP hD hS rfl (by decide) d_M_remain_38 (fun H locs hP hD hS => ?_)
    obtain ⟨r38n, er38n⟩ : ∃ z, z = u3 r0 18 0 := ⟨_, rfl⟩
    rw [← er38n] at hP hD
    refine K38u r38n (Eq.trans (by unfold f_M_remain; first | with_reducible exact if_neg e1_31 | exact if_neg e1_31) (congrArg (fun r38n => f_M_remain_38u r0 r38n) er38n.symm)) H locs ?_ ?_ hS ls (lv_sub hl [0] rfl)
    · with_reducible exact hP
    · with_reducible exact hD
  · refine lv_aload_n hx hb d_M_remain_20 rfl (lv_at hl 0 rfl) ?_
    refine lv_bipush (v := 16) hx hb d_M_remain_21 (by decide) ?_
    refine lv_bipush (v := 18) hx hb d_M_remain_23 (by decide) ?_
    refine mm_v (F := f_M_copy r0 16 18) (w1 := fun g25 => (mW ad cJ cZ c0 g25 w0 s0)) (va_runV (As := [.int (16), .int (18)]) (rest := []) ⟨hx, hb, hml, hown, hts⟩ (c_M_copy l dC dI ad cJ cZ s.heap.size c0 r0 w0 s0 16 18 (by decide) (by decide)) (cwV 2 hts (gxV gx48 gx49 gx268 gx0 gx50) rfl rfl rfl (by decide +kernel) ⟨(Nat.le_of_ble_eq_true rfl), (Nat.le_of_ble_eq_true rfl)⟩) ⟨blp, va_recv hK hP (ci := 2) (q0 := 0) rfl rfl, fun U hU hW => ⟨rfl, by rw [hU], by rw [hU]; exact hP, va_K.moved hW.alike hK, hD.weaken (fun _ _ _ _ => trivial)⟩⟩ rfl rfl hl.1 rfl (lv_room (Nat.le_of_ble_eq_true rfl)) d_M_remain_25 ⟨Nat.zero_le _, Nat.zero_le _⟩) hD hS hA (fun g25 eg25 H locs hP hD hS => ?_)
    refine K25g g25 (Eq.trans (by unfold f_M_remain; first | with_reducible exact if_pos e1_31 | exact if_pos e1_31) (congrArg (fun g25 => f_M_remain_25g r0 g25) eg25)) H locs ?_ ?_ hS ls (lv_sub hl [] rfl)
    · with_reducible exact hP
    · with_reducible exact hD
-- and
theorem d_M_and__0 : decode b_M_and_ 0 = .ok (.aload_n 0, 1) := by decide +kernel
theorem d_M_and__1 : decode b_M_and_ 1 = .ok (.getfield 7, 3) := by decide +kernel
theorem d_M_and__4 : decode b_M_and_ 4 = .ok (.bipush 16, 2) := by decide +kernel
theorem d_M_and__6 : decode b_M_and_ 6 = .ok (.laload, 1) := by decide +kernel
theorem d_M_and__7 : decode b_M_and_ 7 = .ok (.aload_n 0, 1) := by decide +kernel
theorem d_M_and__8 : decode b_M_and_ 8 = .ok (.getfield 13, 3) := by decide +kernel
theorem d_M_and__11 : decode b_M_and_ 11 = .ok (.bipush 16, 2) := by decide +kernel
theorem d_M_and__13 : decode b_M_and_ 13 = .ok (.laload, 1) := by decide +kernel
theorem d_M_and__14 : decode b_M_and_ 14 = .ok (.lor, 1) := by decide +kernel
theorem d_M_and__15 : decode b_M_and_ 15 = .ok (.ldc2_w 49, 3) := by decide +kernel
theorem d_M_and__18 : decode b_M_and_ 18 = .ok (.lxor, 1) := by decide +kernel
theorem d_M_and__19 : decode b_M_and_ 19 = .ok (.aload_n 0, 1) := by decide +kernel
theorem d_M_and__20 : decode b_M_and_ 20 = .ok (.getfield 7, 3) := by decide +kernel
theorem d_M_and__23 : decode b_M_and_ 23 = .ok (.bipush 17, 2) := by decide +kernel
theorem d_M_and__25 : decode b_M_and_ 25 = .ok (.laload, 1) := by decide +kernel
theorem d_M_and__26 : decode b_M_and_ 26 = .ok (.aload_n 0, 1) := by decide +kernel
theorem d_M_and__27 : decode b_M_and_ 27 = .ok (.getfield 13, 3) := by decide +kernel
theorem d_M_and__30 : decode b_M_and_ 30 = .ok (.bipush 17, 2) := by decide +kernel
theorem d_M_and__32 : decode b_M_and_ 32 = .ok (.laload, 1) := by decide +kernel
theorem d_M_and__33 : decode b_M_and_ 33 = .ok (.lor, 1) := by decide +kernel
theorem d_M_and__34 : decode b_M_and_ 34 = .ok (.ldc2_w 49, 3) := by decide +kernel
theorem d_M_and__37 : decode b_M_and_ 37 = .ok (.lxor, 1) := by decide +kernel
theorem d_M_and__38 : decode b_M_and_ 38 = .ok (.lor, 1) := by decide +kernel
theorem d_M_and__39 : decode b_M_and_ 39 = .ok (.lstore_n 1, 1) := by decide +kernel
theorem d_M_and__40 : decode b_M_and_ 40 = .ok (.aload_n 0, 1) := by decide +kernel
theorem d_M_and__41 : decode b_M_and_ 41 = .ok (.getfield 7, 3) := by decide +kernel
theorem d_M_and__44 : decode b_M_and_ 44 = .ok (.bipush 18, 2) := by decide +kernel
theorem d_M_and__46 : decode b_M_and_ 46 = .ok (.aload_n 0, 1) := by decide +kernel
theorem d_M_and__47 : decode b_M_and_ 47 = .ok (.getfield 7, 3) := by decide +kernel
theorem d_M_and__50 : decode b_M_and_ 50 = .ok (.bipush 16, 2) := by decide +kernel
theorem d_M_and__52 : decode b_M_and_ 52 = .ok (.laload, 1) := by decide +kernel
theorem d_M_and__53 : decode b_M_and_ 53 = .ok (.aload_n 0, 1) := by decide +kernel
theorem d_M_and__54 : decode b_M_and_ 54 = .ok (.getfield 7, 3) := by decide +kernel
theorem d_M_and__57 : decode b_M_and_ 57 = .ok (.bipush 17, 2) := by decide +kernel
theorem d_M_and__59 : decode b_M_and_ 59 = .ok (.laload, 1) := by decide +kernel
theorem d_M_and__60 : decode b_M_and_ 60 = .ok (.land, 1) := by decide +kernel
theorem d_M_and__61 : decode b_M_and_ 61 = .ok (.lastore, 1) := by decide +kernel
theorem d_M_and__62 : decode b_M_and_ 62 = .ok (.aload_n 0, 1) := by decide +kernel
theorem d_M_and__63 : decode b_M_and_ 63 = .ok (.getfield 13, 3) := by decide +kernel
theorem d_M_and__66 : decode b_M_and_ 66 = .ok (.bipush 18, 2) := by decide +kernel
theorem d_M_and__68 : decode b_M_and_ 68 = .ok (.lload_n 1, 1) := by decide +kernel
theorem d_M_and__69 : decode b_M_and_ 69 = .ok (.ldc2_w 49, 3) := by decide +kernel
theorem d_M_and__72 : decode b_M_and_ 72 = .ok (.lxor, 1) := by decide +kernel
theorem d_M_and__73 : decode b_M_and_ 73 = .ok (.aload_n 0, 1) := by decide +kernel
theorem d_M_and__74 : decode b_M_and_ 74 = .ok (.getfield 7, 3) := by decide +kernel
theorem d_M_and__77 : decode b_M_and_ 77 = .ok (.bipush 18, 2) := by decide +kernel
theorem d_M_and__79 : decode b_M_and_ 79 = .ok (.laload, 1) := by decide +kernel
theorem d_M_and__80 : decode b_M_and_ 80 = .ok (.ldc2_w 49, 3) := by decide +kernel
theorem d_M_and__83 : decode b_M_and_ 83 = .ok (.lxor, 1) := by decide +kernel
theorem d_M_and__84 : decode b_M_and_ 84 = .ok (.land, 1) := by decide +kernel
theorem d_M_and__85 : decode b_M_and_ 85 = .ok (.lastore, 1) := by decide +kernel
theorem d_M_and__86 : decode b_M_and_ 86 = .ok (.aload_n 0, 1) := by decide +kernel
theorem d_M_and__87 : decode b_M_and_ 87 = .ok (.getfield 19, 3) := by decide +kernel
theorem d_M_and__90 : decode b_M_and_ 90 = .ok (.bipush 18, 2) := by decide +kernel
theorem d_M_and__92 : decode b_M_and_ 92 = .ok (.aload_n 0, 1) := by decide +kernel
theorem d_M_and__93 : decode b_M_and_ 93 = .ok (.getfield 19, 3) := by decide +kernel
theorem d_M_and__96 : decode b_M_and_ 96 = .ok (.bipush 16, 2) := by decide +kernel
theorem d_M_and__98 : decode b_M_and_ 98 = .ok (.laload, 1) := by decide +kernel
theorem d_M_and__99 : decode b_M_and_ 99 = .ok (.aload_n 0, 1) := by decide +kernel
theorem d_M_and__100 : decode b_M_and_ 100 = .ok (.getfield 19, 3) := by decide +kernel
theorem d_M_and__103 : decode b_M_and_ 103 = .ok (.bipush 17, 2) := by decide +kernel
theorem d_M_and__105 : decode b_M_and_ 105 = .ok (.laload, 1) := by decide +kernel
theorem d_M_and__106 : decode b_M_and_ 106 = .ok (.invokestatic 61, 3) := by decide +kernel
theorem d_M_and__109 : decode b_M_and_ 109 = .ok (.lastore, 1) := by decide +kernel
theorem d_M_and__110 : decode b_M_and_ 110 = .ok (.return_, 1) := by decide +kernel
def f_M_and__109u (r0 : (Nat → VV)) (r109n : (Nat → VV)) : (Nat → VV) := r109n
def f_M_and__85u (r0 : (Nat → VV)) (r85n : (Nat → VV)) : (Nat → VV) := f_M_and__109u r0 (u4 r85n 18 (f_M_lesser ((r85n 16).2.2.2.1) ((r85n 17).2.2.2.1)))
def f_M_and__61u (r0 : (Nat → VV)) (v39 : Int64) (r61n : (Nat → VV)) : (Nat → VV) := f_M_and__85u r0 (u2 r61n 18 ((v39 ^^^ (-1 : Int64)) &&& (((r61n 18).1) ^^^ (-1 : Int64))))
def f_M_and__39v (r0 : (Nat → VV)) (v39 : Int64) : (Nat → VV) := f_M_and__61u r0 v39 (u1 r0 18 (((r0 16).1) &&& ((r0 17).1)))
def f_M_and_ (r0 : (Nat → VV)) : (Nat → VV) := f_M_and__39v r0 (((((r0 16).1) ||| ((r0 16).2.1)) ^^^ (-1 : Int64)) ||| ((((r0 17).1) ||| ((r0 17).2.1)) ^^^ (-1 : Int64)))
set_option maxRecDepth 100000 in
set_option maxHeartbeats 4000000 in
theorem c_M_and_ (l : Launch) (dC : Nat → ClassId) (dI : Nat → Nat → Nat) (ad : Nat → Nat) (cJ cZ : ClassId) (sz : Nat) (c0 : Int32) (r0 : (Nat → VV)) (w0 : (Nat → Int64)) (s0 : Int32) : Met l y_M_and_ w_M_and_ ({ frames := 2, cells := 0, slots := 0, locals := 46 } : Room) (va_Pc [.ref (ad 0)] (nP (dC, dI) (mT cJ cZ) (mW ad cJ cZ c0 r0 w0 s0) sz)) (va_Qv (fun _ : Unit => True) (mB (dC, dI) (va_A (mW ad cJ cZ c0 r0 w0 s0) sz) (mW ad cJ cZ c0 (f_M_and_ r0) w0 s0)) (va_A (mW ad cJ cZ c0 r0 w0 s0) sz)) 0 0 (va_A (mW ad cJ cZ c0 r0 w0 s0) sz) := by
  refine Met.ofW (cc := b_M_and_) (maxL := 3) (ret := none) (by decide) rfl ?_
  intro p e s m args below meth c s₁ B hml hv
  obtain ⟨rfl, hsz, hP, hK, hD0⟩ := hv
  have hx := B.exec
  have hb := B.bytes
  have hr := B.returns
  have hts := atoms_spec (ws := w_M_and_) B.pre
  have hG : ∀ w ∈ gM, w.before _ s = true := fun w h => hts w (List.mem_cons_of_mem _ h)
  have hown : s.vm.findClass R_M = some m.cls := findClass_of_methodNamed B.named
  have hlocks := B.notSynchronized
  subst hsz
  have hD := hD0.self (sz := s.heap.size)
  generalize hAe : va_A (mW ad cJ cZ c0 r0 w0 s0) s.heap.size = A at hD ⊢
  have hA : ∀ q : Nat, s.heap.size ≤ q → A q := fun q h => by rw [← hAe]; exact Or.inr h
  have hS : va_S A s.heap s.heap [] := va_S.rf
  have hl := lv_entry ([.ref (ad 0)]) (n := 3) (Nat.le_of_ble_eq_true rfl)
  rw [lg_entry_eq]
  generalize (lg_sl ([.ref (ad 0)]) ++ List.replicate (3 - (lg_sl ([.ref (ad 0)])).length) Slot.unset).toArray = ls at hl ⊢
  have hl : lv_has ls 3 [(0, .ref (ad 0))] := hl
  have K109u : ∀ (r109n : (Nat → VV)) (hj : f_M_and_ r0 = f_M_and__109u r0 r109n) (H : Heap) (locs : List Loc) (hP : va_P (dC, dI) classes (mW ad cJ cZ c0 r109n w0 s0) H) (hD : va_D A (mW ad cJ cZ c0 r109n w0 s0)) (hS : va_S A s.heap H locs) (ls : Array Slot) (hl : lv_has ls 3 []), W p l e (headSpec w_M_and_ ({ frames := 2, cells := 0, slots := 0, locals := 46 } : Room)).room s m ([.ref (ad 0)] : List Value).toArray below meth c H locs 0 0 (MQ below (va_Qv (fun _ : Unit => True) (mB (dC, dI) A (mW ad cJ cZ c0 (f_M_and_ r0) w0 s0)) A) ([.ref (ad 0)] : List Value).toArray s 0 0 A) (F0 m 110 ls []) := by
    intro r109n hj H locs hP hD hS ls hl
    have fe : f_M_and_ r0 = r109n := hj.trans rfl
    exact W.vret hx hb hr (fun t ht hW => ⟨⟨(), rfl, trivial, by rw [ht, fe]; exact hP, by rw [fe]; exact hD⟩, hS.F ht⟩) hS.2.2 d_M_and__110
  have K85u : ∀ (r85n : (Nat → VV)) (hj : f_M_and_ r0 = f_M_and__85u r0 r85n) (H : Heap) (locs : List Loc) (hP : va_P (dC, dI) classes (mW ad cJ cZ c0 r85n w0 s0) H) (hD : va_D A (mW ad cJ cZ c0 r85n w0 s0)) (hS : va_S A s.heap H locs) (ls : Array Slot) (hl : lv_has ls 3 [(0, .ref (ad 0))]), W p l e (headSpec w_M_and_ ({ frames := 2, cells := 0, slots := 0, locals := 46 } : Room)).room s m ([.ref (ad 0)] : List Value).toArray below meth c H locs 0 0 (MQ below (va_Qv (fun _ : Unit => True) (mB (dC, dI) A (mW ad cJ cZ c0 (f_M_and_ r0) w0 s0)) A) ([.ref (ad 0)] : List Value).toArray s 0 0 A) (F0 m 86 ls []) := by
    intro r85n hj H locs hP hD hS ls hl
    refine lv_aload_n hx hb d_M_and__86 rfl (lv_at hl 0 rfl) ?_
    refine va_get (D := (dC, dI)) (ci := 2) (v := .ref (ad 4)) (C := R_M) (T := F_M) (N := 10) hx hb hts (fun w h => List.mem_cons_of_mem _ (uw_M w h)) hown hK hP 0 rfl rfl 4 (by decide) (hG (.fieldLink R_M 19 "ValueSieveModel" "high" "[J") gx13) (fun _ h9 => h9) rfl d_M_and__87 ?_
    refine lv_bipush (v := 18) hx hb d_M_and__90 (by decide) ?_
    refine lv_aload_n hx hb d_M_and__92 rfl (lv_at hl 0 rfl) ?_
    refine va_get (D := (dC, dI)) (ci := 2) (v := .ref (ad 4)) (C := R_M) (T := F_M) (N := 10) hx hb hts (fun w h => List.mem_cons_of_mem _ (uw_M w h)) hown hK hP 0 rfl rfl 4 (by decide) (hG (.fieldLink R_M 19 "ValueSieveModel" "high" "[J") gx13) (fun _ h9 => h9) rfl d_M_and__93 ?_
    refine lv_bipush (v := 16) hx hb d_M_and__96 (by decide) ?_
    refine ml_4 (P := 16) hx hb hK hP rfl (by decide) d_M_and__98 ?_
    refine lv_aload_n hx hb d_M_and__99 rfl (lv_at hl 0 rfl) ?_
    refine va_get (D := (dC, dI)) (ci := 2) (v := .ref (ad 4)) (C := R_M) (T := F_M) (N := 10) hx hb hts (fun w h => List.mem_cons_of_mem _ (uw_M w h)) hown hK hP 0 rfl rfl 4 (by decide) (hG (.fieldLink R_M 19 "ValueSieveModel" "high" "[J") gx13) (fun _ h9 => h9) rfl d_M_and__100 ?_
    refine lv_bipush (v := 17) hx hb d_M_and__103 (by decide) ?_
    refine ml_4 (P := 17) hx hb hK hP rfl (by decide) d_M_and__105 ?_
    refine rc_l (W.runS (As := [.long ((r85n 16).2.2.2.1), .long ((r85n 17).2.2.2.1)]) (rest := [.int (18), .ref (ad 4)]) ⟨hx, hb, hml, hown, hts⟩ (c_M_lesser l ((r85n 16).2.2.2.1) ((r85n 17).2.2.2.1)) (va_cwS 2 hts (gxS gx84 gx85 gx0 gx86) rfl rfl rfl (by decide +kernel) ⟨(Nat.le_of_ble_eq_true rfl), (Nat.le_of_ble_eq_true rfl)⟩) ⟨bl0, fun U hU hW => ⟨rfl, trivial⟩⟩ rfl rfl hl.1 rfl (lv_room (Nat.le_of_ble_eq_true rfl)) d_M_and__106 ⟨Nat.zero_le _, Nat.zero_le _⟩) ?_
    refine ms_4 (P := 18) (x := f_M_lesser ((r85n 16).2.2.2.1) ((r85n 17).2.2.2.1)) hx hb hK hP hD hS rfl (by decide) d_M_and__109 (fun H locs hP hD hS => ?_)
    obtain ⟨r109n, er109n⟩ : ∃ z, z = u4 r85n 18 (f_M_lesser ((r85n 16).2.2.2.1) ((r85n 17).2.2.2.1)) := ⟨_, rfl⟩
    rw [← er109n] at hP hD
    refine K109u r109n (Eq.trans (hj.trans rfl) (congrArg (fun r109n => f_M_and__109u r0 r109n) er109n.symm)) H locs ?_ ?_ hS ls (lv_sub hl [] rfl)
    · with_reducible exact hP
    · with_reducible exact hD
  have K61u : ∀ (v39 : Int64) (r61n : (Nat → VV)) (hj : f_M_and_ r0 = f_M_and__61u r0 v39 r61n) (H : Heap) (locs : List Loc) (hP : va_P (dC, dI) classes (mW ad cJ cZ c0 r61n w0 s0) H) (hD : va_D A (mW ad cJ cZ c0 r61n w0 s0)) (hS : va_S A s.heap H locs) (ls : Array Slot) (hl : lv_has ls 3 [(1, .long (v39)), (0, .ref (ad 0))]), W p l e (headSpec w_M_and_ ({ frames := 2, cells := 0, slots := 0, locals := 46 } : Room)).room s m ([.ref (ad 0)] : List Value).toArray below meth c H locs 0 0 (MQ below (va_Qv (fun _ : Unit => True) (mB (dC, dI) A (mW ad cJ cZ c0 (f_M_and_ r0) w0 s0)) A) ([.ref (ad 0)] : List Value).toArray s 0 0 A) (F0 m 62 ls []) := by
    intro v39 r61n hj H locs hP hD hS ls hl
    refine lv_aload_n hx hb d_M_and__62 rfl (lv_at hl 1 rfl) ?_
    refine va_get (D := (dC, dI)) (ci := 2) (v := .ref (ad 2)) (C := R_M) (T := F_M) (N := 10) hx hb hts (fun w h => List.mem_cons_of_mem _ (uw_M w h)) hown hK hP 0 rfl rfl 2 (by decide) (hG (.fieldLink R_M 13 "ValueSieveModel" "open" "[J") gx11) (fun _ h9 => h9) rfl d_M_and__63 ?_
    refine lv_bipush (v := 18) hx hb d_M_and__66 (by decide) ?_
    refine lv_lload_n hx hb d_M_and__68 rfl (lv_at hl 0 rfl) ?_
    refine lv_ldc2 (v := -1) hx hb hown (hG (.constantLong R_M 49 (-1)) gx42) d_M_and__69 ?_
    refine lv_lxor hx hb d_M_and__72 ?_
    refine lv_aload_n hx hb d_M_and__73 rfl (lv_at hl 1 rfl) ?_
    refine va_get (D := (dC, dI)) (ci := 2) (v := .ref (ad 1)) (C := R_M) (T := F_M) (N := 10) hx hb hts (fun w h => List.mem_cons_of_mem _ (uw_M w h)) hown hK hP 0 rfl rfl 1 (by decide) (hG (.fieldLink R_M 7 "ValueSieveModel" "bits" "[J") gx10) (fun _ h9 => h9) rfl d_M_and__74 ?_
    refine lv_bipush (v := 18) hx hb d_M_and__77 (by decide) ?_
    refine ml_1 (P := 18) hx hb hK hP rfl (by decide) d_M_and__79 ?_
    refine lv_ldc2 (v := -1) hx hb hown (hG (.constantLong R_M 49 (-1)) gx42) d_M_and__80 ?_
    refine lv_lxor hx hb d_M_and__83 ?_
    refine lv_land hx hb d_M_and__84 ?_
    refine ms_2 (P := 18) (x := (v39 ^^^ (-1 : Int64)) &&& (((r61n 18).1) ^^^ (-1 : Int64))) hx hb hK hP hD hS rfl (by decide) d_M_and__85 (fun H locs hP hD hS => ?_)
    obtain ⟨r85n, er85n⟩ : ∃ z, z = u2 r61n 18 ((v39 ^^^ (-1 : Int64)) &&& (((r61n 18).1) ^^^ (-1 : Int64))) := ⟨_, rfl⟩
    rw [← er85n] at hP hD
    refine K85u r85n (Eq.trans (hj.trans rfl) (congrArg (fun r85n => f_M_and__85u r0 r85n) er85n.symm)) H locs ?_ ?_ hS ls (lv_sub hl [1] rfl)
    · with_reducible exact hP
    · with_reducible exact hD
  have K39v : ∀ (v39 : Int64) (hj : f_M_and_ r0 = f_M_and__39v r0 v39) (H : Heap) (locs : List Loc) (hP : va_P (dC, dI) classes (mW ad cJ cZ c0 r0 w0 s0) H) (hD : va_D A (mW ad cJ cZ c0 r0 w0 s0)) (hS : va_S A s.heap H locs) (ls : Array Slot) (hl : lv_has ls 3 [(1, .long (v39)), (0, .ref (ad 0))]), W p l e (headSpec w_M_and_ ({ frames := 2, cells := 0, slots := 0, locals := 46 } : Room)).room s m ([.ref (ad 0)] : List Value).toArray below meth c H locs 0 0 (MQ below (va_Qv (fun _ : Unit => True) (mB (dC, dI) A (mW ad cJ cZ c0 (f_M_and_ r0) w0 s0)) A) ([.ref (ad 0)] : List Value).toArray s 0 0 A) (F0 m 40 ls []) := by
    intro v39 hj H locs hP hD hS ls hl
    refine lv_aload_n hx hb d_M_and__40 rfl (lv_at hl 1 rfl) ?_
    refine va_get (D := (dC, dI)) (ci := 2) (v := .ref (ad 1)) (C := R_M) (T := F_M) (N := 10) hx hb hts (fun w h => List.mem_cons_of_mem _ (uw_M w h)) hown hK hP 0 rfl rfl 1 (by decide) (hG (.fieldLink R_M 7 "ValueSieveModel" "bits" "[J") gx10) (fun _ h9 => h9) rfl d_M_and__41 ?_
    refine lv_bipush (v := 18) hx hb d_M_and__44 (by decide) ?_
    refine lv_aload_n hx hb d_M_and__46 rfl (lv_at hl 1 rfl) ?_
    refine va_get (D := (dC, dI)) (ci := 2) (v := .ref (ad 1)) (C := R_M) (T := F_M) (N := 10) hx hb hts (fun w h => List.mem_cons_of_mem _ (uw_M w h)) hown hK hP 0 rfl rfl 1 (by decide) (hG (.fieldLink R_M 7 "ValueSieveModel" "bits" "[J") gx10) (fun _ h9 => h9) rfl d_M_and__47 ?_
    refine lv_bipush (v := 16) hx hb d_M_and__50 (by decide) ?_
    refine ml_1 (P := 16) hx hb hK hP rfl (by decide) d_M_and__52 ?_
    refine lv_aload_n hx hb d_M_and__53 rfl (lv_at hl 1 rfl) ?_
    refine va_get (D := (dC, dI)) (ci := 2) (v := .ref (ad 1)) (C := R_M) (T := F_M) (N := 10) hx hb hts (fun w h => List.mem_cons_of_mem _ (uw_M w h)) hown hK hP 0 rfl rfl 1 (by decide) (hG (.fieldLink R_M 7 "ValueSieveModel" "bits" "[J") gx10) (fun _ h9 => h9) rfl d_M_and__54 ?_
    refine lv_bipush (v := 17) hx hb d_M_and__57 (by decide) ?_
    refine ml_1 (P := 17) hx hb hK hP rfl (by decide) d_M_and__59 ?_
    refine lv_land hx hb d_M_and__60 ?_
    refine ms_1 (P := 18) (x := ((r0 16).1) &&& ((r0 17).1)) hx hb hK hP hD hS rfl (by decide) d_M_and__61 (fun H locs hP hD hS => ?_)
    obtain ⟨r61n, er61n⟩ : ∃ z, z = u1 r0 18 (((r0 16).1) &&& ((r0 17).1)) := ⟨_, rfl⟩
    rw [← er61n] at hP hD
    refine K61u v39 r61n (Eq.trans (hj.trans rfl) (congrArg (fun r61n => f_M_and__61u r0 v39 r61n) er61n.symm)) H locs ?_ ?_ hS ls (lv_sub hl [0, 1] rfl)
    · with_reducible exact hP
    · with_reducible exact hD
  refine lv_aload_n hx hb d_M_and__0 rfl (lv_at hl 0 rfl) ?_
  refine va_get (D := (dC, dI)) (ci := 2) (v := .ref (ad 1)) (C := R_M) (T := F_M) (N := 10) hx hb hts (fun w h => List.mem_cons_of_mem _ (uw_M w h)) hown hK hP 0 rfl rfl 1 (by decide) (hG (.fieldLink R_M 7 "ValueSieveModel" "bits" "[J") gx10) (fun _ h9 => h9) rfl d_M_and__1 ?_
  refine lv_bipush (v := 16) hx hb d_M_and__4 (by decide) ?_
  refine ml_1 (P := 16) hx hb hK hP rfl (by decide) d_M_and__6 ?_
  refine lv_aload_n hx hb d_M_and__7 rfl (lv_at hl 0 rfl) ?_
  refine va_get (D := (dC, dI)) (ci := 2) (v := .ref (ad 2)) (C := R_M) (T := F_M) (N := 10) hx hb hts (fun w h => List.mem_cons_of_mem _ (uw_M w h)) hown hK hP 0 rfl rfl 2 (by decide) (hG (.fieldLink R_M 13 "ValueSieveModel" "open" "[J") gx11) (fun _ h9 => h9) rfl d_M_and__8 ?_
  refine lv_bipush (v := 16) hx hb d_M_and__11 (by decide) ?_
  refine ml_2 (P := 16) hx hb hK hP rfl (by decide) d_M_and__13 ?_
  refine lv_lor hx hb d_M_and__14 ?_
  refine lv_ldc2 (v := -1) hx hb hown (hG (.constantLong R_M 49 (-1)) gx42) d_M_and__15 ?_
  refine lv_lxor hx hb d_M_and__18 ?_
  refine lv_aload_n hx hb d_M_and__19 rfl (lv_at hl 0 rfl) ?_
  refine va_get (D := (dC, dI)) (ci := 2) (v := .ref (ad 1)) (C := R_M) (T := F_M) (N := 10) hx hb hts (fun w h => List.mem_cons_of_mem _ (uw_M w h)) hown hK hP 0 rfl rfl 1 (by decide) (hG (.fieldLink R_M 7 "ValueSieveModel" "bits" "[J") gx10) (fun _ h9 => h9) rfl d_M_and__20 ?_
  refine lv_bipush (v := 17) hx hb d_M_and__23 (by decide) ?_
  refine ml_1 (P := 17) hx hb hK hP rfl (by decide) d_M_and__25 ?_
  refine lv_aload_n hx hb d_M_and__26 rfl (lv_at hl 0 rfl) ?_
  refine va_get (D := (dC, dI)) (ci := 2) (v := .ref (ad 2)) (C := R_M) (T := F_M) (N := 10) hx hb hts (fun w h => List.mem_cons_of_mem _ (uw_M w h)) hown hK hP 0 rfl rfl 2 (by decide) (hG (.fieldLink R_M 13 "ValueSieveModel" "open" "[J") gx11) (fun _ h9 => h9) rfl d_M_and__27 ?_
  refine lv_bipush (v := 17) hx hb d_M_and__30 (by decide) ?_
  refine ml_2 (P := 17) hx hb hK hP rfl (by decide) d_M_and__32 ?_
  refine lv_lor hx hb d_M_and__33 ?_
  refine lv_ldc2 (v := -1) hx hb hown (hG (.constantLong R_M 49 (-1)) gx42) d_M_and__34 ?_
  refine lv_lxor hx hb d_M_and__37 ?_
  refine lv_lor hx hb d_M_and__38 ?_
  refine lv_topl (fun v39 ev39 => ?_)
  refine lv_lstore_n (lv' := [(1, .long (v39)), (0, .ref (ad 0))]) hx hb d_M_and__39 rfl hl (by decide) rfl (fun ls hl => ?_)
  refine K39v v39 (Eq.trans (rfl) (congrArg (fun v39 => f_M_and__39v r0 v39) ev39.symm)) s.heap [] ?_ ?_ hS ls (lv_sub hl [0, 1] rfl)
  · with_reducible exact hP
  · with_reducible exact hD
-- or
theorem d_M_or__0 : decode b_M_or_ 0 = .ok (.aload_n 0, 1) := by decide +kernel
theorem d_M_or__1 : decode b_M_or_ 1 = .ok (.getfield 7, 3) := by decide +kernel
theorem d_M_or__4 : decode b_M_or_ 4 = .ok (.bipush 18, 2) := by decide +kernel
theorem d_M_or__6 : decode b_M_or_ 6 = .ok (.aload_n 0, 1) := by decide +kernel
theorem d_M_or__7 : decode b_M_or_ 7 = .ok (.getfield 7, 3) := by decide +kernel
theorem d_M_or__10 : decode b_M_or_ 10 = .ok (.bipush 16, 2) := by decide +kernel
theorem d_M_or__12 : decode b_M_or_ 12 = .ok (.laload, 1) := by decide +kernel
theorem d_M_or__13 : decode b_M_or_ 13 = .ok (.aload_n 0, 1) := by decide +kernel
theorem d_M_or__14 : decode b_M_or_ 14 = .ok (.getfield 7, 3) := by decide +kernel
theorem d_M_or__17 : decode b_M_or_ 17 = .ok (.bipush 17, 2) := by decide +kernel
theorem d_M_or__19 : decode b_M_or_ 19 = .ok (.laload, 1) := by decide +kernel
theorem d_M_or__20 : decode b_M_or_ 20 = .ok (.lor, 1) := by decide +kernel
theorem d_M_or__21 : decode b_M_or_ 21 = .ok (.lastore, 1) := by decide +kernel
theorem d_M_or__22 : decode b_M_or_ 22 = .ok (.aload_n 0, 1) := by decide +kernel
theorem d_M_or__23 : decode b_M_or_ 23 = .ok (.getfield 13, 3) := by decide +kernel
theorem d_M_or__26 : decode b_M_or_ 26 = .ok (.bipush 18, 2) := by decide +kernel
theorem d_M_or__28 : decode b_M_or_ 28 = .ok (.aload_n 0, 1) := by decide +kernel
theorem d_M_or__29 : decode b_M_or_ 29 = .ok (.getfield 13, 3) := by decide +kernel
theorem d_M_or__32 : decode b_M_or_ 32 = .ok (.bipush 16, 2) := by decide +kernel
theorem d_M_or__34 : decode b_M_or_ 34 = .ok (.laload, 1) := by decide +kernel
theorem d_M_or__35 : decode b_M_or_ 35 = .ok (.aload_n 0, 1) := by decide +kernel
theorem d_M_or__36 : decode b_M_or_ 36 = .ok (.getfield 13, 3) := by decide +kernel
theorem d_M_or__39 : decode b_M_or_ 39 = .ok (.bipush 17, 2) := by decide +kernel
theorem d_M_or__41 : decode b_M_or_ 41 = .ok (.laload, 1) := by decide +kernel
theorem d_M_or__42 : decode b_M_or_ 42 = .ok (.lor, 1) := by decide +kernel
theorem d_M_or__43 : decode b_M_or_ 43 = .ok (.aload_n 0, 1) := by decide +kernel
theorem d_M_or__44 : decode b_M_or_ 44 = .ok (.getfield 7, 3) := by decide +kernel
theorem d_M_or__47 : decode b_M_or_ 47 = .ok (.bipush 18, 2) := by decide +kernel
theorem d_M_or__49 : decode b_M_or_ 49 = .ok (.laload, 1) := by decide +kernel
theorem d_M_or__50 : decode b_M_or_ 50 = .ok (.ldc2_w 49, 3) := by decide +kernel
theorem d_M_or__53 : decode b_M_or_ 53 = .ok (.lxor, 1) := by decide +kernel
theorem d_M_or__54 : decode b_M_or_ 54 = .ok (.land, 1) := by decide +kernel
theorem d_M_or__55 : decode b_M_or_ 55 = .ok (.lastore, 1) := by decide +kernel
theorem d_M_or__56 : decode b_M_or_ 56 = .ok (.aload_n 0, 1) := by decide +kernel
theorem d_M_or__57 : decode b_M_or_ 57 = .ok (.getfield 16, 3) := by decide +kernel
theorem d_M_or__60 : decode b_M_or_ 60 = .ok (.bipush 18, 2) := by decide +kernel
theorem d_M_or__62 : decode b_M_or_ 62 = .ok (.aload_n 0, 1) := by decide +kernel
theorem d_M_or__63 : decode b_M_or_ 63 = .ok (.getfield 16, 3) := by decide +kernel
theorem d_M_or__66 : decode b_M_or_ 66 = .ok (.bipush 16, 2) := by decide +kernel
theorem d_M_or__68 : decode b_M_or_ 68 = .ok (.laload, 1) := by decide +kernel
theorem d_M_or__69 : decode b_M_or_ 69 = .ok (.aload_n 0, 1) := by decide +kernel
theorem d_M_or__70 : decode b_M_or_ 70 = .ok (.getfield 16, 3) := by decide +kernel
theorem d_M_or__73 : decode b_M_or_ 73 = .ok (.bipush 17, 2) := by decide +kernel
theorem d_M_or__75 : decode b_M_or_ 75 = .ok (.laload, 1) := by decide +kernel
theorem d_M_or__76 : decode b_M_or_ 76 = .ok (.invokestatic 58, 3) := by decide +kernel
theorem d_M_or__79 : decode b_M_or_ 79 = .ok (.lastore, 1) := by decide +kernel
theorem d_M_or__80 : decode b_M_or_ 80 = .ok (.return_, 1) := by decide +kernel
def f_M_or__79u (r0 : (Nat → VV)) (r79n : (Nat → VV)) : (Nat → VV) := r79n
def f_M_or__55u (r0 : (Nat → VV)) (r55n : (Nat → VV)) : (Nat → VV) := f_M_or__79u r0 (u3 r55n 18 (f_M_larger ((r55n 16).2.2.1) ((r55n 17).2.2.1)))
def f_M_or__21u (r0 : (Nat → VV)) (r21n : (Nat → VV)) : (Nat → VV) := f_M_or__55u r0 (u2 r21n 18 ((((r21n 16).2.1) ||| ((r21n 17).2.1)) &&& (((r21n 18).1) ^^^ (-1 : Int64))))
def f_M_or_ (r0 : (Nat → VV)) : (Nat → VV) := f_M_or__21u r0 (u1 r0 18 (((r0 16).1) ||| ((r0 17).1)))
set_option maxRecDepth 100000 in
set_option maxHeartbeats 4000000 in
theorem c_M_or_ (l : Launch) (dC : Nat → ClassId) (dI : Nat → Nat → Nat) (ad : Nat → Nat) (cJ cZ : ClassId) (sz : Nat) (c0 : Int32) (r0 : (Nat → VV)) (w0 : (Nat → Int64)) (s0 : Int32) : Met l y_M_or_ w_M_or_ ({ frames := 2, cells := 0, slots := 0, locals := 46 } : Room) (va_Pc [.ref (ad 0)] (nP (dC, dI) (mT cJ cZ) (mW ad cJ cZ c0 r0 w0 s0) sz)) (va_Qv (fun _ : Unit => True) (mB (dC, dI) (va_A (mW ad cJ cZ c0 r0 w0 s0) sz) (mW ad cJ cZ c0 (f_M_or_ r0) w0 s0)) (va_A (mW ad cJ cZ c0 r0 w0 s0) sz)) 0 0 (va_A (mW ad cJ cZ c0 r0 w0 s0) sz) := by
  refine Met.ofW (cc := b_M_or_) (maxL := 1) (ret := none) (by decide) rfl ?_
  intro p e s m args below meth c s₁ B hml hv
  obtain ⟨rfl, hsz, hP, hK, hD0⟩ := hv
  have hx := B.exec
  have hb := B.bytes
  have hr := B.returns
  have hts := atoms_spec (ws := w_M_or_) B.pre
  have hG : ∀ w ∈ gM, w.before _ s = true := fun w h => hts w (List.mem_cons_of_mem _ h)
  have hown : s.vm.findClass R_M = some m.cls := findClass_of_methodNamed B.named
  have hlocks := B.notSynchronized
  subst hsz
  have hD := hD0.self (sz := s.heap.size)
  generalize hAe : va_A (mW ad cJ cZ c0 r0 w0 s0) s.heap.size = A at hD ⊢
  have hA : ∀ q : Nat, s.heap.size ≤ q → A q := fun q h => by rw [← hAe]; exact Or.inr h
  have hS : va_S A s.heap s.heap [] := va_S.rf
  have hl := lv_entry ([.ref (ad 0)]) (n := 1) (Nat.le_of_ble_eq_true rfl)
  rw [lg_entry_eq]
  generalize (lg_sl ([.ref (ad 0)]) ++ List.replicate (1 - (lg_sl ([.ref (ad 0)])).length) Slot.unset).toArray = ls at hl ⊢
  have hl : lv_has ls 1 [(0, .ref (ad 0))] := hl
  have K79u : ∀ (r79n : (Nat → VV)) (hj : f_M_or_ r0 = f_M_or__79u r0 r79n) (H : Heap) (locs : List Loc) (hP : va_P (dC, dI) classes (mW ad cJ cZ c0 r79n w0 s0) H) (hD : va_D A (mW ad cJ cZ c0 r79n w0 s0)) (hS : va_S A s.heap H locs) (ls : Array Slot) (hl : lv_has ls 1 []), W p l e (headSpec w_M_or_ ({ frames := 2, cells := 0, slots := 0, locals := 46 } : Room)).room s m ([.ref (ad 0)] : List Value).toArray below meth c H locs 0 0 (MQ below (va_Qv (fun _ : Unit => True) (mB (dC, dI) A (mW ad cJ cZ c0 (f_M_or_ r0) w0 s0)) A) ([.ref (ad 0)] : List Value).toArray s 0 0 A) (F0 m 80 ls []) := by
    intro r79n hj H locs hP hD hS ls hl
    have fe : f_M_or_ r0 = r79n := hj.trans rfl
    exact W.vret hx hb hr (fun t ht hW => ⟨⟨(), rfl, trivial, by rw [ht, fe]; exact hP, by rw [fe]; exact hD⟩, hS.F ht⟩) hS.2.2 d_M_or__80
  have K55u : ∀ (r55n : (Nat → VV)) (hj : f_M_or_ r0 = f_M_or__55u r0 r55n) (H : Heap) (locs : List Loc) (hP : va_P (dC, dI) classes (mW ad cJ cZ c0 r55n w0 s0) H) (hD : va_D A (mW ad cJ cZ c0 r55n w0 s0)) (hS : va_S A s.heap H locs) (ls : Array Slot) (hl : lv_has ls 1 [(0, .ref (ad 0))]), W p l e (headSpec w_M_or_ ({ frames := 2, cells := 0, slots := 0, locals := 46 } : Room)).room s m ([.ref (ad 0)] : List Value).toArray below meth c H locs 0 0 (MQ below (va_Qv (fun _ : Unit => True) (mB (dC, dI) A (mW ad cJ cZ c0 (f_M_or_ r0) w0 s0)) A) ([.ref (ad 0)] : List Value).toArray s 0 0 A) (F0 m 56 ls []) := by
    intro r55n hj H locs hP hD hS ls hl
    refine lv_aload_n hx hb d_M_or__56 rfl (lv_at hl 0 rfl) ?_
    refine va_get (D := (dC, dI)) (ci := 2) (v := .ref (ad 3)) (C := R_M) (T := F_M) (N := 10) hx hb hts (fun w h => List.mem_cons_of_mem _ (uw_M w h)) hown hK hP 0 rfl rfl 3 (by decide) (hG (.fieldLink R_M 16 "ValueSieveModel" "low" "[J") gx12) (fun _ h9 => h9) rfl d_M_or__57 ?_
    refine lv_bipush (v := 18) hx hb d_M_or__60 (by decide) ?_
    refine lv_aload_n hx hb d_M_or__62 rfl (lv_at hl 0 rfl) ?_
    refine va_get (D := (dC, dI)) (ci := 2) (v := .ref (ad 3)) (C := R_M) (T := F_M) (N := 10) hx hb hts (fun w h => List.mem_cons_of_mem _ (uw_M w h)) hown hK hP 0 rfl rfl 3 (by decide) (hG (.fieldLink R_M 16 "ValueSieveModel" "low" "[J") gx12) (fun _ h9 => h9) rfl d_M_or__63 ?_
    refine lv_bipush (v := 16) hx hb d_M_or__66 (by decide) ?_
    refine ml_3 (P := 16) hx hb hK hP rfl (by decide) d_M_or__68 ?_
    refine lv_aload_n hx hb d_M_or__69 rfl (lv_at hl 0 rfl) ?_
    refine va_get (D := (dC, dI)) (ci := 2) (v := .ref (ad 3)) (C := R_M) (T := F_M) (N := 10) hx hb hts (fun w h => List.mem_cons_of_mem _ (uw_M w h)) hown hK hP 0 rfl rfl 3 (by decide) (hG (.fieldLink R_M 16 "ValueSieveModel" "low" "[J") gx12) (fun _ h9 => h9) rfl d_M_or__70 ?_
    refine lv_bipush (v := 17) hx hb d_M_or__73 (by decide) ?_
    refine ml_3 (P := 17) hx hb hK hP rfl (by decide) d_M_or__75 ?_
    refine rc_l (W.runS (As := [.long ((r55n 16).2.2.1), .long ((r55n 17).2.2.1)]) (rest := [.int (18), .ref (ad 3)]) ⟨hx, hb, hml, hown, hts⟩ (c_M_larger l ((r55n 16).2.2.1) ((r55n 17).2.2.1)) (va_cwS 2 hts (gxS gx81 gx82 gx0 gx83) rfl rfl rfl (by decide +kernel) ⟨(Nat.le_of_ble_eq_true rfl), (Nat.le_of_ble_eq_true rfl)⟩) ⟨bl0, fun U hU hW => ⟨rfl, trivial⟩⟩ rfl rfl hl.1 rfl (lv_room (Nat.le_of_ble_eq_true rfl)) d_M_or__76 ⟨Nat.zero_le _, Nat.zero_le _⟩) ?_
    refine ms_3 (P := 18) (x := f_M_larger ((r55n 16).2.2.1) ((r55n 17).2.2.1)) hx hb hK hP hD hS rfl (by decide) d_M_or__79 (fun H locs hP hD hS => ?_)
    obtain ⟨r79n, er79n⟩ : ∃ z, z = u3 r55n 18 (f_M_larger ((r55n 16).2.2.1) ((r55n 17).2.2.1)) := ⟨_, rfl⟩
    rw [← er79n] at hP hD
    refine K79u r79n (Eq.trans (hj.trans rfl) (congrArg (fun r79n => f_M_or__79u r0 r79n) er79n.symm)) H locs ?_ ?_ hS ls (lv_sub hl [] rfl)
    · with_reducible exact hP
    · with_reducible exact hD
  have K21u : ∀ (r21n : (Nat → VV)) (hj : f_M_or_ r0 = f_M_or__21u r0 r21n) (H : Heap) (locs : List Loc) (hP : va_P (dC, dI) classes (mW ad cJ cZ c0 r21n w0 s0) H) (hD : va_D A (mW ad cJ cZ c0 r21n w0 s0)) (hS : va_S A s.heap H locs) (ls : Array Slot) (hl : lv_has ls 1 [(0, .ref (ad 0))]), W p l e (headSpec w_M_or_ ({ frames := 2, cells := 0, slots := 0, locals := 46 } : Room)).room s m ([.ref (ad 0)] : List Value).toArray below meth c H locs 0 0 (MQ below (va_Qv (fun _ : Unit => True) (mB (dC, dI) A (mW ad cJ cZ c0 (f_M_or_ r0) w0 s0)) A) ([.ref (ad 0)] : List Value).toArray s 0 0 A) (F0 m 22 ls []) := by
    intro r21n hj H locs hP hD hS ls hl
    refine lv_aload_n hx hb d_M_or__22 rfl (lv_at hl 0 rfl) ?_
    refine va_get (D := (dC, dI)) (ci := 2) (v := .ref (ad 2)) (C := R_M) (T := F_M) (N := 10) hx hb hts (fun w h => List.mem_cons_of_mem _ (uw_M w h)) hown hK hP 0 rfl rfl 2 (by decide) (hG (.fieldLink R_M 13 "ValueSieveModel" "open" "[J") gx11) (fun _ h9 => h9) rfl d_M_or__23 ?_
    refine lv_bipush (v := 18) hx hb d_M_or__26 (by decide) ?_
    refine lv_aload_n hx hb d_M_or__28 rfl (lv_at hl 0 rfl) ?_
    refine va_get (D := (dC, dI)) (ci := 2) (v := .ref (ad 2)) (C := R_M) (T := F_M) (N := 10) hx hb hts (fun w h => List.mem_cons_of_mem _ (uw_M w h)) hown hK hP 0 rfl rfl 2 (by decide) (hG (.fieldLink R_M 13 "ValueSieveModel" "open" "[J") gx11) (fun _ h9 => h9) rfl d_M_or__29 ?_
    refine lv_bipush (v := 16) hx hb d_M_or__32 (by decide) ?_
    refine ml_2 (P := 16) hx hb hK hP rfl (by decide) d_M_or__34 ?_
    refine lv_aload_n hx hb d_M_or__35 rfl (lv_at hl 0 rfl) ?_
    refine va_get (D := (dC, dI)) (ci := 2) (v := .ref (ad 2)) (C := R_M) (T := F_M) (N := 10) hx hb hts (fun w h => List.mem_cons_of_mem _ (uw_M w h)) hown hK hP 0 rfl rfl 2 (by decide) (hG (.fieldLink R_M 13 "ValueSieveModel" "open" "[J") gx11) (fun _ h9 => h9) rfl d_M_or__36 ?_
    refine lv_bipush (v := 17) hx hb d_M_or__39 (by decide) ?_
    refine ml_2 (P := 17) hx hb hK hP rfl (by decide) d_M_or__41 ?_
    refine lv_lor hx hb d_M_or__42 ?_
    refine lv_aload_n hx hb d_M_or__43 rfl (lv_at hl 0 rfl) ?_
    refine va_get (D := (dC, dI)) (ci := 2) (v := .ref (ad 1)) (C := R_M) (T := F_M) (N := 10) hx hb hts (fun w h => List.mem_cons_of_mem _ (uw_M w h)) hown hK hP 0 rfl rfl 1 (by decide) (hG (.fieldLink R_M 7 "ValueSieveModel" "bits" "[J") gx10) (fun _ h9 => h9) rfl d_M_or__44 ?_
    refine lv_bipush (v := 18) hx hb d_M_or__47 (by decide) ?_
    refine ml_1 (P := 18) hx hb hK hP rfl (by decide) d_M_or__49 ?_
    refine lv_ldc2 (v := -1) hx hb hown (hG (.constantLong R_M 49 (-1)) gx42) d_M_or__50 ?_
    refine lv_lxor hx hb d_M_or__53 ?_
    refine lv_land hx hb d_M_or__54 ?_
    refine ms_2 (P := 18) (x := (((r21n 16).2.1) ||| ((r21n 17).2.1)) &&& (((r21n 18).1) ^^^ (-1 : Int64))) hx hb hK hP hD hS rfl (by decide) d_M_or__55 (fun H locs hP hD hS => ?_)
    obtain ⟨r55n, er55n⟩ : ∃ z, z = u2 r21n 18 ((((r21n 16).2.1) ||| ((r21n 17).2.1)) &&& (((r21n 18).1) ^^^ (-1 : Int64))) := ⟨_, rfl⟩
    rw [← er55n] at hP hD
    refine K55u r55n (Eq.trans (hj.trans rfl) (congrArg (fun r55n => f_M_or__55u r0 r55n) er55n.symm)) H locs ?_ ?_ hS ls (lv_sub hl [0] rfl)
    · with_reducible exact hP
    · with_reducible exact hD
  refine lv_aload_n hx hb d_M_or__0 rfl (lv_at hl 0 rfl) ?_
  refine va_get (D := (dC, dI)) (ci := 2) (v := .ref (ad 1)) (C := R_M) (T := F_M) (N := 10) hx hb hts (fun w h => List.mem_cons_of_mem _ (uw_M w h)) hown hK hP 0 rfl rfl 1 (by decide) (hG (.fieldLink R_M 7 "ValueSieveModel" "bits" "[J") gx10) (fun _ h9 => h9) rfl d_M_or__1 ?_
  refine lv_bipush (v := 18) hx hb d_M_or__4 (by decide) ?_
  refine lv_aload_n hx hb d_M_or__6 rfl (lv_at hl 0 rfl) ?_
  refine va_get (D := (dC, dI)) (ci := 2) (v := .ref (ad 1)) (C := R_M) (T := F_M) (N := 10) hx hb hts (fun w h => List.mem_cons_of_mem _ (uw_M w h)) hown hK hP 0 rfl rfl 1 (by decide) (hG (.fieldLink R_M 7 "ValueSieveModel" "bits" "[J") gx10) (fun _ h9 => h9) rfl d_M_or__7 ?_
  refine lv_bipush (v := 16) hx hb d_M_or__10 (by decide) ?_
  refine ml_1 (P := 16) hx hb hK hP rfl (by decide) d_M_or__12 ?_
  refine lv_aload_n hx hb d_M_or__13 rfl (lv_at hl 0 rfl) ?_
  refine va_get (D := (dC, dI)) (ci := 2) (v := .ref (ad 1)) (C := R_M) (T := F_M) (N := 10) hx hb hts (fun w h => List.mem_cons_of_mem _ (uw_M w h)) hown hK hP 0 rfl rfl 1 (by decide) (hG (.fieldLink R_M 7 "ValueSieveModel" "bits" "[J") gx10) (fun _ h9 => h9) rfl d_M_or__14 ?_
  refine lv_bipush (v := 17) hx hb d_M_or__17 (by decide) ?_
  refine ml_1 (P := 17) hx hb hK hP rfl (by decide) d_M_or__19 ?_
  refine lv_lor hx hb d_M_or__20 ?_
  refine ms_1 (P := 18) (x := ((r0 16).1) ||| ((r0 17).1)) hx hb hK hP hD hS rfl (by decide) d_M_or__21 (fun H locs hP hD hS => ?_)
  obtain ⟨r21n, er21n⟩ : ∃ z, z = u1 r0 18 (((r0 16).1) ||| ((r0 17).1)) := ⟨_, rfl⟩
  rw [← er21n] at hP hD
  refine K21u r21n (Eq.trans (rfl) (congrArg (fun r21n => f_M_or__21u r0 r21n) er21n.symm)) H locs ?_ ?_ hS ls (lv_sub hl [0] rfl)
  · with_reducible exact hP
  · with_reducible exact hD
-- xor
theorem d_M_xor__0 : decode b_M_xor_ 0 = .ok (.aload_n 0, 1) := by decide +kernel
theorem d_M_xor__1 : decode b_M_xor_ 1 = .ok (.getfield 13, 3) := by decide +kernel
theorem d_M_xor__4 : decode b_M_xor_ 4 = .ok (.bipush 18, 2) := by decide +kernel
theorem d_M_xor__6 : decode b_M_xor_ 6 = .ok (.aload_n 0, 1) := by decide +kernel
theorem d_M_xor__7 : decode b_M_xor_ 7 = .ok (.getfield 13, 3) := by decide +kernel
theorem d_M_xor__10 : decode b_M_xor_ 10 = .ok (.bipush 16, 2) := by decide +kernel
theorem d_M_xor__12 : decode b_M_xor_ 12 = .ok (.laload, 1) := by decide +kernel
theorem d_M_xor__13 : decode b_M_xor_ 13 = .ok (.aload_n 0, 1) := by decide +kernel
theorem d_M_xor__14 : decode b_M_xor_ 14 = .ok (.getfield 13, 3) := by decide +kernel
theorem d_M_xor__17 : decode b_M_xor_ 17 = .ok (.bipush 17, 2) := by decide +kernel
theorem d_M_xor__19 : decode b_M_xor_ 19 = .ok (.laload, 1) := by decide +kernel
theorem d_M_xor__20 : decode b_M_xor_ 20 = .ok (.lor, 1) := by decide +kernel
theorem d_M_xor__21 : decode b_M_xor_ 21 = .ok (.lastore, 1) := by decide +kernel
theorem d_M_xor__22 : decode b_M_xor_ 22 = .ok (.aload_n 0, 1) := by decide +kernel
theorem d_M_xor__23 : decode b_M_xor_ 23 = .ok (.getfield 7, 3) := by decide +kernel
theorem d_M_xor__26 : decode b_M_xor_ 26 = .ok (.bipush 18, 2) := by decide +kernel
theorem d_M_xor__28 : decode b_M_xor_ 28 = .ok (.aload_n 0, 1) := by decide +kernel
theorem d_M_xor__29 : decode b_M_xor_ 29 = .ok (.getfield 7, 3) := by decide +kernel
theorem d_M_xor__32 : decode b_M_xor_ 32 = .ok (.bipush 16, 2) := by decide +kernel
theorem d_M_xor__34 : decode b_M_xor_ 34 = .ok (.laload, 1) := by decide +kernel
theorem d_M_xor__35 : decode b_M_xor_ 35 = .ok (.aload_n 0, 1) := by decide +kernel
theorem d_M_xor__36 : decode b_M_xor_ 36 = .ok (.getfield 7, 3) := by decide +kernel
theorem d_M_xor__39 : decode b_M_xor_ 39 = .ok (.bipush 17, 2) := by decide +kernel
theorem d_M_xor__41 : decode b_M_xor_ 41 = .ok (.laload, 1) := by decide +kernel
theorem d_M_xor__42 : decode b_M_xor_ 42 = .ok (.lxor, 1) := by decide +kernel
theorem d_M_xor__43 : decode b_M_xor_ 43 = .ok (.aload_n 0, 1) := by decide +kernel
theorem d_M_xor__44 : decode b_M_xor_ 44 = .ok (.getfield 13, 3) := by decide +kernel
theorem d_M_xor__47 : decode b_M_xor_ 47 = .ok (.bipush 18, 2) := by decide +kernel
theorem d_M_xor__49 : decode b_M_xor_ 49 = .ok (.laload, 1) := by decide +kernel
theorem d_M_xor__50 : decode b_M_xor_ 50 = .ok (.ldc2_w 49, 3) := by decide +kernel
theorem d_M_xor__53 : decode b_M_xor_ 53 = .ok (.lxor, 1) := by decide +kernel
theorem d_M_xor__54 : decode b_M_xor_ 54 = .ok (.land, 1) := by decide +kernel
theorem d_M_xor__55 : decode b_M_xor_ 55 = .ok (.lastore, 1) := by decide +kernel
theorem d_M_xor__56 : decode b_M_xor_ 56 = .ok (.return_, 1) := by decide +kernel
def f_M_xor__55u (r0 : (Nat → VV)) (r55n : (Nat → VV)) : (Nat → VV) := r55n
def f_M_xor__21u (r0 : (Nat → VV)) (r21n : (Nat → VV)) : (Nat → VV) := f_M_xor__55u r0 (u1 r21n 18 ((((r21n 16).1) ^^^ ((r21n 17).1)) &&& (((r21n 18).2.1) ^^^ (-1 : Int64))))
def f_M_xor_ (r0 : (Nat → VV)) : (Nat → VV) := f_M_xor__21u r0 (u2 r0 18 (((r0 16).2.1) ||| ((r0 17).2.1)))
set_option maxRecDepth 100000 in
set_option maxHeartbeats 4000000 in
theorem c_M_xor_ (l : Launch) (dC : Nat → ClassId) (dI : Nat → Nat → Nat) (ad : Nat → Nat) (cJ cZ : ClassId) (sz : Nat) (c0 : Int32) (r0 : (Nat → VV)) (w0 : (Nat → Int64)) (s0 : Int32) : Met l y_M_xor_ w_M_xor_ ({ frames := 0, cells := 0, slots := 0, locals := 0 } : Room) (va_Pc [.ref (ad 0)] (nP (dC, dI) (mT cJ cZ) (mW ad cJ cZ c0 r0 w0 s0) sz)) (va_Qv (fun _ : Unit => True) (mB (dC, dI) (va_A (mW ad cJ cZ c0 r0 w0 s0) sz) (mW ad cJ cZ c0 (f_M_xor_ r0) w0 s0)) (va_A (mW ad cJ cZ c0 r0 w0 s0) sz)) 0 0 (va_A (mW ad cJ cZ c0 r0 w0 s0) sz) := by
  refine Met.ofW (cc := b_M_xor_) (maxL := 1) (ret := none) (by decide) rfl ?_
  intro p e s m args below meth c s₁ B hml hv
  obtain ⟨rfl, hsz, hP, hK, hD0⟩ := hv
  have hx := B.exec
  have hb := B.bytes
  have hr := B.returns
  have hts := atoms_spec (ws := w_M_xor_) B.pre
  have hG : ∀ w ∈ gM, w.before _ s = true := fun w h => hts w (List.mem_cons_of_mem _ h)
  have hown : s.vm.findClass R_M = some m.cls := findClass_of_methodNamed B.named
  have hlocks := B.notSynchronized
  subst hsz
  have hD := hD0.self (sz := s.heap.size)
  generalize hAe : va_A (mW ad cJ cZ c0 r0 w0 s0) s.heap.size = A at hD ⊢
  have hA : ∀ q : Nat, s.heap.size ≤ q → A q := fun q h => by rw [← hAe]; exact Or.inr h
  have hS : va_S A s.heap s.heap [] := va_S.rf
  have hl := lv_entry ([.ref (ad 0)]) (n := 1) (Nat.le_of_ble_eq_true rfl)
  rw [lg_entry_eq]
  generalize (lg_sl ([.ref (ad 0)]) ++ List.replicate (1 - (lg_sl ([.ref (ad 0)])).length) Slot.unset).toArray = ls at hl ⊢
  have hl : lv_has ls 1 [(0, .ref (ad 0))] := hl
  have K55u : ∀ (r55n : (Nat → VV)) (hj : f_M_xor_ r0 = f_M_xor__55u r0 r55n) (H : Heap) (locs : List Loc) (hP : va_P (dC, dI) classes (mW ad cJ cZ c0 r55n w0 s0) H) (hD : va_D A (mW ad cJ cZ c0 r55n w0 s0)) (hS : va_S A s.heap H locs) (ls : Array Slot) (hl : lv_has ls 1 []), W p l e (headSpec w_M_xor_ ({ frames := 0, cells := 0, slots := 0, locals := 0 } : Room)).room s m ([.ref (ad 0)] : List Value).toArray below meth c H locs 0 0 (MQ below (va_Qv (fun _ : Unit => True) (mB (dC, dI) A (mW ad cJ cZ c0 (f_M_xor_ r0) w0 s0)) A) ([.ref (ad 0)] : List Value).toArray s 0 0 A) (F0 m 56 ls []) := by
    intro r55n hj H locs hP hD hS ls hl
    have fe : f_M_xor_ r0 = r55n := hj.trans rfl
    exact W.vret hx hb hr (fun t ht hW => ⟨⟨(), rfl, trivial, by rw [ht, fe]; exact hP, by rw [fe]; exact hD⟩, hS.F ht⟩) hS.2.2 d_M_xor__56
  have K21u : ∀ (r21n : (Nat → VV)) (hj : f_M_xor_ r0 = f_M_xor__21u r0 r21n) (H : Heap) (locs : List Loc) (hP : va_P (dC, dI) classes (mW ad cJ cZ c0 r21n w0 s0) H) (hD : va_D A (mW ad cJ cZ c0 r21n w0 s0)) (hS : va_S A s.heap H locs) (ls : Array Slot) (hl : lv_has ls 1 [(0, .ref (ad 0))]), W p l e (headSpec w_M_xor_ ({ frames := 0, cells := 0, slots := 0, locals := 0 } : Room)).room s m ([.ref (ad 0)] : List Value).toArray below meth c H locs 0 0 (MQ below (va_Qv (fun _ : Unit => True) (mB (dC, dI) A (mW ad cJ cZ c0 (f_M_xor_ r0) w0 s0)) A) ([.ref (ad 0)] : List Value).toArray s 0 0 A) (F0 m 22 ls []) := by
    intro r21n hj H locs hP hD hS ls hl
    refine lv_aload_n hx hb d_M_xor__22 rfl (lv_at hl 0 rfl) ?_
    refine va_get (D := (dC, dI)) (ci := 2) (v := .ref (ad 1)) (C := R_M) (T := F_M) (N := 10) hx hb hts (fun w h => List.mem_cons_of_mem _ (uw_M w h)) hown hK hP 0 rfl rfl 1 (by decide) (hG (.fieldLink R_M 7 "ValueSieveModel" "bits" "[J") gx10) (fun _ h9 => h9) rfl d_M_xor__23 ?_
    refine lv_bipush (v := 18) hx hb d_M_xor__26 (by decide) ?_
    refine lv_aload_n hx hb d_M_xor__28 rfl (lv_at hl 0 rfl) ?_
    refine va_get (D := (dC, dI)) (ci := 2) (v := .ref (ad 1)) (C := R_M) (T := F_M) (N := 10) hx hb hts (fun w h => List.mem_cons_of_mem _ (uw_M w h)) hown hK hP 0 rfl rfl 1 (by decide) (hG (.fieldLink R_M 7 "ValueSieveModel" "bits" "[J") gx10) (fun _ h9 => h9) rfl d_M_xor__29 ?_
    refine lv_bipush (v := 16) hx hb d_M_xor__32 (by decide) ?_
    refine ml_1 (P := 16) hx hb hK hP rfl (by decide) d_M_xor__34 ?_
    refine lv_aload_n hx hb d_M_xor__35 rfl (lv_at hl 0 rfl) ?_
    refine va_get (D := (dC, dI)) (ci := 2) (v := .ref (ad 1)) (C := R_M) (T := F_M) (N := 10) hx hb hts (fun w h => List.mem_cons_of_mem _ (uw_M w h)) hown hK hP 0 rfl rfl 1 (by decide) (hG (.fieldLink R_M 7 "ValueSieveModel" "bits" "[J") gx10) (fun _ h9 => h9) rfl d_M_xor__36 ?_
    refine lv_bipush (v := 17) hx hb d_M_xor__39 (by decide) ?_
    refine ml_1 (P := 17) hx hb hK hP rfl (by decide) d_M_xor__41 ?_
    refine lv_lxor hx hb d_M_xor__42 ?_
    refine lv_aload_n hx hb d_M_xor__43 rfl (lv_at hl 0 rfl) ?_
    refine va_get (D := (dC, dI)) (ci := 2) (v := .ref (ad 2)) (C := R_M) (T := F_M) (N := 10) hx hb hts (fun w h => List.mem_cons_of_mem _ (uw_M w h)) hown hK hP 0 rfl rfl 2 (by decide) (hG (.fieldLink R_M 13 "ValueSieveModel" "open" "[J") gx11) (fun _ h9 => h9) rfl d_M_xor__44 ?_
    refine lv_bipush (v := 18) hx hb d_M_xor__47 (by decide) ?_
    refine ml_2 (P := 18) hx hb hK hP rfl (by decide) d_M_xor__49 ?_
    refine lv_ldc2 (v := -1) hx hb hown (hG (.constantLong R_M 49 (-1)) gx42) d_M_xor__50 ?_
    refine lv_lxor hx hb d_M_xor__53 ?_
    refine lv_land hx hb d_M_xor__54 ?_
    refine ms_1 (P := 18) (x := (((r21n 16).1) ^^^ ((r21n 17).1)) &&& (((r21n 18).2.1) ^^^ (-1 : Int64))) hx hb hK hP hD hS rfl (by decide) d_M_xor__55 (fun H locs hP hD hS => ?_)
    obtain ⟨r55n, er55n⟩ : ∃ z, z = u1 r21n 18 ((((r21n 16).1) ^^^ ((r21n 17).1)) &&& (((r21n 18).2.1) ^^^ (-1 : Int64))) := ⟨_, rfl⟩
    rw [← er55n] at hP hD
    refine K55u r55n (Eq.trans (hj.trans rfl) (congrArg (fun r55n => f_M_xor__55u r0 r55n) er55n.symm)) H locs ?_ ?_ hS ls (lv_sub hl [] rfl)
    · with_reducible exact hP
    · with_reducible exact hD
  refine lv_aload_n hx hb d_M_xor__0 rfl (lv_at hl 0 rfl) ?_
  refine va_get (D := (dC, dI)) (ci := 2) (v := .ref (ad 2)) (C := R_M) (T := F_M) (N := 10) hx hb hts (fun w h => List.mem_cons_of_mem _ (uw_M w h)) hown hK hP 0 rfl rfl 2 (by decide) (hG (.fieldLink R_M 13 "ValueSieveModel" "open" "[J") gx11) (fun _ h9 => h9) rfl d_M_xor__1 ?_
  refine lv_bipush (v := 18) hx hb d_M_xor__4 (by decide) ?_
  refine lv_aload_n hx hb d_M_xor__6 rfl (lv_at hl 0 rfl) ?_
  refine va_get (D := (dC, dI)) (ci := 2) (v := .ref (ad 2)) (C := R_M) (T := F_M) (N := 10) hx hb hts (fun w h => List.mem_cons_of_mem _ (uw_M w h)) hown hK hP 0 rfl rfl 2 (by decide) (hG (.fieldLink R_M 13 "ValueSieveModel" "open" "[J") gx11) (fun _ h9 => h9) rfl d_M_xor__7 ?_
  refine lv_bipush (v := 16) hx hb d_M_xor__10 (by decide) ?_
  refine ml_2 (P := 16) hx hb hK hP rfl (by decide) d_M_xor__12 ?_
  refine lv_aload_n hx hb d_M_xor__13 rfl (lv_at hl 0 rfl) ?_
  refine va_get (D := (dC, dI)) (ci := 2) (v := .ref (ad 2)) (C := R_M) (T := F_M) (N := 10) hx hb hts (fun w h => List.mem_cons_of_mem _ (uw_M w h)) hown hK hP 0 rfl rfl 2 (by decide) (hG (.fieldLink R_M 13 "ValueSieveModel" "open" "[J") gx11) (fun _ h9 => h9) rfl d_M_xor__14 ?_
  refine lv_bipush (v := 17) hx hb d_M_xor__17 (by decide) ?_
  refine ml_2 (P := 17) hx hb hK hP rfl (by decide) d_M_xor__19 ?_
  refine lv_lor hx hb d_M_xor__20 ?_
  refine ms_2 (P := 18) (x := ((r0 16).2.1) ||| ((r0 17).2.1)) hx hb hK hP hD hS rfl (by decide) d_M_xor__21 (fun H locs hP hD hS => ?_)
  obtain ⟨r21n, er21n⟩ : ∃ z, z = u2 r0 18 (((r0 16).2.1) ||| ((r0 17).2.1)) := ⟨_, rfl⟩
  rw [← er21n] at hP hD
  refine K21u r21n (Eq.trans (rfl) (congrArg (fun r21n => f_M_xor__21u r0 r21n) er21n.symm)) H locs ?_ ?_ hS ls (lv_sub hl [0] rfl)
  · with_reducible exact hP
  · with_reducible exact hD
