-- java/lang/Long.bitCount
theorem d_Lo_bitCount_0 : decode b_Lo_bitCount 0 = .ok (.lload_n 0, 1) := by decide +kernel
theorem d_Lo_bitCount_1 : decode b_Lo_bitCount 1 = .ok (.lload_n 0, 1) := by decide +kernel
theorem d_Lo_bitCount_2 : decode b_Lo_bitCount 2 = .ok (.iconst 1, 1) := by decide +kernel
theorem d_Lo_bitCount_3 : decode b_Lo_bitCount 3 = .ok (.lushr, 1) := by decide +kernel
theorem d_Lo_bitCount_4 : decode b_Lo_bitCount 4 = .ok (.ldc2_w 314, 3) := by decide +kernel
theorem d_Lo_bitCount_7 : decode b_Lo_bitCount 7 = .ok (.land, 1) := by decide +kernel
theorem d_Lo_bitCount_8 : decode b_Lo_bitCount 8 = .ok (.lsub, 1) := by decide +kernel
theorem d_Lo_bitCount_9 : decode b_Lo_bitCount 9 = .ok (.lstore_n 0, 1) := by decide +kernel
theorem d_Lo_bitCount_10 : decode b_Lo_bitCount 10 = .ok (.lload_n 0, 1) := by decide +kernel
theorem d_Lo_bitCount_11 : decode b_Lo_bitCount 11 = .ok (.ldc2_w 316, 3) := by decide +kernel
theorem d_Lo_bitCount_14 : decode b_Lo_bitCount 14 = .ok (.land, 1) := by decide +kernel
theorem d_Lo_bitCount_15 : decode b_Lo_bitCount 15 = .ok (.lload_n 0, 1) := by decide +kernel
theorem d_Lo_bitCount_16 : decode b_Lo_bitCount 16 = .ok (.iconst 2, 1) := by decide +kernel
theorem d_Lo_bitCount_17 : decode b_Lo_bitCount 17 = .ok (.lushr, 1) := by decide +kernel
theorem d_Lo_bitCount_18 : decode b_Lo_bitCount 18 = .ok (.ldc2_w 316, 3) := by decide +kernel
theorem d_Lo_bitCount_21 : decode b_Lo_bitCount 21 = .ok (.land, 1) := by decide +kernel
theorem d_Lo_bitCount_22 : decode b_Lo_bitCount 22 = .ok (.ladd, 1) := by decide +kernel
theorem d_Lo_bitCount_23 : decode b_Lo_bitCount 23 = .ok (.lstore_n 0, 1) := by decide +kernel
theorem d_Lo_bitCount_24 : decode b_Lo_bitCount 24 = .ok (.lload_n 0, 1) := by decide +kernel
theorem d_Lo_bitCount_25 : decode b_Lo_bitCount 25 = .ok (.lload_n 0, 1) := by decide +kernel
theorem d_Lo_bitCount_26 : decode b_Lo_bitCount 26 = .ok (.iconst 4, 1) := by decide +kernel
theorem d_Lo_bitCount_27 : decode b_Lo_bitCount 27 = .ok (.lushr, 1) := by decide +kernel
theorem d_Lo_bitCount_28 : decode b_Lo_bitCount 28 = .ok (.ladd, 1) := by decide +kernel
theorem d_Lo_bitCount_29 : decode b_Lo_bitCount 29 = .ok (.ldc2_w 318, 3) := by decide +kernel
theorem d_Lo_bitCount_32 : decode b_Lo_bitCount 32 = .ok (.land, 1) := by decide +kernel
theorem d_Lo_bitCount_33 : decode b_Lo_bitCount 33 = .ok (.lstore_n 0, 1) := by decide +kernel
theorem d_Lo_bitCount_34 : decode b_Lo_bitCount 34 = .ok (.lload_n 0, 1) := by decide +kernel
theorem d_Lo_bitCount_35 : decode b_Lo_bitCount 35 = .ok (.lload_n 0, 1) := by decide +kernel
theorem d_Lo_bitCount_36 : decode b_Lo_bitCount 36 = .ok (.bipush 8, 2) := by decide +kernel
theorem d_Lo_bitCount_38 : decode b_Lo_bitCount 38 = .ok (.lushr, 1) := by decide +kernel
theorem d_Lo_bitCount_39 : decode b_Lo_bitCount 39 = .ok (.ladd, 1) := by decide +kernel
theorem d_Lo_bitCount_40 : decode b_Lo_bitCount 40 = .ok (.lstore_n 0, 1) := by decide +kernel
theorem d_Lo_bitCount_41 : decode b_Lo_bitCount 41 = .ok (.lload_n 0, 1) := by decide +kernel
theorem d_Lo_bitCount_42 : decode b_Lo_bitCount 42 = .ok (.lload_n 0, 1) := by decide +kernel
theorem d_Lo_bitCount_43 : decode b_Lo_bitCount 43 = .ok (.bipush 16, 2) := by decide +kernel
theorem d_Lo_bitCount_45 : decode b_Lo_bitCount 45 = .ok (.lushr, 1) := by decide +kernel
theorem d_Lo_bitCount_46 : decode b_Lo_bitCount 46 = .ok (.ladd, 1) := by decide +kernel
theorem d_Lo_bitCount_47 : decode b_Lo_bitCount 47 = .ok (.lstore_n 0, 1) := by decide +kernel
theorem d_Lo_bitCount_48 : decode b_Lo_bitCount 48 = .ok (.lload_n 0, 1) := by decide +kernel
theorem d_Lo_bitCount_49 : decode b_Lo_bitCount 49 = .ok (.lload_n 0, 1) := by decide +kernel
theorem d_Lo_bitCount_50 : decode b_Lo_bitCount 50 = .ok (.bipush 32, 2) := by decide +kernel
theorem d_Lo_bitCount_52 : decode b_Lo_bitCount 52 = .ok (.lushr, 1) := by decide +kernel
theorem d_Lo_bitCount_53 : decode b_Lo_bitCount 53 = .ok (.ladd, 1) := by decide +kernel
theorem d_Lo_bitCount_54 : decode b_Lo_bitCount 54 = .ok (.lstore_n 0, 1) := by decide +kernel
theorem d_Lo_bitCount_55 : decode b_Lo_bitCount 55 = .ok (.lload_n 0, 1) := by decide +kernel
theorem d_Lo_bitCount_56 : decode b_Lo_bitCount 56 = .ok (.l2i, 1) := by decide +kernel
theorem d_Lo_bitCount_57 : decode b_Lo_bitCount 57 = .ok (.bipush 127, 2) := by decide +kernel
theorem d_Lo_bitCount_59 : decode b_Lo_bitCount 59 = .ok (.iand, 1) := by decide +kernel
theorem d_Lo_bitCount_60 : decode b_Lo_bitCount 60 = .ok (.ireturn, 1) := by decide +kernel
def f_Lo_bitCount_54v (p0 : Int64) (v54 : Int64) : Int32 := (v54.toInt32 &&& (127 : Int32))
def f_Lo_bitCount_47v (p0 : Int64) (v47 : Int64) : Int32 := f_Lo_bitCount_54v p0 (v47 + ((v47.toUInt64 >>> ((32 : Int32).toInt64.toUInt64 &&& Int64.toUInt64 63)).toInt64))
def f_Lo_bitCount_40v (p0 : Int64) (v40 : Int64) : Int32 := f_Lo_bitCount_47v p0 (v40 + ((v40.toUInt64 >>> ((16 : Int32).toInt64.toUInt64 &&& Int64.toUInt64 63)).toInt64))
def f_Lo_bitCount_33v (p0 : Int64) (v33 : Int64) : Int32 := f_Lo_bitCount_40v p0 (v33 + ((v33.toUInt64 >>> ((8 : Int32).toInt64.toUInt64 &&& Int64.toUInt64 63)).toInt64))
def f_Lo_bitCount_23v (p0 : Int64) (v23 : Int64) : Int32 := f_Lo_bitCount_33v p0 ((v23 + ((v23.toUInt64 >>> ((4 : Int32).toInt64.toUInt64 &&& Int64.toUInt64 63)).toInt64)) &&& (1085102592571150095 : Int64))
def f_Lo_bitCount_9v (p0 : Int64) (v9 : Int64) : Int32 := f_Lo_bitCount_23v p0 ((v9 &&& (3689348814741910323 : Int64)) + (((v9.toUInt64 >>> ((2 : Int32).toInt64.toUInt64 &&& Int64.toUInt64 63)).toInt64) &&& (3689348814741910323 : Int64)))
def f_Lo_bitCount (p0 : Int64) : Int32 := f_Lo_bitCount_9v p0 (p0 - (((p0.toUInt64 >>> ((1 : Int32).toInt64.toUInt64 &&& Int64.toUInt64 63)).toInt64) &&& (6148914691236517205 : Int64)))
set_option maxRecDepth 100000 in
set_option maxHeartbeats 4000000 in
theorem c_Lo_bitCount (l : Launch) (p0 : Int64) : Met l y_Lo_bitCount w_Lo_bitCount ({ frames := 0, cells := 0, slots := 0, locals := 0 } : Room) (va_Pc [.long (p0)] (fun _ => True)) (vp_Si (fun r => r = f_Lo_bitCount p0)) 0 0 (fun _ => False) := by
  refine Met.ofW (cc := b_Lo_bitCount) (maxL := 2) (ret := (some .int)) (by decide) rfl ?_
  intro p e s m args below meth c s₁ B hml hv
  obtain ⟨rfl, -⟩ := hv
  have hx := B.exec
  have hb := B.bytes
  have hr := B.returns
  have hts := atoms_spec (ws := w_Lo_bitCount) B.pre
  have hG : ∀ w ∈ gG, w.before _ s = true := fun w h => hts w (List.mem_cons_of_mem _ h)
  have hown : s.vm.findClass R_Lo = some m.cls := findClass_of_methodNamed B.named
  have hlocks := B.notSynchronized
  have hl := lv_entry ([.long (p0)]) (n := 2) (Nat.le_of_ble_eq_true rfl)
  rw [lg_entry_eq]
  generalize (lg_sl ([.long (p0)]) ++ List.replicate (2 - (lg_sl ([.long (p0)])).length) Slot.unset).toArray = ls at hl ⊢
  have hl : lv_has ls 2 [(0, .long (p0))] := hl
  have K54v : ∀ (v54 : Int64) (hj : f_Lo_bitCount p0 = f_Lo_bitCount_54v p0 v54) (ls : Array Slot) (hl : lv_has ls 2 [(0, .long (v54))]), W p l e (headSpec w_Lo_bitCount ({ frames := 0, cells := 0, slots := 0, locals := 0 } : Room)).room s m ([.long (p0)] : List Value).toArray below meth c s.heap [] 0 0 (MQ below (vp_Si (fun r => r = f_Lo_bitCount p0)) ([.long (p0)] : List Value).toArray s 0 0 (fun _ => False)) (F0 m 55 ls []) := by
    intro v54 hj ls hl
    refine lv_lload_n hx hb d_Lo_bitCount_55 rfl (lv_at hl 0 rfl) ?_
    refine lv_l2i (v := v54.toInt32) hx hb d_Lo_bitCount_56 rfl ?_
    refine lv_bipush (v := 127) hx hb d_Lo_bitCount_57 (by decide) ?_
    refine lv_iand hx hb d_Lo_bitCount_59 ?_
    have fe : f_Lo_bitCount p0 = v54.toInt32 &&& (127 : Int32) := hj.trans rfl
    exact W.iret (v := v54.toInt32 &&& (127 : Int32)) hx hb hr (fun t ht hW => ⟨_, rfl, fe.symm, ht⟩) t_nil d_Lo_bitCount_60
  have K47v : ∀ (v47 : Int64) (hj : f_Lo_bitCount p0 = f_Lo_bitCount_47v p0 v47) (ls : Array Slot) (hl : lv_has ls 2 [(0, .long (v47))]), W p l e (headSpec w_Lo_bitCount ({ frames := 0, cells := 0, slots := 0, locals := 0 } : Room)).room s m ([.long (p0)] : List Value).toArray below meth c s.heap [] 0 0 (MQ below (vp_Si (fun r => r = f_Lo_bitCount p0)) ([.long (p0)] : List Value).toArray s 0 0 (fun _ => False)) (F0 m 48 ls []) := by
    intro v47 hj ls hl
    refine lv_lload_n hx hb d_Lo_bitCount_48 rfl (lv_at hl 0 rfl) ?_
    refine lv_lload_n hx hb d_Lo_bitCount_49 rfl (lv_at hl 0 rfl) ?_
    refine lv_bipush (v := 32) hx hb d_Lo_bitCount_50 (by decide) ?_
    refine lv_lushr (v := (v47.toUInt64 >>> ((32 : Int32).toInt64.toUInt64 &&& Int64.toUInt64 63)).toInt64) hx hb d_Lo_bitCount_52 rfl ?_
    refine lv_ladd hx hb d_Lo_bitCount_53 ?_
    refine lv_topl (fun v54 ev54 => ?_)
    refine lv_lstore_n (lv' := [(0, .long (v54))]) hx hb d_Lo_bitCount_54 rfl hl (by decide) rfl (fun ls hl => ?_)
    exact K54v v54 (Eq.trans (hj.trans rfl) (congrArg (fun v54 => f_Lo_bitCount_54v p0 v54) ev54.symm)) ls (lv_sub hl [0] rfl)
  have K40v : ∀ (v40 : Int64) (hj : f_Lo_bitCount p0 = f_Lo_bitCount_40v p0 v40) (ls : Array Slot) (hl : lv_has ls 2 [(0, .long (v40))]), W p l e (headSpec w_Lo_bitCount ({ frames := 0, cells := 0, slots := 0, locals := 0 } : Room)).room s m ([.long (p0)] : List Value).toArray below meth c s.heap [] 0 0 (MQ below (vp_Si (fun r => r = f_Lo_bitCount p0)) ([.long (p0)] : List Value).toArray s 0 0 (fun _ => False)) (F0 m 41 ls []) := by
    intro v40 hj ls hl
    refine lv_lload_n hx hb d_Lo_bitCount_41 rfl (lv_at hl 0 rfl) ?_
    refine lv_lload_n hx hb d_Lo_bitCount_42 rfl (lv_at hl 0 rfl) ?_
    refine lv_bipush (v := 16) hx hb d_Lo_bitCount_43 (by decide) ?_
    refine lv_lushr (v := (v40.toUInt64 >>> ((16 : Int32).toInt64.toUInt64 &&& Int64.toUInt64 63)).toInt64) hx hb d_Lo_bitCount_45 rfl ?_
    refine lv_ladd hx hb d_Lo_bitCount_46 ?_
    refine lv_topl (fun v47 ev47 => ?_)
    refine lv_lstore_n (lv' := [(0, .long (v47))]) hx hb d_Lo_bitCount_47 rfl hl (by decide) rfl (fun ls hl => ?_)
    exact K47v v47 (Eq.trans (hj.trans rfl) (congrArg (fun v47 => f_Lo_bitCount_47v p0 v47) ev47.symm)) ls (lv_sub hl [0] rfl)
  have K33v : ∀ (v33 : Int64) (hj : f_Lo_bitCount p0 = f_Lo_bitCount_33v p0 v33) (ls : Array Slot) (hl : lv_has ls 2 [(0, .long (v33))]), W p l e (headSpec w_Lo_bitCount ({ frames := 0, cells := 0, slots := 0, locals := 0 } : Room)).room s m ([.long (p0)] : List Value).toArray below meth c s.heap [] 0 0 (MQ below (vp_Si (fun r => r = f_Lo_bitCount p0)) ([.long (p0)] : List Value).toArray s 0 0 (fun _ => False)) (F0 m 34 ls []) := by
    intro v33 hj ls hl
    refine lv_lload_n hx hb d_Lo_bitCount_34 rfl (lv_at hl 0 rfl) ?_
    refine lv_lload_n hx hb d_Lo_bitCount_35 rfl (lv_at hl 0 rfl) ?_
    refine lv_bipush (v := 8) hx hb d_Lo_bitCount_36 (by decide) ?_
    refine lv_lushr (v := (v33.toUInt64 >>> ((8 : Int32).toInt64.toUInt64 &&& Int64.toUInt64 63)).toInt64) hx hb d_Lo_bitCount_38 rfl ?_
    refine lv_ladd hx hb d_Lo_bitCount_39 ?_
    refine lv_topl (fun v40 ev40 => ?_)
    refine lv_lstore_n (lv' := [(0, .long (v40))]) hx hb d_Lo_bitCount_40 rfl hl (by decide) rfl (fun ls hl => ?_)
    exact K40v v40 (Eq.trans (hj.trans rfl) (congrArg (fun v40 => f_Lo_bitCount_40v p0 v40) ev40.symm)) ls (lv_sub hl [0] rfl)
  have K23v : ∀ (v23 : Int64) (hj : f_Lo_bitCount p0 = f_Lo_bitCount_23v p0 v23) (ls : Array Slot) (hl : lv_has ls 2 [(0, .long (v23))]), W p l e (headSpec w_Lo_bitCount ({ frames := 0, cells := 0, slots := 0, locals := 0 } : Room)).room s m ([.long (p0)] : List Value).toArray below meth c s.heap [] 0 0 (MQ below (vp_Si (fun r => r = f_Lo_bitCount p0)) ([.long (p0)] : List Value).toArray s 0 0 (fun _ => False)) (F0 m 24 ls []) := by
    intro v23 hj ls hl
    refine lv_lload_n hx hb d_Lo_bitCount_24 rfl (lv_at hl 0 rfl) ?_
    refine lv_lload_n hx hb d_Lo_bitCount_25 rfl (lv_at hl 0 rfl) ?_
    refine lv_iconst (v := 4) hx hb d_Lo_bitCount_26 (by decide) ?_
    refine lv_lushr (v := (v23.toUInt64 >>> ((4 : Int32).toInt64.toUInt64 &&& Int64.toUInt64 63)).toInt64) hx hb d_Lo_bitCount_27 rfl ?_
    refine lv_ladd hx hb d_Lo_bitCount_28 ?_
    refine lv_ldc2 (v := 1085102592571150095) hx hb hown (hG (.constantLong R_Lo 318 (1085102592571150095)) gw218) d_Lo_bitCount_29 ?_
    refine lv_land hx hb d_Lo_bitCount_32 ?_
    refine lv_topl (fun v33 ev33 => ?_)
    refine lv_lstore_n (lv' := [(0, .long (v33))]) hx hb d_Lo_bitCount_33 rfl hl (by decide) rfl (fun ls hl => ?_)
    exact K33v v33 (Eq.trans (hj.trans rfl) (congrArg (fun v33 => f_Lo_bitCount_33v p0 v33) ev33.symm)) ls (lv_sub hl [0] rfl)
  have K9v : ∀ (v9 : Int64) (hj : f_Lo_bitCount p0 = f_Lo_bitCount_9v p0 v9) (ls : Array Slot) (hl : lv_has ls 2 [(0, .long (v9))]), W p l e (headSpec w_Lo_bitCount ({ frames := 0, cells := 0, slots := 0, locals := 0 } : Room)).room s m ([.long (p0)] : List Value).toArray below meth c s.heap [] 0 0 (MQ below (vp_Si (fun r => r = f_Lo_bitCount p0)) ([.long (p0)] : List Value).toArray s 0 0 (fun _ => False)) (F0 m 10 ls []) := by
    intro v9 hj ls hl
    refine lv_lload_n hx hb d_Lo_bitCount_10 rfl (lv_at hl 0 rfl) ?_
    refine lv_ldc2 (v := 3689348814741910323) hx hb hown (hG (.constantLong R_Lo 316 (3689348814741910323)) gw217) d_Lo_bitCount_11 ?_
    refine lv_land hx hb d_Lo_bitCount_14 ?_
    refine lv_lload_n hx hb d_Lo_bitCount_15 rfl (lv_at hl 0 rfl) ?_
    refine lv_iconst (v := 2) hx hb d_Lo_bitCount_16 (by decide) ?_
    refine lv_lushr (v := (v9.toUInt64 >>> ((2 : Int32).toInt64.toUInt64 &&& Int64.toUInt64 63)).toInt64) hx hb d_Lo_bitCount_17 rfl ?_
    refine lv_ldc2 (v := 3689348814741910323) hx hb hown (hG (.constantLong R_Lo 316 (3689348814741910323)) gw217) d_Lo_bitCount_18 ?_
    refine lv_land hx hb d_Lo_bitCount_21 ?_
    refine lv_ladd hx hb d_Lo_bitCount_22 ?_
    refine lv_topl (fun v23 ev23 => ?_)
    refine lv_lstore_n (lv' := [(0, .long (v23))]) hx hb d_Lo_bitCount_23 rfl hl (by decide) rfl (fun ls hl => ?_)
    exact K23v v23 (Eq.trans (hj.trans rfl) (congrArg (fun v23 => f_Lo_bitCount_23v p0 v23) ev23.symm)) ls (lv_sub hl [0] rfl)
  refine lv_lload_n hx hb d_Lo_bitCount_0 rfl (lv_at hl 0 rfl) ?_
  refine lv_lload_n hx hb d_Lo_bitCount_1 rfl (lv_at hl 0 rfl) ?_
  refine lv_iconst (v := 1) hx hb d_Lo_bitCount_2 (by decide) ?_
  refine lv_lushr (v := (p0.toUInt64 >>> ((1 : Int32).toInt64.toUInt64 &&& Int64.toUInt64 63)).toInt64) hx hb d_Lo_bitCount_3 rfl ?_
  refine lv_ldc2 (v := 6148914691236517205) hx hb hown (hG (.constantLong R_Lo 314 (6148914691236517205)) gw216) d_Lo_bitCount_4 ?_
  refine lv_land hx hb d_Lo_bitCount_7 ?_
  refine lv_lsub hx hb d_Lo_bitCount_8 ?_
  refine lv_topl (fun v9 ev9 => ?_)
  refine lv_lstore_n (lv' := [(0, .long (v9))]) hx hb d_Lo_bitCount_9 rfl hl (by decide) rfl (fun ls hl => ?_)
  exact K9v v9 (Eq.trans (rfl) (congrArg (fun v9 => f_Lo_bitCount_9v p0 v9) ev9.symm)) ls (lv_sub hl [0] rfl)
-- ValueSieve$Numbers.below
theorem d_N_below_0 : decode b_N_below 0 = .ok (.lload_n 0, 1) := by decide +kernel
theorem d_N_below_1 : decode b_N_below 1 = .ok (.ldc2_w 9, 3) := by decide +kernel
theorem d_N_below_4 : decode b_N_below 4 = .ok (.ladd, 1) := by decide +kernel
theorem d_N_below_5 : decode b_N_below 5 = .ok (.lload_n 2, 1) := by decide +kernel
theorem d_N_below_6 : decode b_N_below 6 = .ok (.ldc2_w 9, 3) := by decide +kernel
theorem d_N_below_9 : decode b_N_below 9 = .ok (.ladd, 1) := by decide +kernel
theorem d_N_below_10 : decode b_N_below 10 = .ok (.lcmp, 1) := by decide +kernel
theorem d_N_below_11 : decode b_N_below 11 = .ok (.ifCond .ge 7, 3) := by decide +kernel
theorem d_N_below_14 : decode b_N_below 14 = .ok (.iconst 1, 1) := by decide +kernel
theorem d_N_below_15 : decode b_N_below 15 = .ok (.goto 4, 3) := by decide +kernel
theorem d_N_below_18 : decode b_N_below 18 = .ok (.iconst 0, 1) := by decide +kernel
theorem d_N_below_19 : decode b_N_below 19 = .ok (.ireturn, 1) := by decide +kernel
def f_N_below (p0 : Int64) (p1 : Int64) : Int32 := (if (p0 + (-9223372036854775808 : Int64)) < (p1 + (-9223372036854775808 : Int64)) then 1 else 0)
set_option maxRecDepth 100000 in
set_option maxHeartbeats 4000000 in
theorem c_N_below (l : Launch) (p0 : Int64) (p1 : Int64) : Met l y_N_below w_N_below ({ frames := 0, cells := 0, slots := 0, locals := 0 } : Room) (va_Pc [.long (p0), .long (p1)] (fun _ => True)) (vp_Si (fun r => r = f_N_below p0 p1)) 0 0 (fun _ => False) := by
  refine Met.ofW (cc := b_N_below) (maxL := 4) (ret := (some .boolean)) (by decide) rfl ?_
  intro p e s m args below meth c s₁ B hml hv
  obtain ⟨rfl, -⟩ := hv
  have hx := B.exec
  have hb := B.bytes
  have hr := B.returns
  have hts := atoms_spec (ws := w_N_below) B.pre
  have hG : ∀ w ∈ gG, w.before _ s = true := fun w h => hts w (List.mem_cons_of_mem _ h)
  have hown : s.vm.findClass R_N = some m.cls := findClass_of_methodNamed B.named
  have hlocks := B.notSynchronized
  have hl := lv_entry ([.long (p0), .long (p1)]) (n := 4) (Nat.le_of_ble_eq_true rfl)
  rw [lg_entry_eq]
  generalize (lg_sl ([.long (p0), .long (p1)]) ++ List.replicate (4 - (lg_sl ([.long (p0), .long (p1)])).length) Slot.unset).toArray = ls at hl ⊢
  have hl : lv_has ls 4 [(0, .long (p0)), (2, .long (p1))] := hl
  refine lv_lload_n hx hb d_N_below_0 rfl (lv_at hl 0 rfl) ?_
  refine lv_ldc2 (v := -9223372036854775808) hx hb hown (hG (.constantLong R_N 9 (-9223372036854775808)) gw107) d_N_below_1 ?_
  refine lv_ladd hx hb d_N_below_4 ?_
  refine lv_lload_n hx hb d_N_below_5 rfl (lv_at hl 1 rfl) ?_
  refine lv_ldc2 (v := -9223372036854775808) hx hb hown (hG (.constantLong R_N 9 (-9223372036854775808)) gw107) d_N_below_6 ?_
  refine lv_ladd hx hb d_N_below_9 ?_
  refine wl_ge (tgt := 18) hx hb d_N_below_10 d_N_below_11 (by decide) (fun e1_18 => ?_) (fun e1_18 => ?_)
  · refine lv_iconst (v := 0) hx hb d_N_below_18 (by decide) ?_
    have fe : f_N_below p0 p1 = 0 := by unfold f_N_below; first | with_reducible exact if_neg e1_18 | exact if_neg e1_18
    have hn : narrow .boolean (.int (0)) = .int (0) := rfl
    exact W.zret (v := 0) hx hb hr hn (fun t ht hW => ⟨_, rfl, fe.symm, ht⟩) t_nil d_N_below_19
  · refine lv_iconst (v := 1) hx hb d_N_below_14 (by decide) ?_
    refine lv_goto (tgt := 19) hx hb d_N_below_15 (by decide) ?_
    have fe : f_N_below p0 p1 = 1 := by unfold f_N_below; first | with_reducible exact if_pos e1_18 | exact if_pos e1_18
    have hn : narrow .boolean (.int (1)) = .int (1) := rfl
    exact W.zret (v := 1) hx hb hr hn (fun t ht hW => ⟨_, rfl, fe.symm, ht⟩) t_nil d_N_below_19
theorem zn_N_below (p0 p1 : Int64) : narrow .boolean (.int (f_N_below p0 p1)) = .int (f_N_below p0 p1) := by
  unfold f_N_below
  split <;> rfl
-- ValueSieve$Numbers.less
theorem d_N_less_0 : decode b_N_less 0 = .ok (.lload_n 0, 1) := by decide +kernel
theorem d_N_less_1 : decode b_N_less 1 = .ok (.lload_n 2, 1) := by decide +kernel
theorem d_N_less_2 : decode b_N_less 2 = .ok (.invokestatic 11, 3) := by decide +kernel
theorem d_N_less_5 : decode b_N_less 5 = .ok (.ifCond .eq 7, 3) := by decide +kernel
theorem d_N_less_8 : decode b_N_less 8 = .ok (.lload_n 0, 1) := by decide +kernel
theorem d_N_less_9 : decode b_N_less 9 = .ok (.goto 4, 3) := by decide +kernel
theorem d_N_less_12 : decode b_N_less 12 = .ok (.lload_n 2, 1) := by decide +kernel
theorem d_N_less_13 : decode b_N_less 13 = .ok (.lreturn, 1) := by decide +kernel
def f_N_less (p0 : Int64) (p1 : Int64) : Int64 := (if (f_N_below p0 p1) = 0 then p1 else p0)
set_option maxRecDepth 100000 in
set_option maxHeartbeats 4000000 in
theorem c_N_less (l : Launch) (p0 : Int64) (p1 : Int64) : Met l y_N_less w_N_less ({ frames := 1, cells := 0, slots := 0, locals := 23 } : Room) (va_Pc [.long (p0), .long (p1)] (fun _ => True)) (vp_Sl (fun r => r = f_N_less p0 p1)) 0 0 (fun _ => False) := by
  refine Met.ofW (cc := b_N_less) (maxL := 4) (ret := (some .long)) (by decide) rfl ?_
  intro p e s m args below meth c s₁ B hml hv
  obtain ⟨rfl, -⟩ := hv
  have hx := B.exec
  have hb := B.bytes
  have hr := B.returns
  have hts := atoms_spec (ws := w_N_less) B.pre
  have hG : ∀ w ∈ gG, w.before _ s = true := fun w h => hts w (List.mem_cons_of_mem _ h)
  have hown : s.vm.findClass R_N = some m.cls := findClass_of_methodNamed B.named
  have hlocks := B.notSynchronized
  have hl := lv_entry ([.long (p0), .long (p1)]) (n := 4) (Nat.le_of_ble_eq_true rfl)
  rw [lg_entry_eq]
  generalize (lg_sl ([.long (p0), .long (p1)]) ++ List.replicate (4 - (lg_sl ([.long (p0), .long (p1)])).length) Slot.unset).toArray = ls at hl ⊢
  have hl : lv_has ls 4 [(0, .long (p0)), (2, .long (p1))] := hl
  refine lv_lload_n hx hb d_N_less_0 rfl (lv_at hl 0 rfl) ?_
  refine lv_lload_n hx hb d_N_less_1 rfl (lv_at hl 1 rfl) ?_
  refine rc_i (W.runS (As := [.long (p0), .long (p1)]) (rest := []) ⟨hx, hb, hml, hown, hts⟩ (c_N_below l p0 p1) (va_cwS 2 hts (gS gw125 gw105 gw2 gw106) rfl rfl rfl (by decide +kernel) ⟨(Nat.le_of_ble_eq_true rfl), (Nat.le_of_ble_eq_true rfl)⟩) ⟨bl0, fun U hU hW => ⟨rfl, trivial⟩⟩ rfl rfl hl.1 rfl (lv_room (Nat.le_of_ble_eq_true rfl)) d_N_less_2 ⟨Nat.zero_le _, Nat.zero_le _⟩) ?_
  refine lv_if_eq (tgt := 12) hx hb d_N_less_5 (by decide) (fun e1_12 => ?_) (fun e1_12 => ?_)
  · refine lv_lload_n hx hb d_N_less_12 rfl (lv_at hl 1 rfl) ?_
    have fe : f_N_less p0 p1 = p1 := by unfold f_N_less; first | with_reducible exact if_pos e1_12 | exact if_pos e1_12
    exact W.lret (v := p1) hx hb hr (fun t ht hW => ⟨_, rfl, fe.symm, ht⟩) t_nil d_N_less_13
  · refine lv_lload_n hx hb d_N_less_8 rfl (lv_at hl 0 rfl) ?_
    refine lv_goto (tgt := 13) hx hb d_N_less_9 (by decide) ?_
    have fe : f_N_less p0 p1 = p0 := by unfold f_N_less; first | with_reducible exact if_neg e1_12 | exact if_neg e1_12
    exact W.lret (v := p0) hx hb hr (fun t ht hW => ⟨_, rfl, fe.symm, ht⟩) t_nil d_N_less_13
-- ValueSieve$Numbers.more
theorem d_N_more_0 : decode b_N_more 0 = .ok (.lload_n 0, 1) := by decide +kernel
theorem d_N_more_1 : decode b_N_more 1 = .ok (.lload_n 2, 1) := by decide +kernel
theorem d_N_more_2 : decode b_N_more 2 = .ok (.invokestatic 11, 3) := by decide +kernel
theorem d_N_more_5 : decode b_N_more 5 = .ok (.ifCond .eq 7, 3) := by decide +kernel
theorem d_N_more_8 : decode b_N_more 8 = .ok (.lload_n 2, 1) := by decide +kernel
theorem d_N_more_9 : decode b_N_more 9 = .ok (.goto 4, 3) := by decide +kernel
theorem d_N_more_12 : decode b_N_more 12 = .ok (.lload_n 0, 1) := by decide +kernel
theorem d_N_more_13 : decode b_N_more 13 = .ok (.lreturn, 1) := by decide +kernel
def f_N_more (p0 : Int64) (p1 : Int64) : Int64 := (if (f_N_below p0 p1) = 0 then p0 else p1)
set_option maxRecDepth 100000 in
set_option maxHeartbeats 4000000 in
theorem c_N_more (l : Launch) (p0 : Int64) (p1 : Int64) : Met l y_N_more w_N_more ({ frames := 1, cells := 0, slots := 0, locals := 23 } : Room) (va_Pc [.long (p0), .long (p1)] (fun _ => True)) (vp_Sl (fun r => r = f_N_more p0 p1)) 0 0 (fun _ => False) := by
  refine Met.ofW (cc := b_N_more) (maxL := 4) (ret := (some .long)) (by decide) rfl ?_
  intro p e s m args below meth c s₁ B hml hv
  obtain ⟨rfl, -⟩ := hv
  have hx := B.exec
  have hb := B.bytes
  have hr := B.returns
  have hts := atoms_spec (ws := w_N_more) B.pre
  have hG : ∀ w ∈ gG, w.before _ s = true := fun w h => hts w (List.mem_cons_of_mem _ h)
  have hown : s.vm.findClass R_N = some m.cls := findClass_of_methodNamed B.named
  have hlocks := B.notSynchronized
  have hl := lv_entry ([.long (p0), .long (p1)]) (n := 4) (Nat.le_of_ble_eq_true rfl)
  rw [lg_entry_eq]
  generalize (lg_sl ([.long (p0), .long (p1)]) ++ List.replicate (4 - (lg_sl ([.long (p0), .long (p1)])).length) Slot.unset).toArray = ls at hl ⊢
  have hl : lv_has ls 4 [(0, .long (p0)), (2, .long (p1))] := hl
  refine lv_lload_n hx hb d_N_more_0 rfl (lv_at hl 0 rfl) ?_
  refine lv_lload_n hx hb d_N_more_1 rfl (lv_at hl 1 rfl) ?_
  refine rc_i (W.runS (As := [.long (p0), .long (p1)]) (rest := []) ⟨hx, hb, hml, hown, hts⟩ (c_N_below l p0 p1) (va_cwS 2 hts (gS gw125 gw105 gw2 gw106) rfl rfl rfl (by decide +kernel) ⟨(Nat.le_of_ble_eq_true rfl), (Nat.le_of_ble_eq_true rfl)⟩) ⟨bl0, fun U hU hW => ⟨rfl, trivial⟩⟩ rfl rfl hl.1 rfl (lv_room (Nat.le_of_ble_eq_true rfl)) d_N_more_2 ⟨Nat.zero_le _, Nat.zero_le _⟩) ?_
  refine lv_if_eq (tgt := 12) hx hb d_N_more_5 (by decide) (fun e1_12 => ?_) (fun e1_12 => ?_)
  · refine lv_lload_n hx hb d_N_more_12 rfl (lv_at hl 0 rfl) ?_
    have fe : f_N_more p0 p1 = p0 := by unfold f_N_more; first | with_reducible exact if_pos e1_12 | exact if_pos e1_12
    exact W.lret (v := p0) hx hb hr (fun t ht hW => ⟨_, rfl, fe.symm, ht⟩) t_nil d_N_more_13
  · refine lv_lload_n hx hb d_N_more_8 rfl (lv_at hl 1 rfl) ?_
    refine lv_goto (tgt := 13) hx hb d_N_more_9 (by decide) ?_
    have fe : f_N_more p0 p1 = p1 := by unfold f_N_more; first | with_reducible exact if_neg e1_12 | exact if_neg e1_12
    exact W.lret (v := p1) hx hb hr (fun t ht hW => ⟨_, rfl, fe.symm, ht⟩) t_nil d_N_more_13
-- ValueSieve$Numbers.quotient
theorem d_N_quotient_0 : decode b_N_quotient 0 = .ok (.lload_n 2, 1) := by decide +kernel
theorem d_N_quotient_1 : decode b_N_quotient 1 = .ok (.lconst 0, 1) := by decide +kernel
theorem d_N_quotient_2 : decode b_N_quotient 2 = .ok (.lcmp, 1) := by decide +kernel
theorem d_N_quotient_3 : decode b_N_quotient 3 = .ok (.ifCond .ne 5, 3) := by decide +kernel
theorem d_N_quotient_6 : decode b_N_quotient 6 = .ok (.lconst 0, 1) := by decide +kernel
theorem d_N_quotient_7 : decode b_N_quotient 7 = .ok (.lreturn, 1) := by decide +kernel
theorem d_N_quotient_8 : decode b_N_quotient 8 = .ok (.lload_n 2, 1) := by decide +kernel
theorem d_N_quotient_9 : decode b_N_quotient 9 = .ok (.lconst 0, 1) := by decide +kernel
theorem d_N_quotient_10 : decode b_N_quotient 10 = .ok (.lcmp, 1) := by decide +kernel
theorem d_N_quotient_11 : decode b_N_quotient 11 = .ok (.ifCond .ge 17, 3) := by decide +kernel
theorem d_N_quotient_14 : decode b_N_quotient 14 = .ok (.lload_n 0, 1) := by decide +kernel
theorem d_N_quotient_15 : decode b_N_quotient 15 = .ok (.lload_n 2, 1) := by decide +kernel
theorem d_N_quotient_16 : decode b_N_quotient 16 = .ok (.invokestatic 11, 3) := by decide +kernel
theorem d_N_quotient_19 : decode b_N_quotient 19 = .ok (.ifCond .eq 7, 3) := by decide +kernel
theorem d_N_quotient_22 : decode b_N_quotient 22 = .ok (.lconst 0, 1) := by decide +kernel
theorem d_N_quotient_23 : decode b_N_quotient 23 = .ok (.goto 4, 3) := by decide +kernel
theorem d_N_quotient_26 : decode b_N_quotient 26 = .ok (.lconst 1, 1) := by decide +kernel
theorem d_N_quotient_27 : decode b_N_quotient 27 = .ok (.lreturn, 1) := by decide +kernel
theorem d_N_quotient_28 : decode b_N_quotient 28 = .ok (.lload_n 0, 1) := by decide +kernel
theorem d_N_quotient_29 : decode b_N_quotient 29 = .ok (.iconst 1, 1) := by decide +kernel
theorem d_N_quotient_30 : decode b_N_quotient 30 = .ok (.lushr, 1) := by decide +kernel
theorem d_N_quotient_31 : decode b_N_quotient 31 = .ok (.lload_n 2, 1) := by decide +kernel
theorem d_N_quotient_32 : decode b_N_quotient 32 = .ok (.ldiv, 1) := by decide +kernel
theorem d_N_quotient_33 : decode b_N_quotient 33 = .ok (.iconst 1, 1) := by decide +kernel
theorem d_N_quotient_34 : decode b_N_quotient 34 = .ok (.lshl, 1) := by decide +kernel
theorem d_N_quotient_35 : decode b_N_quotient 35 = .ok (.lstore 4, 2) := by decide +kernel
theorem d_N_quotient_37 : decode b_N_quotient 37 = .ok (.lload_n 0, 1) := by decide +kernel
theorem d_N_quotient_38 : decode b_N_quotient 38 = .ok (.lload 4, 2) := by decide +kernel
theorem d_N_quotient_40 : decode b_N_quotient 40 = .ok (.lload_n 2, 1) := by decide +kernel
theorem d_N_quotient_41 : decode b_N_quotient 41 = .ok (.lmul, 1) := by decide +kernel
theorem d_N_quotient_42 : decode b_N_quotient 42 = .ok (.lsub, 1) := by decide +kernel
theorem d_N_quotient_43 : decode b_N_quotient 43 = .ok (.lload_n 2, 1) := by decide +kernel
theorem d_N_quotient_44 : decode b_N_quotient 44 = .ok (.invokestatic 11, 3) := by decide +kernel
theorem d_N_quotient_47 : decode b_N_quotient 47 = .ok (.ifCond .eq 8, 3) := by decide +kernel
theorem d_N_quotient_50 : decode b_N_quotient 50 = .ok (.lload 4, 2) := by decide +kernel
theorem d_N_quotient_52 : decode b_N_quotient 52 = .ok (.goto 7, 3) := by decide +kernel
theorem d_N_quotient_55 : decode b_N_quotient 55 = .ok (.lload 4, 2) := by decide +kernel
theorem d_N_quotient_57 : decode b_N_quotient 57 = .ok (.lconst 1, 1) := by decide +kernel
theorem d_N_quotient_58 : decode b_N_quotient 58 = .ok (.ladd, 1) := by decide +kernel
theorem d_N_quotient_59 : decode b_N_quotient 59 = .ok (.lreturn, 1) := by decide +kernel
def f_N_quotient_35v (p0 : Int64) (p1 : Int64) (v35 : Int64) : Int64 := (if (f_N_below (p0 - (v35 * p1)) p1) = 0 then (v35 + (1 : Int64)) else v35)
def f_N_quotient (p0 : Int64) (p1 : Int64) : Int64 := (if p1 = 0 then 0 else (if p1 < 0 then (if (f_N_below p0 p1) = 0 then 1 else 0) else f_N_quotient_35v p0 p1 ((((p0.toUInt64 >>> ((1 : Int32).toInt64.toUInt64 &&& Int64.toUInt64 63)).toInt64) / p1) <<< ((1 : Int32).toInt64 &&& 63))))
set_option maxRecDepth 100000 in
set_option maxHeartbeats 4000000 in
theorem c_N_quotient (l : Launch) (p0 : Int64) (p1 : Int64) : Met l y_N_quotient w_N_quotient ({ frames := 1, cells := 0, slots := 0, locals := 23 } : Room) (va_Pc [.long (p0), .long (p1)] (fun _ => True)) (vp_Sl (fun r => r = f_N_quotient p0 p1)) 0 0 (fun _ => False) := by
  refine Met.ofW (cc := b_N_quotient) (maxL := 6) (ret := (some .long)) (by decide) rfl ?_
  intro p e s m args below meth c s₁ B hml hv
  obtain ⟨rfl, -⟩ := hv
  have hx := B.exec
  have hb := B.bytes
  have hr := B.returns
  have hts := atoms_spec (ws := w_N_quotient) B.pre
  have hG : ∀ w ∈ gG, w.before _ s = true := fun w h => hts w (List.mem_cons_of_mem _ h)
  have hown : s.vm.findClass R_N = some m.cls := findClass_of_methodNamed B.named
  have hlocks := B.notSynchronized
  have hl := lv_entry ([.long (p0), .long (p1)]) (n := 6) (Nat.le_of_ble_eq_true rfl)
  rw [lg_entry_eq]
  generalize (lg_sl ([.long (p0), .long (p1)]) ++ List.replicate (6 - (lg_sl ([.long (p0), .long (p1)])).length) Slot.unset).toArray = ls at hl ⊢
  have hl : lv_has ls 6 [(0, .long (p0)), (2, .long (p1))] := hl
  have K35v : ∀ (v35 : Int64) (hj : f_N_quotient p0 p1 = f_N_quotient_35v p0 p1 v35) (ls : Array Slot) (hl : lv_has ls 6 [(4, .long (v35)), (0, .long (p0)), (2, .long (p1))]), W p l e (headSpec w_N_quotient ({ frames := 1, cells := 0, slots := 0, locals := 23 } : Room)).room s m ([.long (p0), .long (p1)] : List Value).toArray below meth c s.heap [] 0 0 (MQ below (vp_Sl (fun r => r = f_N_quotient p0 p1)) ([.long (p0), .long (p1)] : List Value).toArray s 0 0 (fun _ => False)) (F0 m 37 ls []) := by
    intro v35 hj ls hl
    refine lv_lload_n hx hb d_N_quotient_37 rfl (lv_at hl 1 rfl) ?_
    refine lv_lload hx hb d_N_quotient_38 (lv_at hl 0 rfl) ?_
    refine lv_lload_n hx hb d_N_quotient_40 rfl (lv_at hl 2 rfl) ?_
    refine lv_lmul hx hb d_N_quotient_41 ?_
    refine lv_lsub hx hb d_N_quotient_42 ?_
    refine lv_lload_n hx hb d_N_quotient_43 rfl (lv_at hl 2 rfl) ?_
    refine rc_i (W.runS (As := [.long (p0 - (v35 * p1)), .long (p1)]) (rest := []) ⟨hx, hb, hml, hown, hts⟩ (c_N_below l (p0 - (v35 * p1)) p1) (va_cwS 2 hts (gS gw125 gw105 gw2 gw106) rfl rfl rfl (by decide +kernel) ⟨(Nat.le_of_ble_eq_true rfl), (Nat.le_of_ble_eq_true rfl)⟩) ⟨bl0, fun U hU hW => ⟨rfl, trivial⟩⟩ rfl rfl hl.1 rfl (lv_room (Nat.le_of_ble_eq_true rfl)) d_N_quotient_44 ⟨Nat.zero_le _, Nat.zero_le _⟩) ?_
    refine lv_if_eq (tgt := 55) hx hb d_N_quotient_47 (by decide) (fun e1_55 => ?_) (fun e1_55 => ?_)
    · refine lv_lload hx hb d_N_quotient_55 (lv_at hl 0 rfl) ?_
      refine lv_lconst (v := 1) hx hb d_N_quotient_57 (by decide) ?_
      refine lv_ladd hx hb d_N_quotient_58 ?_
      have fe : f_N_quotient p0 p1 = v35 + (1 : Int64) := hj.trans (by unfold f_N_quotient_35v; first | with_reducible exact if_pos e1_55 | exact if_pos e1_55)
      exact W.lret (v := v35 + (1 : Int64)) hx hb hr (fun t ht hW => ⟨_, rfl, fe.symm, ht⟩) t_nil d_N_quotient_59
    · refine lv_lload hx hb d_N_quotient_50 (lv_at hl 0 rfl) ?_
      refine lv_goto (tgt := 59) hx hb d_N_quotient_52 (by decide) ?_
      have fe : f_N_quotient p0 p1 = v35 := hj.trans (by unfold f_N_quotient_35v; first | with_reducible exact if_neg e1_55 | exact if_neg e1_55)
      exact W.lret (v := v35) hx hb hr (fun t ht hW => ⟨_, rfl, fe.symm, ht⟩) t_nil d_N_quotient_59
  refine lv_lload_n hx hb d_N_quotient_0 rfl (lv_at hl 1 rfl) ?_
  refine lv_lconst (v := 0) hx hb d_N_quotient_1 (by decide) ?_
  refine wl_ne (tgt := 8) hx hb d_N_quotient_2 d_N_quotient_3 (by decide) (fun e1_8 => ?_) (fun e1_8 => ?_)
  · refine lv_lload_n hx hb d_N_quotient_8 rfl (lv_at hl 1 rfl) ?_
    refine lv_lconst (v := 0) hx hb d_N_quotient_9 (by decide) ?_
    refine wl_ge (tgt := 28) hx hb d_N_quotient_10 d_N_quotient_11 (by decide) (fun e2_28 => ?_) (fun e2_28 => ?_)
    · refine lv_lload_n hx hb d_N_quotient_28 rfl (lv_at hl 0 rfl) ?_
      refine lv_iconst (v := 1) hx hb d_N_quotient_29 (by decide) ?_
      refine lv_lushr (v := (p0.toUInt64 >>> ((1 : Int32).toInt64.toUInt64 &&& Int64.toUInt64 63)).toInt64) hx hb d_N_quotient_30 rfl ?_
      refine lv_lload_n hx hb d_N_quotient_31 rfl (lv_at hl 1 rfl) ?_
      refine lv_ldiv hx hb d_N_quotient_32 e1_8 ?_
      refine lv_iconst (v := 1) hx hb d_N_quotient_33 (by decide) ?_
      refine lv_lshl (v := (((p0.toUInt64 >>> ((1 : Int32).toInt64.toUInt64 &&& Int64.toUInt64 63)).toInt64) / p1) <<< ((1 : Int32).toInt64 &&& 63)) hx hb d_N_quotient_34 rfl ?_
      refine lv_topl (fun v35 ev35 => ?_)
      refine lv_lstore (lv' := [(4, .long (v35)), (0, .long (p0)), (2, .long (p1))]) hx hb d_N_quotient_35 hl (by decide) rfl (fun ls hl => ?_)
      exact K35v v35 (Eq.trans (by unfold f_N_quotient; first | with_reducible exact (if_neg e1_8).trans (if_neg e2_28) | exact (if_neg e1_8).trans (if_neg e2_28)) (congrArg (fun v35 => f_N_quotient_35v p0 p1 v35) ev35.symm)) ls (lv_sub hl [0, 1, 2] rfl)
    · refine lv_lload_n hx hb d_N_quotient_14 rfl (lv_at hl 0 rfl) ?_
      refine lv_lload_n hx hb d_N_quotient_15 rfl (lv_at hl 1 rfl) ?_
      refine rc_i (W.runS (As := [.long (p0), .long (p1)]) (rest := []) ⟨hx, hb, hml, hown, hts⟩ (c_N_below l p0 p1) (va_cwS 2 hts (gS gw125 gw105 gw2 gw106) rfl rfl rfl (by decide +kernel) ⟨(Nat.le_of_ble_eq_true rfl), (Nat.le_of_ble_eq_true rfl)⟩) ⟨bl0, fun U hU hW => ⟨rfl, trivial⟩⟩ rfl rfl hl.1 rfl (lv_room (Nat.le_of_ble_eq_true rfl)) d_N_quotient_16 ⟨Nat.zero_le _, Nat.zero_le _⟩) ?_
      refine lv_if_eq (tgt := 26) hx hb d_N_quotient_19 (by decide) (fun e3_26 => ?_) (fun e3_26 => ?_)
      · refine lv_lconst (v := 1) hx hb d_N_quotient_26 (by decide) ?_
        have fe : f_N_quotient p0 p1 = 1 := by unfold f_N_quotient; first | with_reducible exact (if_neg e1_8).trans ((if_pos e2_28).trans (if_pos e3_26)) | exact (if_neg e1_8).trans ((if_pos e2_28).trans (if_pos e3_26))
        exact W.lret (v := 1) hx hb hr (fun t ht hW => ⟨_, rfl, fe.symm, ht⟩) t_nil d_N_quotient_27
      · refine lv_lconst (v := 0) hx hb d_N_quotient_22 (by decide) ?_
        refine lv_goto (tgt := 27) hx hb d_N_quotient_23 (by decide) ?_
        have fe : f_N_quotient p0 p1 = 0 := by unfold f_N_quotient; first | with_reducible exact (if_neg e1_8).trans ((if_pos e2_28).trans (if_neg e3_26)) | exact (if_neg e1_8).trans ((if_pos e2_28).trans (if_neg e3_26))
        exact W.lret (v := 0) hx hb hr (fun t ht hW => ⟨_, rfl, fe.symm, ht⟩) t_nil d_N_quotient_27
  · refine lv_lconst (v := 0) hx hb d_N_quotient_6 (by decide) ?_
    have fe : f_N_quotient p0 p1 = 0 := by unfold f_N_quotient; first | with_reducible exact if_pos e1_8 | exact if_pos e1_8
    exact W.lret (v := 0) hx hb hr (fun t ht hW => ⟨_, rfl, fe.symm, ht⟩) t_nil d_N_quotient_7
-- ValueSieve$Numbers.sumFits
theorem d_N_sumFits_0 : decode b_N_sumFits 0 = .ok (.lload_n 0, 1) := by decide +kernel
theorem d_N_sumFits_1 : decode b_N_sumFits 1 = .ok (.lload_n 2, 1) := by decide +kernel
theorem d_N_sumFits_2 : decode b_N_sumFits 2 = .ok (.ladd, 1) := by decide +kernel
theorem d_N_sumFits_3 : decode b_N_sumFits 3 = .ok (.lstore 4, 2) := by decide +kernel
theorem d_N_sumFits_5 : decode b_N_sumFits 5 = .ok (.lload_n 0, 1) := by decide +kernel
theorem d_N_sumFits_6 : decode b_N_sumFits 6 = .ok (.lload 4, 2) := by decide +kernel
theorem d_N_sumFits_8 : decode b_N_sumFits 8 = .ok (.lxor, 1) := by decide +kernel
theorem d_N_sumFits_9 : decode b_N_sumFits 9 = .ok (.lload_n 2, 1) := by decide +kernel
theorem d_N_sumFits_10 : decode b_N_sumFits 10 = .ok (.lload 4, 2) := by decide +kernel
theorem d_N_sumFits_12 : decode b_N_sumFits 12 = .ok (.lxor, 1) := by decide +kernel
theorem d_N_sumFits_13 : decode b_N_sumFits 13 = .ok (.land, 1) := by decide +kernel
theorem d_N_sumFits_14 : decode b_N_sumFits 14 = .ok (.lconst 0, 1) := by decide +kernel
theorem d_N_sumFits_15 : decode b_N_sumFits 15 = .ok (.lcmp, 1) := by decide +kernel
theorem d_N_sumFits_16 : decode b_N_sumFits 16 = .ok (.ifCond .lt 7, 3) := by decide +kernel
theorem d_N_sumFits_19 : decode b_N_sumFits 19 = .ok (.iconst 1, 1) := by decide +kernel
theorem d_N_sumFits_20 : decode b_N_sumFits 20 = .ok (.goto 4, 3) := by decide +kernel
theorem d_N_sumFits_23 : decode b_N_sumFits 23 = .ok (.iconst 0, 1) := by decide +kernel
theorem d_N_sumFits_24 : decode b_N_sumFits 24 = .ok (.ireturn, 1) := by decide +kernel
def f_N_sumFits_3v (p0 : Int64) (p1 : Int64) (v3 : Int64) : Int32 := (if ((p0 ^^^ v3) &&& (p1 ^^^ v3)) < 0 then 0 else 1)
def f_N_sumFits (p0 : Int64) (p1 : Int64) : Int32 := f_N_sumFits_3v p0 p1 (p0 + p1)
set_option maxRecDepth 100000 in
set_option maxHeartbeats 4000000 in
theorem c_N_sumFits (l : Launch) (p0 : Int64) (p1 : Int64) : Met l y_N_sumFits w_N_sumFits ({ frames := 0, cells := 0, slots := 0, locals := 0 } : Room) (va_Pc [.long (p0), .long (p1)] (fun _ => True)) (vp_Si (fun r => r = f_N_sumFits p0 p1)) 0 0 (fun _ => False) := by
  refine Met.ofW (cc := b_N_sumFits) (maxL := 6) (ret := (some .boolean)) (by decide) rfl ?_
  intro p e s m args below meth c s₁ B hml hv
  obtain ⟨rfl, -⟩ := hv
  have hx := B.exec
  have hb := B.bytes
  have hr := B.returns
  have hts := atoms_spec (ws := w_N_sumFits) B.pre
  have hG : ∀ w ∈ gG, w.before _ s = true := fun w h => hts w (List.mem_cons_of_mem _ h)
  have hown : s.vm.findClass R_N = some m.cls := findClass_of_methodNamed B.named
  have hlocks := B.notSynchronized
  have hl := lv_entry ([.long (p0), .long (p1)]) (n := 6) (Nat.le_of_ble_eq_true rfl)
  rw [lg_entry_eq]
  generalize (lg_sl ([.long (p0), .long (p1)]) ++ List.replicate (6 - (lg_sl ([.long (p0), .long (p1)])).length) Slot.unset).toArray = ls at hl ⊢
  have hl : lv_has ls 6 [(0, .long (p0)), (2, .long (p1))] := hl
  have K3v : ∀ (v3 : Int64) (hj : f_N_sumFits p0 p1 = f_N_sumFits_3v p0 p1 v3) (ls : Array Slot) (hl : lv_has ls 6 [(4, .long (v3)), (0, .long (p0)), (2, .long (p1))]), W p l e (headSpec w_N_sumFits ({ frames := 0, cells := 0, slots := 0, locals := 0 } : Room)).room s m ([.long (p0), .long (p1)] : List Value).toArray below meth c s.heap [] 0 0 (MQ below (vp_Si (fun r => r = f_N_sumFits p0 p1)) ([.long (p0), .long (p1)] : List Value).toArray s 0 0 (fun _ => False)) (F0 m 5 ls []) := by
    intro v3 hj ls hl
    refine lv_lload_n hx hb d_N_sumFits_5 rfl (lv_at hl 1 rfl) ?_
    refine lv_lload hx hb d_N_sumFits_6 (lv_at hl 0 rfl) ?_
    refine lv_lxor hx hb d_N_sumFits_8 ?_
    refine lv_lload_n hx hb d_N_sumFits_9 rfl (lv_at hl 2 rfl) ?_
    refine lv_lload hx hb d_N_sumFits_10 (lv_at hl 0 rfl) ?_
    refine lv_lxor hx hb d_N_sumFits_12 ?_
    refine lv_land hx hb d_N_sumFits_13 ?_
    refine lv_lconst (v := 0) hx hb d_N_sumFits_14 (by decide) ?_
    refine wl_lt (tgt := 23) hx hb d_N_sumFits_15 d_N_sumFits_16 (by decide) (fun e1_23 => ?_) (fun e1_23 => ?_)
    · refine lv_iconst (v := 0) hx hb d_N_sumFits_23 (by decide) ?_
      have fe : f_N_sumFits p0 p1 = 0 := hj.trans (by unfold f_N_sumFits_3v; first | with_reducible exact if_pos e1_23 | exact if_pos e1_23)
      have hn : narrow .boolean (.int (0)) = .int (0) := rfl
      exact W.zret (v := 0) hx hb hr hn (fun t ht hW => ⟨_, rfl, fe.symm, ht⟩) t_nil d_N_sumFits_24
    · refine lv_iconst (v := 1) hx hb d_N_sumFits_19 (by decide) ?_
      refine lv_goto (tgt := 24) hx hb d_N_sumFits_20 (by decide) ?_
      have fe : f_N_sumFits p0 p1 = 1 := hj.trans (by unfold f_N_sumFits_3v; first | with_reducible exact if_neg e1_23 | exact if_neg e1_23)
      have hn : narrow .boolean (.int (1)) = .int (1) := rfl
      exact W.zret (v := 1) hx hb hr hn (fun t ht hW => ⟨_, rfl, fe.symm, ht⟩) t_nil d_N_sumFits_24
  refine lv_lload_n hx hb d_N_sumFits_0 rfl (lv_at hl 0 rfl) ?_
  refine lv_lload_n hx hb d_N_sumFits_1 rfl (lv_at hl 1 rfl) ?_
  refine lv_ladd hx hb d_N_sumFits_2 ?_
  refine lv_topl (fun v3 ev3 => ?_)
  refine lv_lstore (lv' := [(4, .long (v3)), (0, .long (p0)), (2, .long (p1))]) hx hb d_N_sumFits_3 hl (by decide) rfl (fun ls hl => ?_)
  exact K3v v3 (Eq.trans (rfl) (congrArg (fun v3 => f_N_sumFits_3v p0 p1 v3) ev3.symm)) ls (lv_sub hl [0, 1, 2] rfl)
-- ValueSieve$Numbers.differenceFits
theorem d_N_differenceFits_0 : decode b_N_differenceFits 0 = .ok (.lload_n 0, 1) := by decide +kernel
theorem d_N_differenceFits_1 : decode b_N_differenceFits 1 = .ok (.lload_n 2, 1) := by decide +kernel
theorem d_N_differenceFits_2 : decode b_N_differenceFits 2 = .ok (.lsub, 1) := by decide +kernel
theorem d_N_differenceFits_3 : decode b_N_differenceFits 3 = .ok (.lstore 4, 2) := by decide +kernel
theorem d_N_differenceFits_5 : decode b_N_differenceFits 5 = .ok (.lload_n 0, 1) := by decide +kernel
theorem d_N_differenceFits_6 : decode b_N_differenceFits 6 = .ok (.lload_n 2, 1) := by decide +kernel
theorem d_N_differenceFits_7 : decode b_N_differenceFits 7 = .ok (.lxor, 1) := by decide +kernel
theorem d_N_differenceFits_8 : decode b_N_differenceFits 8 = .ok (.lload_n 0, 1) := by decide +kernel
theorem d_N_differenceFits_9 : decode b_N_differenceFits 9 = .ok (.lload 4, 2) := by decide +kernel
theorem d_N_differenceFits_11 : decode b_N_differenceFits 11 = .ok (.lxor, 1) := by decide +kernel
theorem d_N_differenceFits_12 : decode b_N_differenceFits 12 = .ok (.land, 1) := by decide +kernel
theorem d_N_differenceFits_13 : decode b_N_differenceFits 13 = .ok (.lconst 0, 1) := by decide +kernel
theorem d_N_differenceFits_14 : decode b_N_differenceFits 14 = .ok (.lcmp, 1) := by decide +kernel
theorem d_N_differenceFits_15 : decode b_N_differenceFits 15 = .ok (.ifCond .lt 7, 3) := by decide +kernel
theorem d_N_differenceFits_18 : decode b_N_differenceFits 18 = .ok (.iconst 1, 1) := by decide +kernel
theorem d_N_differenceFits_19 : decode b_N_differenceFits 19 = .ok (.goto 4, 3) := by decide +kernel
theorem d_N_differenceFits_22 : decode b_N_differenceFits 22 = .ok (.iconst 0, 1) := by decide +kernel
theorem d_N_differenceFits_23 : decode b_N_differenceFits 23 = .ok (.ireturn, 1) := by decide +kernel
def f_N_differenceFits_3v (p0 : Int64) (p1 : Int64) (v3 : Int64) : Int32 := (if ((p0 ^^^ p1) &&& (p0 ^^^ v3)) < 0 then 0 else 1)
def f_N_differenceFits (p0 : Int64) (p1 : Int64) : Int32 := f_N_differenceFits_3v p0 p1 (p0 - p1)
set_option maxRecDepth 100000 in
set_option maxHeartbeats 4000000 in
theorem c_N_differenceFits (l : Launch) (p0 : Int64) (p1 : Int64) : Met l y_N_differenceFits w_N_differenceFits ({ frames := 0, cells := 0, slots := 0, locals := 0 } : Room) (va_Pc [.long (p0), .long (p1)] (fun _ => True)) (vp_Si (fun r => r = f_N_differenceFits p0 p1)) 0 0 (fun _ => False) := by
  refine Met.ofW (cc := b_N_differenceFits) (maxL := 6) (ret := (some .boolean)) (by decide) rfl ?_
  intro p e s m args below meth c s₁ B hml hv
  obtain ⟨rfl, -⟩ := hv
  have hx := B.exec
  have hb := B.bytes
  have hr := B.returns
  have hts := atoms_spec (ws := w_N_differenceFits) B.pre
  have hG : ∀ w ∈ gG, w.before _ s = true := fun w h => hts w (List.mem_cons_of_mem _ h)
  have hown : s.vm.findClass R_N = some m.cls := findClass_of_methodNamed B.named
  have hlocks := B.notSynchronized
  have hl := lv_entry ([.long (p0), .long (p1)]) (n := 6) (Nat.le_of_ble_eq_true rfl)
  rw [lg_entry_eq]
  generalize (lg_sl ([.long (p0), .long (p1)]) ++ List.replicate (6 - (lg_sl ([.long (p0), .long (p1)])).length) Slot.unset).toArray = ls at hl ⊢
  have hl : lv_has ls 6 [(0, .long (p0)), (2, .long (p1))] := hl
  have K3v : ∀ (v3 : Int64) (hj : f_N_differenceFits p0 p1 = f_N_differenceFits_3v p0 p1 v3) (ls : Array Slot) (hl : lv_has ls 6 [(4, .long (v3)), (0, .long (p0)), (2, .long (p1))]), W p l e (headSpec w_N_differenceFits ({ frames := 0, cells := 0, slots := 0, locals := 0 } : Room)).room s m ([.long (p0), .long (p1)] : List Value).toArray below meth c s.heap [] 0 0 (MQ below (vp_Si (fun r => r = f_N_differenceFits p0 p1)) ([.long (p0), .long (p1)] : List Value).toArray s 0 0 (fun _ => False)) (F0 m 5 ls []) := by
    intro v3 hj ls hl
    refine lv_lload_n hx hb d_N_differenceFits_5 rfl (lv_at hl 1 rfl) ?_
    refine lv_lload_n hx hb d_N_differenceFits_6 rfl (lv_at hl 2 rfl) ?_
    refine lv_lxor hx hb d_N_differenceFits_7 ?_
    refine lv_lload_n hx hb d_N_differenceFits_8 rfl (lv_at hl 1 rfl) ?_
    refine lv_lload hx hb d_N_differenceFits_9 (lv_at hl 0 rfl) ?_
    refine lv_lxor hx hb d_N_differenceFits_11 ?_
    refine lv_land hx hb d_N_differenceFits_12 ?_
    refine lv_lconst (v := 0) hx hb d_N_differenceFits_13 (by decide) ?_
    refine wl_lt (tgt := 22) hx hb d_N_differenceFits_14 d_N_differenceFits_15 (by decide) (fun e1_22 => ?_) (fun e1_22 => ?_)
    · refine lv_iconst (v := 0) hx hb d_N_differenceFits_22 (by decide) ?_
      have fe : f_N_differenceFits p0 p1 = 0 := hj.trans (by unfold f_N_differenceFits_3v; first | with_reducible exact if_pos e1_22 | exact if_pos e1_22)
      have hn : narrow .boolean (.int (0)) = .int (0) := rfl
      exact W.zret (v := 0) hx hb hr hn (fun t ht hW => ⟨_, rfl, fe.symm, ht⟩) t_nil d_N_differenceFits_23
    · refine lv_iconst (v := 1) hx hb d_N_differenceFits_18 (by decide) ?_
      refine lv_goto (tgt := 23) hx hb d_N_differenceFits_19 (by decide) ?_
      have fe : f_N_differenceFits p0 p1 = 1 := hj.trans (by unfold f_N_differenceFits_3v; first | with_reducible exact if_neg e1_22 | exact if_neg e1_22)
      have hn : narrow .boolean (.int (1)) = .int (1) := rfl
      exact W.zret (v := 1) hx hb hr hn (fun t ht hW => ⟨_, rfl, fe.symm, ht⟩) t_nil d_N_differenceFits_23
  refine lv_lload_n hx hb d_N_differenceFits_0 rfl (lv_at hl 0 rfl) ?_
  refine lv_lload_n hx hb d_N_differenceFits_1 rfl (lv_at hl 1 rfl) ?_
  refine lv_lsub hx hb d_N_differenceFits_2 ?_
  refine lv_topl (fun v3 ev3 => ?_)
  refine lv_lstore (lv' := [(4, .long (v3)), (0, .long (p0)), (2, .long (p1))]) hx hb d_N_differenceFits_3 hl (by decide) rfl (fun ls hl => ?_)
  exact K3v v3 (Eq.trans (rfl) (congrArg (fun v3 => f_N_differenceFits_3v p0 p1 v3) ev3.symm)) ls (lv_sub hl [0, 1, 2] rfl)
-- ValueSieve$Numbers.productFits
theorem d_N_productFits_0 : decode b_N_productFits 0 = .ok (.lload_n 0, 1) := by decide +kernel
theorem d_N_productFits_1 : decode b_N_productFits 1 = .ok (.lconst 0, 1) := by decide +kernel
theorem d_N_productFits_2 : decode b_N_productFits 2 = .ok (.lcmp, 1) := by decide +kernel
theorem d_N_productFits_3 : decode b_N_productFits 3 = .ok (.ifCond .ne 5, 3) := by decide +kernel
theorem d_N_productFits_6 : decode b_N_productFits 6 = .ok (.iconst 1, 1) := by decide +kernel
theorem d_N_productFits_7 : decode b_N_productFits 7 = .ok (.ireturn, 1) := by decide +kernel
theorem d_N_productFits_8 : decode b_N_productFits 8 = .ok (.lload_n 0, 1) := by decide +kernel
theorem d_N_productFits_9 : decode b_N_productFits 9 = .ok (.ldc2_w 17, 3) := by decide +kernel
theorem d_N_productFits_12 : decode b_N_productFits 12 = .ok (.lcmp, 1) := by decide +kernel
theorem d_N_productFits_13 : decode b_N_productFits 13 = .ok (.ifCond .ne 17, 3) := by decide +kernel
theorem d_N_productFits_16 : decode b_N_productFits 16 = .ok (.lload_n 2, 1) := by decide +kernel
theorem d_N_productFits_17 : decode b_N_productFits 17 = .ok (.ldc2_w 9, 3) := by decide +kernel
theorem d_N_productFits_20 : decode b_N_productFits 20 = .ok (.lcmp, 1) := by decide +kernel
theorem d_N_productFits_21 : decode b_N_productFits 21 = .ok (.ifCond .eq 7, 3) := by decide +kernel
theorem d_N_productFits_24 : decode b_N_productFits 24 = .ok (.iconst 1, 1) := by decide +kernel
theorem d_N_productFits_25 : decode b_N_productFits 25 = .ok (.goto 4, 3) := by decide +kernel
theorem d_N_productFits_28 : decode b_N_productFits 28 = .ok (.iconst 0, 1) := by decide +kernel
theorem d_N_productFits_29 : decode b_N_productFits 29 = .ok (.ireturn, 1) := by decide +kernel
theorem d_N_productFits_30 : decode b_N_productFits 30 = .ok (.lload_n 0, 1) := by decide +kernel
theorem d_N_productFits_31 : decode b_N_productFits 31 = .ok (.lload_n 2, 1) := by decide +kernel
theorem d_N_productFits_32 : decode b_N_productFits 32 = .ok (.lmul, 1) := by decide +kernel
theorem d_N_productFits_33 : decode b_N_productFits 33 = .ok (.lload_n 0, 1) := by decide +kernel
theorem d_N_productFits_34 : decode b_N_productFits 34 = .ok (.ldiv, 1) := by decide +kernel
theorem d_N_productFits_35 : decode b_N_productFits 35 = .ok (.lload_n 2, 1) := by decide +kernel
theorem d_N_productFits_36 : decode b_N_productFits 36 = .ok (.lcmp, 1) := by decide +kernel
theorem d_N_productFits_37 : decode b_N_productFits 37 = .ok (.ifCond .ne 7, 3) := by decide +kernel
theorem d_N_productFits_40 : decode b_N_productFits 40 = .ok (.iconst 1, 1) := by decide +kernel
theorem d_N_productFits_41 : decode b_N_productFits 41 = .ok (.goto 4, 3) := by decide +kernel
theorem d_N_productFits_44 : decode b_N_productFits 44 = .ok (.iconst 0, 1) := by decide +kernel
theorem d_N_productFits_45 : decode b_N_productFits 45 = .ok (.ireturn, 1) := by decide +kernel
def f_N_productFits (p0 : Int64) (p1 : Int64) : Int32 := (if p0 = 0 then 1 else (if p0 = (-1) then (if p1 = (-9223372036854775808) then 0 else 1) else (if ((p0 * p1) / p0) = p1 then 1 else 0)))
set_option maxRecDepth 100000 in
set_option maxHeartbeats 4000000 in
theorem c_N_productFits (l : Launch) (p0 : Int64) (p1 : Int64) : Met l y_N_productFits w_N_productFits ({ frames := 0, cells := 0, slots := 0, locals := 0 } : Room) (va_Pc [.long (p0), .long (p1)] (fun _ => True)) (vp_Si (fun r => r = f_N_productFits p0 p1)) 0 0 (fun _ => False) := by
  refine Met.ofW (cc := b_N_productFits) (maxL := 4) (ret := (some .boolean)) (by decide) rfl ?_
  intro p e s m args below meth c s₁ B hml hv
  obtain ⟨rfl, -⟩ := hv
  have hx := B.exec
  have hb := B.bytes
  have hr := B.returns
  have hts := atoms_spec (ws := w_N_productFits) B.pre
  have hG : ∀ w ∈ gG, w.before _ s = true := fun w h => hts w (List.mem_cons_of_mem _ h)
  have hown : s.vm.findClass R_N = some m.cls := findClass_of_methodNamed B.named
  have hlocks := B.notSynchronized
  have hl := lv_entry ([.long (p0), .long (p1)]) (n := 4) (Nat.le_of_ble_eq_true rfl)
  rw [lg_entry_eq]
  generalize (lg_sl ([.long (p0), .long (p1)]) ++ List.replicate (4 - (lg_sl ([.long (p0), .long (p1)])).length) Slot.unset).toArray = ls at hl ⊢
  have hl : lv_has ls 4 [(0, .long (p0)), (2, .long (p1))] := hl
  refine lv_lload_n hx hb d_N_productFits_0 rfl (lv_at hl 0 rfl) ?_
  refine lv_lconst (v := 0) hx hb d_N_productFits_1 (by decide) ?_
  refine wl_ne (tgt := 8) hx hb d_N_productFits_2 d_N_productFits_3 (by decide) (fun e1_8 => ?_) (fun e1_8 => ?_)
  · refine lv_lload_n hx hb d_N_productFits_8 rfl (lv_at hl 0 rfl) ?_
    refine lv_ldc2 (v := -1) hx hb hown (hG (.constantLong R_N 17 (-1)) gw129) d_N_productFits_9 ?_
    refine wl_ne (tgt := 30) hx hb d_N_productFits_12 d_N_productFits_13 (by decide) (fun e2_30 => ?_) (fun e2_30 => ?_)
    · refine lv_lload_n hx hb d_N_productFits_30 rfl (lv_at hl 0 rfl) ?_
      refine lv_lload_n hx hb d_N_productFits_31 rfl (lv_at hl 1 rfl) ?_
      refine lv_lmul hx hb d_N_productFits_32 ?_
      refine lv_lload_n hx hb d_N_productFits_33 rfl (lv_at hl 0 rfl) ?_
      refine lv_ldiv hx hb d_N_productFits_34 e1_8 ?_
      refine lv_lload_n hx hb d_N_productFits_35 rfl (lv_at hl 1 rfl) ?_
      refine wl_ne (tgt := 44) hx hb d_N_productFits_36 d_N_productFits_37 (by decide) (fun e3_44 => ?_) (fun e3_44 => ?_)
      · refine lv_iconst (v := 0) hx hb d_N_productFits_44 (by decide) ?_
        have fe : f_N_productFits p0 p1 = 0 := by unfold f_N_productFits; first | with_reducible exact (if_neg e1_8).trans ((if_neg e2_30).trans (if_neg e3_44)) | exact (if_neg e1_8).trans ((if_neg e2_30).trans (if_neg e3_44))
        have hn : narrow .boolean (.int (0)) = .int (0) := rfl
        exact W.zret (v := 0) hx hb hr hn (fun t ht hW => ⟨_, rfl, fe.symm, ht⟩) t_nil d_N_productFits_45
      · refine lv_iconst (v := 1) hx hb d_N_productFits_40 (by decide) ?_
        refine lv_goto (tgt := 45) hx hb d_N_productFits_41 (by decide) ?_
        have fe : f_N_productFits p0 p1 = 1 := by unfold f_N_productFits; first | with_reducible exact (if_neg e1_8).trans ((if_neg e2_30).trans (if_pos e3_44)) | exact (if_neg e1_8).trans ((if_neg e2_30).trans (if_pos e3_44))
        have hn : narrow .boolean (.int (1)) = .int (1) := rfl
        exact W.zret (v := 1) hx hb hr hn (fun t ht hW => ⟨_, rfl, fe.symm, ht⟩) t_nil d_N_productFits_45
    · refine lv_lload_n hx hb d_N_productFits_16 rfl (lv_at hl 1 rfl) ?_
      refine lv_ldc2 (v := -9223372036854775808) hx hb hown (hG (.constantLong R_N 9 (-9223372036854775808)) gw107) d_N_productFits_17 ?_
      refine wl_eq (tgt := 28) hx hb d_N_productFits_20 d_N_productFits_21 (by decide) (fun e4_28 => ?_) (fun e4_28 => ?_)
      · refine lv_iconst (v := 0) hx hb d_N_productFits_28 (by decide) ?_
        have fe : f_N_productFits p0 p1 = 0 := by unfold f_N_productFits; first | with_reducible exact (if_neg e1_8).trans ((if_pos e2_30).trans (if_pos e4_28)) | exact (if_neg e1_8).trans ((if_pos e2_30).trans (if_pos e4_28))
        have hn : narrow .boolean (.int (0)) = .int (0) := rfl
        exact W.zret (v := 0) hx hb hr hn (fun t ht hW => ⟨_, rfl, fe.symm, ht⟩) t_nil d_N_productFits_29
      · refine lv_iconst (v := 1) hx hb d_N_productFits_24 (by decide) ?_
        refine lv_goto (tgt := 29) hx hb d_N_productFits_25 (by decide) ?_
        have fe : f_N_productFits p0 p1 = 1 := by unfold f_N_productFits; first | with_reducible exact (if_neg e1_8).trans ((if_pos e2_30).trans (if_neg e4_28)) | exact (if_neg e1_8).trans ((if_pos e2_30).trans (if_neg e4_28))
        have hn : narrow .boolean (.int (1)) = .int (1) := rfl
        exact W.zret (v := 1) hx hb hr hn (fun t ht hW => ⟨_, rfl, fe.symm, ht⟩) t_nil d_N_productFits_29
  · refine lv_iconst (v := 1) hx hb d_N_productFits_6 (by decide) ?_
    have fe : f_N_productFits p0 p1 = 1 := by unfold f_N_productFits; first | with_reducible exact if_pos e1_8 | exact if_pos e1_8
    have hn : narrow .boolean (.int (1)) = .int (1) := rfl
    exact W.zret (v := 1) hx hb hr hn (fun t ht hW => ⟨_, rfl, fe.symm, ht⟩) t_nil d_N_productFits_7
-- ValueSieve$Numbers.unsignedProductFits
theorem d_N_unsignedProductFits_0 : decode b_N_unsignedProductFits 0 = .ok (.lload_n 0, 1) := by decide +kernel
theorem d_N_unsignedProductFits_1 : decode b_N_unsignedProductFits 1 = .ok (.lconst 0, 1) := by decide +kernel
theorem d_N_unsignedProductFits_2 : decode b_N_unsignedProductFits 2 = .ok (.lcmp, 1) := by decide +kernel
theorem d_N_unsignedProductFits_3 : decode b_N_unsignedProductFits 3 = .ok (.ifCond .eq 17, 3) := by decide +kernel
theorem d_N_unsignedProductFits_6 : decode b_N_unsignedProductFits 6 = .ok (.ldc2_w 17, 3) := by decide +kernel
theorem d_N_unsignedProductFits_9 : decode b_N_unsignedProductFits 9 = .ok (.lload_n 0, 1) := by decide +kernel
theorem d_N_unsignedProductFits_10 : decode b_N_unsignedProductFits 10 = .ok (.invokestatic 19, 3) := by decide +kernel
theorem d_N_unsignedProductFits_13 : decode b_N_unsignedProductFits 13 = .ok (.lload_n 2, 1) := by decide +kernel
theorem d_N_unsignedProductFits_14 : decode b_N_unsignedProductFits 14 = .ok (.invokestatic 11, 3) := by decide +kernel
theorem d_N_unsignedProductFits_17 : decode b_N_unsignedProductFits 17 = .ok (.ifCond .ne 7, 3) := by decide +kernel
theorem d_N_unsignedProductFits_20 : decode b_N_unsignedProductFits 20 = .ok (.iconst 1, 1) := by decide +kernel
theorem d_N_unsignedProductFits_21 : decode b_N_unsignedProductFits 21 = .ok (.goto 4, 3) := by decide +kernel
theorem d_N_unsignedProductFits_24 : decode b_N_unsignedProductFits 24 = .ok (.iconst 0, 1) := by decide +kernel
theorem d_N_unsignedProductFits_25 : decode b_N_unsignedProductFits 25 = .ok (.ireturn, 1) := by decide +kernel
def f_N_unsignedProductFits_20 (p0 : Int64) (p1 : Int64) : Int32 := 1
def f_N_unsignedProductFits (p0 : Int64) (p1 : Int64) : Int32 := (if p0 = 0 then f_N_unsignedProductFits_20 p0 p1 else (if (f_N_below (f_N_quotient (-1) p0) p1) = 0 then f_N_unsignedProductFits_20 p0 p1 else 0))
set_option maxRecDepth 100000 in
set_option maxHeartbeats 4000000 in
theorem c_N_unsignedProductFits (l : Launch) (p0 : Int64) (p1 : Int64) : Met l y_N_unsignedProductFits w_N_unsignedProductFits ({ frames := 2, cells := 0, slots := 0, locals := 48 } : Room) (va_Pc [.long (p0), .long (p1)] (fun _ => True)) (vp_Si (fun r => r = f_N_unsignedProductFits p0 p1)) 0 0 (fun _ => False) := by
  refine Met.ofW (cc := b_N_unsignedProductFits) (maxL := 4) (ret := (some .boolean)) (by decide) rfl ?_
  intro p e s m args below meth c s₁ B hml hv
  obtain ⟨rfl, -⟩ := hv
  have hx := B.exec
  have hb := B.bytes
  have hr := B.returns
  have hts := atoms_spec (ws := w_N_unsignedProductFits) B.pre
  have hG : ∀ w ∈ gG, w.before _ s = true := fun w h => hts w (List.mem_cons_of_mem _ h)
  have hown : s.vm.findClass R_N = some m.cls := findClass_of_methodNamed B.named
  have hlocks := B.notSynchronized
  have hl := lv_entry ([.long (p0), .long (p1)]) (n := 4) (Nat.le_of_ble_eq_true rfl)
  rw [lg_entry_eq]
  generalize (lg_sl ([.long (p0), .long (p1)]) ++ List.replicate (4 - (lg_sl ([.long (p0), .long (p1)])).length) Slot.unset).toArray = ls at hl ⊢
  have hl : lv_has ls 4 [(0, .long (p0)), (2, .long (p1))] := hl
  have K20 : ∀ (hj : f_N_unsignedProductFits p0 p1 = f_N_unsignedProductFits_20 p0 p1) (ls : Array Slot) (hl : lv_has ls 4 []), W p l e (headSpec w_N_unsignedProductFits ({ frames := 2, cells := 0, slots := 0, locals := 48 } : Room)).room s m ([.long (p0), .long (p1)] : List Value).toArray below meth c s.heap [] 0 0 (MQ below (vp_Si (fun r => r = f_N_unsignedProductFits p0 p1)) ([.long (p0), .long (p1)] : List Value).toArray s 0 0 (fun _ => False)) (F0 m 20 ls []) := by
    intro hj ls hl
    refine lv_iconst (v := 1) hx hb d_N_unsignedProductFits_20 (by decide) ?_
    refine lv_goto (tgt := 25) hx hb d_N_unsignedProductFits_21 (by decide) ?_
    have fe : f_N_unsignedProductFits p0 p1 = 1 := hj.trans rfl
    have hn : narrow .boolean (.int (1)) = .int (1) := rfl
    exact W.zret (v := 1) hx hb hr hn (fun t ht hW => ⟨_, rfl, fe.symm, ht⟩) t_nil d_N_unsignedProductFits_25
  refine lv_lload_n hx hb d_N_unsignedProductFits_0 rfl (lv_at hl 0 rfl) ?_
  refine lv_lconst (v := 0) hx hb d_N_unsignedProductFits_1 (by decide) ?_
  refine wl_eq (tgt := 20) hx hb d_N_unsignedProductFits_2 d_N_unsignedProductFits_3 (by decide) (fun e1_20 => ?_) (fun e1_20 => ?_)
  · exact K20 (by unfold f_N_unsignedProductFits; first | with_reducible exact if_pos e1_20 | exact if_pos e1_20) ls (lv_sub hl [] rfl)
  · refine lv_ldc2 (v := -1) hx hb hown (hG (.constantLong R_N 17 (-1)) gw129) d_N_unsignedProductFits_6 ?_
    refine lv_lload_n hx hb d_N_unsignedProductFits_9 rfl (lv_at hl 0 rfl) ?_
    refine rc_l (W.runS (As := [.long (-1), .long (p0)]) (rest := []) ⟨hx, hb, hml, hown, hts⟩ (c_N_quotient l (-1) p0) (va_cwS 2 hts (gS gw230 gw231 gw2 gw232) rfl rfl rfl (by decide +kernel) ⟨(Nat.le_of_ble_eq_true rfl), (Nat.le_of_ble_eq_true rfl)⟩) ⟨bl0, fun U hU hW => ⟨rfl, trivial⟩⟩ rfl rfl hl.1 rfl (lv_room (Nat.le_of_ble_eq_true rfl)) d_N_unsignedProductFits_10 ⟨Nat.zero_le _, Nat.zero_le _⟩) ?_
    refine lv_lload_n hx hb d_N_unsignedProductFits_13 rfl (lv_at hl 1 rfl) ?_
    refine rc_i (W.runS (As := [.long (f_N_quotient (-1) p0), .long (p1)]) (rest := []) ⟨hx, hb, hml, hown, hts⟩ (c_N_below l (f_N_quotient (-1) p0) p1) (va_cwS 2 hts (gS gw125 gw105 gw2 gw106) rfl rfl rfl (by decide +kernel) ⟨(Nat.le_of_ble_eq_true rfl), (Nat.le_of_ble_eq_true rfl)⟩) ⟨bl0, fun U hU hW => ⟨rfl, trivial⟩⟩ rfl rfl hl.1 rfl (lv_room (Nat.le_of_ble_eq_true rfl)) d_N_unsignedProductFits_14 ⟨Nat.zero_le _, Nat.zero_le _⟩) ?_
    refine lv_if_ne (tgt := 24) hx hb d_N_unsignedProductFits_17 (by decide) (fun e2_24 => ?_) (fun e2_24 => ?_)
    · refine lv_iconst (v := 0) hx hb d_N_unsignedProductFits_24 (by decide) ?_
      have fe : f_N_unsignedProductFits p0 p1 = 0 := by unfold f_N_unsignedProductFits; first | with_reducible exact (if_neg e1_20).trans (if_neg e2_24) | exact (if_neg e1_20).trans (if_neg e2_24)
      have hn : narrow .boolean (.int (0)) = .int (0) := rfl
      exact W.zret (v := 0) hx hb hr hn (fun t ht hW => ⟨_, rfl, fe.symm, ht⟩) t_nil d_N_unsignedProductFits_25
    · exact K20 (by unfold f_N_unsignedProductFits; first | with_reducible exact (if_neg e1_20).trans (if_pos e2_24) | exact (if_neg e1_20).trans (if_pos e2_24)) ls (lv_sub hl [] rfl)
-- ValueSieve$Numbers.lowest
theorem d_N_lowest_0 : decode b_N_lowest 0 = .ok (.iload_n 0, 1) := by decide +kernel
theorem d_N_lowest_1 : decode b_N_lowest 1 = .ok (.bipush 64, 2) := by decide +kernel
theorem d_N_lowest_3 : decode b_N_lowest 3 = .ok (.if_icmp .lt 9, 3) := by decide +kernel
theorem d_N_lowest_6 : decode b_N_lowest 6 = .ok (.ldc2_w 17, 3) := by decide +kernel
theorem d_N_lowest_9 : decode b_N_lowest 9 = .ok (.goto 8, 3) := by decide +kernel
theorem d_N_lowest_12 : decode b_N_lowest 12 = .ok (.lconst 1, 1) := by decide +kernel
theorem d_N_lowest_13 : decode b_N_lowest 13 = .ok (.iload_n 0, 1) := by decide +kernel
theorem d_N_lowest_14 : decode b_N_lowest 14 = .ok (.lshl, 1) := by decide +kernel
theorem d_N_lowest_15 : decode b_N_lowest 15 = .ok (.lconst 1, 1) := by decide +kernel
theorem d_N_lowest_16 : decode b_N_lowest 16 = .ok (.lsub, 1) := by decide +kernel
theorem d_N_lowest_17 : decode b_N_lowest 17 = .ok (.lreturn, 1) := by decide +kernel
def f_N_lowest (p0 : Int32) : Int64 := (if p0 < 64 then (((1 : Int64) <<< (p0.toInt64 &&& 63)) - (1 : Int64)) else (-1))
set_option maxRecDepth 100000 in
set_option maxHeartbeats 4000000 in
theorem c_N_lowest (l : Launch) (p0 : Int32) : Met l y_N_lowest w_N_lowest ({ frames := 0, cells := 0, slots := 0, locals := 0 } : Room) (va_Pc [.int (p0)] (fun _ => True)) (vp_Sl (fun r => r = f_N_lowest p0)) 0 0 (fun _ => False) := by
  refine Met.ofW (cc := b_N_lowest) (maxL := 1) (ret := (some .long)) (by decide) rfl ?_
  intro p e s m args below meth c s₁ B hml hv
  obtain ⟨rfl, -⟩ := hv
  have hx := B.exec
  have hb := B.bytes
  have hr := B.returns
  have hts := atoms_spec (ws := w_N_lowest) B.pre
  have hG : ∀ w ∈ gG, w.before _ s = true := fun w h => hts w (List.mem_cons_of_mem _ h)
  have hown : s.vm.findClass R_N = some m.cls := findClass_of_methodNamed B.named
  have hlocks := B.notSynchronized
  have hl := lv_entry ([.int (p0)]) (n := 1) (Nat.le_of_ble_eq_true rfl)
  rw [lg_entry_eq]
  generalize (lg_sl ([.int (p0)]) ++ List.replicate (1 - (lg_sl ([.int (p0)])).length) Slot.unset).toArray = ls at hl ⊢
  have hl : lv_has ls 1 [(0, .int (p0))] := hl
  refine lv_iload_n hx hb d_N_lowest_0 rfl (lv_at hl 0 rfl) ?_
  refine lv_bipush (v := 64) hx hb d_N_lowest_1 (by decide) ?_
  refine lv_icmp_lt (tgt := 12) hx hb d_N_lowest_3 (by decide) (fun e1_12 => ?_) (fun e1_12 => ?_)
  · refine lv_lconst (v := 1) hx hb d_N_lowest_12 (by decide) ?_
    refine lv_iload_n hx hb d_N_lowest_13 rfl (lv_at hl 0 rfl) ?_
    refine lv_lshl (v := (1 : Int64) <<< (p0.toInt64 &&& 63)) hx hb d_N_lowest_14 rfl ?_
    refine lv_lconst (v := 1) hx hb d_N_lowest_15 (by decide) ?_
    refine lv_lsub hx hb d_N_lowest_16 ?_
    have fe : f_N_lowest p0 = ((1 : Int64) <<< (p0.toInt64 &&& 63)) - (1 : Int64) := by unfold f_N_lowest; first | with_reducible exact if_pos e1_12 | exact if_pos e1_12
    exact W.lret (v := ((1 : Int64) <<< (p0.toInt64 &&& 63)) - (1 : Int64)) hx hb hr (fun t ht hW => ⟨_, rfl, fe.symm, ht⟩) t_nil d_N_lowest_17
  · refine lv_ldc2 (v := -1) hx hb hown (hG (.constantLong R_N 17 (-1)) gw129) d_N_lowest_6 ?_
    refine lv_goto (tgt := 17) hx hb d_N_lowest_9 (by decide) ?_
    have fe : f_N_lowest p0 = -1 := by unfold f_N_lowest; first | with_reducible exact if_neg e1_12 | exact if_neg e1_12
    exact W.lret (v := -1) hx hb hr (fun t ht hW => ⟨_, rfl, fe.symm, ht⟩) t_nil d_N_lowest_17
-- ValueSieve$Numbers.zerosAtEnd
theorem d_N_zerosAtEnd_0 : decode b_N_zerosAtEnd 0 = .ok (.lload_n 0, 1) := by decide +kernel
theorem d_N_zerosAtEnd_1 : decode b_N_zerosAtEnd 1 = .ok (.ldc2_w 17, 3) := by decide +kernel
theorem d_N_zerosAtEnd_4 : decode b_N_zerosAtEnd 4 = .ok (.lxor, 1) := by decide +kernel
theorem d_N_zerosAtEnd_5 : decode b_N_zerosAtEnd 5 = .ok (.lload_n 0, 1) := by decide +kernel
theorem d_N_zerosAtEnd_6 : decode b_N_zerosAtEnd 6 = .ok (.lconst 1, 1) := by decide +kernel
theorem d_N_zerosAtEnd_7 : decode b_N_zerosAtEnd 7 = .ok (.lsub, 1) := by decide +kernel
theorem d_N_zerosAtEnd_8 : decode b_N_zerosAtEnd 8 = .ok (.land, 1) := by decide +kernel
theorem d_N_zerosAtEnd_9 : decode b_N_zerosAtEnd 9 = .ok (.invokestatic 23, 3) := by decide +kernel
theorem d_N_zerosAtEnd_12 : decode b_N_zerosAtEnd 12 = .ok (.ireturn, 1) := by decide +kernel
def f_N_zerosAtEnd (p0 : Int64) : Int32 := (f_Lo_bitCount ((p0 ^^^ (-1 : Int64)) &&& (p0 - (1 : Int64))))
set_option maxRecDepth 100000 in
set_option maxHeartbeats 4000000 in
theorem c_N_zerosAtEnd (l : Launch) (p0 : Int64) : Met l y_N_zerosAtEnd w_N_zerosAtEnd ({ frames := 1, cells := 0, slots := 0, locals := 21 } : Room) (va_Pc [.long (p0)] (fun _ => True)) (vp_Si (fun r => r = f_N_zerosAtEnd p0)) 0 0 (fun _ => False) := by
  refine Met.ofW (cc := b_N_zerosAtEnd) (maxL := 2) (ret := (some .int)) (by decide) rfl ?_
  intro p e s m args below meth c s₁ B hml hv
  obtain ⟨rfl, -⟩ := hv
  have hx := B.exec
  have hb := B.bytes
  have hr := B.returns
  have hts := atoms_spec (ws := w_N_zerosAtEnd) B.pre
  have hG : ∀ w ∈ gG, w.before _ s = true := fun w h => hts w (List.mem_cons_of_mem _ h)
  have hown : s.vm.findClass R_N = some m.cls := findClass_of_methodNamed B.named
  have hlocks := B.notSynchronized
  have hl := lv_entry ([.long (p0)]) (n := 2) (Nat.le_of_ble_eq_true rfl)
  rw [lg_entry_eq]
  generalize (lg_sl ([.long (p0)]) ++ List.replicate (2 - (lg_sl ([.long (p0)])).length) Slot.unset).toArray = ls at hl ⊢
  have hl : lv_has ls 2 [(0, .long (p0))] := hl
  refine lv_lload_n hx hb d_N_zerosAtEnd_0 rfl (lv_at hl 0 rfl) ?_
  refine lv_ldc2 (v := -1) hx hb hown (hG (.constantLong R_N 17 (-1)) gw129) d_N_zerosAtEnd_1 ?_
  refine lv_lxor hx hb d_N_zerosAtEnd_4 ?_
  refine lv_lload_n hx hb d_N_zerosAtEnd_5 rfl (lv_at hl 0 rfl) ?_
  refine lv_lconst (v := 1) hx hb d_N_zerosAtEnd_6 (by decide) ?_
  refine lv_lsub hx hb d_N_zerosAtEnd_7 ?_
  refine lv_land hx hb d_N_zerosAtEnd_8 ?_
  refine rc_i (W.runS (As := [.long ((p0 ^^^ (-1 : Int64)) &&& (p0 - (1 : Int64)))]) (rest := []) ⟨hx, hb, hml, hown, hts⟩ (c_Lo_bitCount l ((p0 ^^^ (-1 : Int64)) &&& (p0 - (1 : Int64)))) (va_cwS 1 hts (gS gw213 gw214 gw5 gw215) rfl rfl rfl (by decide +kernel) ⟨(Nat.le_of_ble_eq_true rfl), (Nat.le_of_ble_eq_true rfl)⟩) ⟨bl0, fun U hU hW => ⟨rfl, trivial⟩⟩ rfl rfl hl.1 rfl (lv_room (Nat.le_of_ble_eq_true rfl)) d_N_zerosAtEnd_9 ⟨Nat.zero_le _, Nat.zero_le _⟩) ?_
  have fe : f_N_zerosAtEnd p0 = f_Lo_bitCount ((p0 ^^^ (-1 : Int64)) &&& (p0 - (1 : Int64))) := rfl
  exact W.iret (v := f_Lo_bitCount ((p0 ^^^ (-1 : Int64)) &&& (p0 - (1 : Int64)))) hx hb hr (fun t ht hW => ⟨_, rfl, fe.symm, ht⟩) t_nil d_N_zerosAtEnd_12
-- ValueSieve$Numbers.upToHighest
theorem d_N_upToHighest_0 : decode b_N_upToHighest 0 = .ok (.lload_n 0, 1) := by decide +kernel
theorem d_N_upToHighest_1 : decode b_N_upToHighest 1 = .ok (.lload_n 0, 1) := by decide +kernel
theorem d_N_upToHighest_2 : decode b_N_upToHighest 2 = .ok (.iconst 1, 1) := by decide +kernel
theorem d_N_upToHighest_3 : decode b_N_upToHighest 3 = .ok (.lushr, 1) := by decide +kernel
theorem d_N_upToHighest_4 : decode b_N_upToHighest 4 = .ok (.lor, 1) := by decide +kernel
theorem d_N_upToHighest_5 : decode b_N_upToHighest 5 = .ok (.lstore_n 2, 1) := by decide +kernel
theorem d_N_upToHighest_6 : decode b_N_upToHighest 6 = .ok (.lload_n 2, 1) := by decide +kernel
theorem d_N_upToHighest_7 : decode b_N_upToHighest 7 = .ok (.lload_n 2, 1) := by decide +kernel
theorem d_N_upToHighest_8 : decode b_N_upToHighest 8 = .ok (.iconst 2, 1) := by decide +kernel
theorem d_N_upToHighest_9 : decode b_N_upToHighest 9 = .ok (.lushr, 1) := by decide +kernel
theorem d_N_upToHighest_10 : decode b_N_upToHighest 10 = .ok (.lor, 1) := by decide +kernel
theorem d_N_upToHighest_11 : decode b_N_upToHighest 11 = .ok (.lstore_n 2, 1) := by decide +kernel
theorem d_N_upToHighest_12 : decode b_N_upToHighest 12 = .ok (.lload_n 2, 1) := by decide +kernel
theorem d_N_upToHighest_13 : decode b_N_upToHighest 13 = .ok (.lload_n 2, 1) := by decide +kernel
theorem d_N_upToHighest_14 : decode b_N_upToHighest 14 = .ok (.iconst 4, 1) := by decide +kernel
theorem d_N_upToHighest_15 : decode b_N_upToHighest 15 = .ok (.lushr, 1) := by decide +kernel
theorem d_N_upToHighest_16 : decode b_N_upToHighest 16 = .ok (.lor, 1) := by decide +kernel
theorem d_N_upToHighest_17 : decode b_N_upToHighest 17 = .ok (.lstore_n 2, 1) := by decide +kernel
theorem d_N_upToHighest_18 : decode b_N_upToHighest 18 = .ok (.lload_n 2, 1) := by decide +kernel
theorem d_N_upToHighest_19 : decode b_N_upToHighest 19 = .ok (.lload_n 2, 1) := by decide +kernel
theorem d_N_upToHighest_20 : decode b_N_upToHighest 20 = .ok (.bipush 8, 2) := by decide +kernel
theorem d_N_upToHighest_22 : decode b_N_upToHighest 22 = .ok (.lushr, 1) := by decide +kernel
theorem d_N_upToHighest_23 : decode b_N_upToHighest 23 = .ok (.lor, 1) := by decide +kernel
theorem d_N_upToHighest_24 : decode b_N_upToHighest 24 = .ok (.lstore_n 2, 1) := by decide +kernel
theorem d_N_upToHighest_25 : decode b_N_upToHighest 25 = .ok (.lload_n 2, 1) := by decide +kernel
theorem d_N_upToHighest_26 : decode b_N_upToHighest 26 = .ok (.lload_n 2, 1) := by decide +kernel
theorem d_N_upToHighest_27 : decode b_N_upToHighest 27 = .ok (.bipush 16, 2) := by decide +kernel
theorem d_N_upToHighest_29 : decode b_N_upToHighest 29 = .ok (.lushr, 1) := by decide +kernel
theorem d_N_upToHighest_30 : decode b_N_upToHighest 30 = .ok (.lor, 1) := by decide +kernel
theorem d_N_upToHighest_31 : decode b_N_upToHighest 31 = .ok (.lstore_n 2, 1) := by decide +kernel
theorem d_N_upToHighest_32 : decode b_N_upToHighest 32 = .ok (.lload_n 2, 1) := by decide +kernel
theorem d_N_upToHighest_33 : decode b_N_upToHighest 33 = .ok (.lload_n 2, 1) := by decide +kernel
theorem d_N_upToHighest_34 : decode b_N_upToHighest 34 = .ok (.bipush 32, 2) := by decide +kernel
theorem d_N_upToHighest_36 : decode b_N_upToHighest 36 = .ok (.lushr, 1) := by decide +kernel
theorem d_N_upToHighest_37 : decode b_N_upToHighest 37 = .ok (.lor, 1) := by decide +kernel
theorem d_N_upToHighest_38 : decode b_N_upToHighest 38 = .ok (.lreturn, 1) := by decide +kernel
def f_N_upToHighest_31v (p0 : Int64) (v31 : Int64) : Int64 := (v31 ||| ((v31.toUInt64 >>> ((32 : Int32).toInt64.toUInt64 &&& Int64.toUInt64 63)).toInt64))
def f_N_upToHighest_24v (p0 : Int64) (v24 : Int64) : Int64 := f_N_upToHighest_31v p0 (v24 ||| ((v24.toUInt64 >>> ((16 : Int32).toInt64.toUInt64 &&& Int64.toUInt64 63)).toInt64))
def f_N_upToHighest_17v (p0 : Int64) (v17 : Int64) : Int64 := f_N_upToHighest_24v p0 (v17 ||| ((v17.toUInt64 >>> ((8 : Int32).toInt64.toUInt64 &&& Int64.toUInt64 63)).toInt64))
def f_N_upToHighest_11v (p0 : Int64) (v11 : Int64) : Int64 := f_N_upToHighest_17v p0 (v11 ||| ((v11.toUInt64 >>> ((4 : Int32).toInt64.toUInt64 &&& Int64.toUInt64 63)).toInt64))
def f_N_upToHighest_5v (p0 : Int64) (v5 : Int64) : Int64 := f_N_upToHighest_11v p0 (v5 ||| ((v5.toUInt64 >>> ((2 : Int32).toInt64.toUInt64 &&& Int64.toUInt64 63)).toInt64))
def f_N_upToHighest (p0 : Int64) : Int64 := f_N_upToHighest_5v p0 (p0 ||| ((p0.toUInt64 >>> ((1 : Int32).toInt64.toUInt64 &&& Int64.toUInt64 63)).toInt64))
set_option maxRecDepth 100000 in
set_option maxHeartbeats 4000000 in
theorem c_N_upToHighest (l : Launch) (p0 : Int64) : Met l y_N_upToHighest w_N_upToHighest ({ frames := 0, cells := 0, slots := 0, locals := 0 } : Room) (va_Pc [.long (p0)] (fun _ => True)) (vp_Sl (fun r => r = f_N_upToHighest p0)) 0 0 (fun _ => False) := by
  refine Met.ofW (cc := b_N_upToHighest) (maxL := 4) (ret := (some .long)) (by decide) rfl ?_
  intro p e s m args below meth c s₁ B hml hv
  obtain ⟨rfl, -⟩ := hv
  have hx := B.exec
  have hb := B.bytes
  have hr := B.returns
  have hts := atoms_spec (ws := w_N_upToHighest) B.pre
  have hG : ∀ w ∈ gG, w.before _ s = true := fun w h => hts w (List.mem_cons_of_mem _ h)
  have hown : s.vm.findClass R_N = some m.cls := findClass_of_methodNamed B.named
  have hlocks := B.notSynchronized
  have hl := lv_entry ([.long (p0)]) (n := 4) (Nat.le_of_ble_eq_true rfl)
  rw [lg_entry_eq]
  generalize (lg_sl ([.long (p0)]) ++ List.replicate (4 - (lg_sl ([.long (p0)])).length) Slot.unset).toArray = ls at hl ⊢
  have hl : lv_has ls 4 [(0, .long (p0))] := hl
  have K31v : ∀ (v31 : Int64) (hj : f_N_upToHighest p0 = f_N_upToHighest_31v p0 v31) (ls : Array Slot) (hl : lv_has ls 4 [(2, .long (v31))]), W p l e (headSpec w_N_upToHighest ({ frames := 0, cells := 0, slots := 0, locals := 0 } : Room)).room s m ([.long (p0)] : List Value).toArray below meth c s.heap [] 0 0 (MQ below (vp_Sl (fun r => r = f_N_upToHighest p0)) ([.long (p0)] : List Value).toArray s 0 0 (fun _ => False)) (F0 m 32 ls []) := by
    intro v31 hj ls hl
    refine lv_lload_n hx hb d_N_upToHighest_32 rfl (lv_at hl 0 rfl) ?_
    refine lv_lload_n hx hb d_N_upToHighest_33 rfl (lv_at hl 0 rfl) ?_
    refine lv_bipush (v := 32) hx hb d_N_upToHighest_34 (by decide) ?_
    refine lv_lushr (v := (v31.toUInt64 >>> ((32 : Int32).toInt64.toUInt64 &&& Int64.toUInt64 63)).toInt64) hx hb d_N_upToHighest_36 rfl ?_
    refine lv_lor hx hb d_N_upToHighest_37 ?_
    have fe : f_N_upToHighest p0 = v31 ||| ((v31.toUInt64 >>> ((32 : Int32).toInt64.toUInt64 &&& Int64.toUInt64 63)).toInt64) := hj.trans rfl
    exact W.lret (v := v31 ||| ((v31.toUInt64 >>> ((32 : Int32).toInt64.toUInt64 &&& Int64.toUInt64 63)).toInt64)) hx hb hr (fun t ht hW => ⟨_, rfl, fe.symm, ht⟩) t_nil d_N_upToHighest_38
  have K24v : ∀ (v24 : Int64) (hj : f_N_upToHighest p0 = f_N_upToHighest_24v p0 v24) (ls : Array Slot) (hl : lv_has ls 4 [(2, .long (v24))]), W p l e (headSpec w_N_upToHighest ({ frames := 0, cells := 0, slots := 0, locals := 0 } : Room)).room s m ([.long (p0)] : List Value).toArray below meth c s.heap [] 0 0 (MQ below (vp_Sl (fun r => r = f_N_upToHighest p0)) ([.long (p0)] : List Value).toArray s 0 0 (fun _ => False)) (F0 m 25 ls []) := by
    intro v24 hj ls hl
    refine lv_lload_n hx hb d_N_upToHighest_25 rfl (lv_at hl 0 rfl) ?_
    refine lv_lload_n hx hb d_N_upToHighest_26 rfl (lv_at hl 0 rfl) ?_
    refine lv_bipush (v := 16) hx hb d_N_upToHighest_27 (by decide) ?_
    refine lv_lushr (v := (v24.toUInt64 >>> ((16 : Int32).toInt64.toUInt64 &&& Int64.toUInt64 63)).toInt64) hx hb d_N_upToHighest_29 rfl ?_
    refine lv_lor hx hb d_N_upToHighest_30 ?_
    refine lv_topl (fun v31 ev31 => ?_)
    refine lv_lstore_n (lv' := [(2, .long (v31))]) hx hb d_N_upToHighest_31 rfl hl (by decide) rfl (fun ls hl => ?_)
    exact K31v v31 (Eq.trans (hj.trans rfl) (congrArg (fun v31 => f_N_upToHighest_31v p0 v31) ev31.symm)) ls (lv_sub hl [0] rfl)
  have K17v : ∀ (v17 : Int64) (hj : f_N_upToHighest p0 = f_N_upToHighest_17v p0 v17) (ls : Array Slot) (hl : lv_has ls 4 [(2, .long (v17))]), W p l e (headSpec w_N_upToHighest ({ frames := 0, cells := 0, slots := 0, locals := 0 } : Room)).room s m ([.long (p0)] : List Value).toArray below meth c s.heap [] 0 0 (MQ below (vp_Sl (fun r => r = f_N_upToHighest p0)) ([.long (p0)] : List Value).toArray s 0 0 (fun _ => False)) (F0 m 18 ls []) := by
    intro v17 hj ls hl
    refine lv_lload_n hx hb d_N_upToHighest_18 rfl (lv_at hl 0 rfl) ?_
    refine lv_lload_n hx hb d_N_upToHighest_19 rfl (lv_at hl 0 rfl) ?_
    refine lv_bipush (v := 8) hx hb d_N_upToHighest_20 (by decide) ?_
    refine lv_lushr (v := (v17.toUInt64 >>> ((8 : Int32).toInt64.toUInt64 &&& Int64.toUInt64 63)).toInt64) hx hb d_N_upToHighest_22 rfl ?_
    refine lv_lor hx hb d_N_upToHighest_23 ?_
    refine lv_topl (fun v24 ev24 => ?_)
    refine lv_lstore_n (lv' := [(2, .long (v24))]) hx hb d_N_upToHighest_24 rfl hl (by decide) rfl (fun ls hl => ?_)
    exact K24v v24 (Eq.trans (hj.trans rfl) (congrArg (fun v24 => f_N_upToHighest_24v p0 v24) ev24.symm)) ls (lv_sub hl [0] rfl)
  have K11v : ∀ (v11 : Int64) (hj : f_N_upToHighest p0 = f_N_upToHighest_11v p0 v11) (ls : Array Slot) (hl : lv_has ls 4 [(2, .long (v11))]), W p l e (headSpec w_N_upToHighest ({ frames := 0, cells := 0, slots := 0, locals := 0 } : Room)).room s m ([.long (p0)] : List Value).toArray below meth c s.heap [] 0 0 (MQ below (vp_Sl (fun r => r = f_N_upToHighest p0)) ([.long (p0)] : List Value).toArray s 0 0 (fun _ => False)) (F0 m 12 ls []) := by
    intro v11 hj ls hl
    refine lv_lload_n hx hb d_N_upToHighest_12 rfl (lv_at hl 0 rfl) ?_
    refine lv_lload_n hx hb d_N_upToHighest_13 rfl (lv_at hl 0 rfl) ?_
    refine lv_iconst (v := 4) hx hb d_N_upToHighest_14 (by decide) ?_
    refine lv_lushr (v := (v11.toUInt64 >>> ((4 : Int32).toInt64.toUInt64 &&& Int64.toUInt64 63)).toInt64) hx hb d_N_upToHighest_15 rfl ?_
    refine lv_lor hx hb d_N_upToHighest_16 ?_
    refine lv_topl (fun v17 ev17 => ?_)
    refine lv_lstore_n (lv' := [(2, .long (v17))]) hx hb d_N_upToHighest_17 rfl hl (by decide) rfl (fun ls hl => ?_)
    exact K17v v17 (Eq.trans (hj.trans rfl) (congrArg (fun v17 => f_N_upToHighest_17v p0 v17) ev17.symm)) ls (lv_sub hl [0] rfl)
  have K5v : ∀ (v5 : Int64) (hj : f_N_upToHighest p0 = f_N_upToHighest_5v p0 v5) (ls : Array Slot) (hl : lv_has ls 4 [(2, .long (v5))]), W p l e (headSpec w_N_upToHighest ({ frames := 0, cells := 0, slots := 0, locals := 0 } : Room)).room s m ([.long (p0)] : List Value).toArray below meth c s.heap [] 0 0 (MQ below (vp_Sl (fun r => r = f_N_upToHighest p0)) ([.long (p0)] : List Value).toArray s 0 0 (fun _ => False)) (F0 m 6 ls []) := by
    intro v5 hj ls hl
    refine lv_lload_n hx hb d_N_upToHighest_6 rfl (lv_at hl 0 rfl) ?_
    refine lv_lload_n hx hb d_N_upToHighest_7 rfl (lv_at hl 0 rfl) ?_
    refine lv_iconst (v := 2) hx hb d_N_upToHighest_8 (by decide) ?_
    refine lv_lushr (v := (v5.toUInt64 >>> ((2 : Int32).toInt64.toUInt64 &&& Int64.toUInt64 63)).toInt64) hx hb d_N_upToHighest_9 rfl ?_
    refine lv_lor hx hb d_N_upToHighest_10 ?_
    refine lv_topl (fun v11 ev11 => ?_)
    refine lv_lstore_n (lv' := [(2, .long (v11))]) hx hb d_N_upToHighest_11 rfl hl (by decide) rfl (fun ls hl => ?_)
    exact K11v v11 (Eq.trans (hj.trans rfl) (congrArg (fun v11 => f_N_upToHighest_11v p0 v11) ev11.symm)) ls (lv_sub hl [0] rfl)
  refine lv_lload_n hx hb d_N_upToHighest_0 rfl (lv_at hl 0 rfl) ?_
  refine lv_lload_n hx hb d_N_upToHighest_1 rfl (lv_at hl 0 rfl) ?_
  refine lv_iconst (v := 1) hx hb d_N_upToHighest_2 (by decide) ?_
  refine lv_lushr (v := (p0.toUInt64 >>> ((1 : Int32).toInt64.toUInt64 &&& Int64.toUInt64 63)).toInt64) hx hb d_N_upToHighest_3 rfl ?_
  refine lv_lor hx hb d_N_upToHighest_4 ?_
  refine lv_topl (fun v5 ev5 => ?_)
  refine lv_lstore_n (lv' := [(2, .long (v5)), (0, .long (p0))]) hx hb d_N_upToHighest_5 rfl hl (by decide) rfl (fun ls hl => ?_)
  exact K5v v5 (Eq.trans (rfl) (congrArg (fun v5 => f_N_upToHighest_5v p0 v5) ev5.symm)) ls (lv_sub hl [0] rfl)
-- ValueSieve$Numbers.firstFrom
theorem d_N_firstFrom_0 : decode b_N_firstFrom 0 = .ok (.lload_n 0, 1) := by decide +kernel
theorem d_N_firstFrom_1 : decode b_N_firstFrom 1 = .ok (.lload_n 2, 1) := by decide +kernel
theorem d_N_firstFrom_2 : decode b_N_firstFrom 2 = .ok (.lxor, 1) := by decide +kernel
theorem d_N_firstFrom_3 : decode b_N_firstFrom 3 = .ok (.lload 4, 2) := by decide +kernel
theorem d_N_firstFrom_5 : decode b_N_firstFrom 5 = .ok (.ldc2_w 17, 3) := by decide +kernel
theorem d_N_firstFrom_8 : decode b_N_firstFrom 8 = .ok (.lxor, 1) := by decide +kernel
theorem d_N_firstFrom_9 : decode b_N_firstFrom 9 = .ok (.land, 1) := by decide +kernel
theorem d_N_firstFrom_10 : decode b_N_firstFrom 10 = .ok (.lstore 6, 2) := by decide +kernel
theorem d_N_firstFrom_12 : decode b_N_firstFrom 12 = .ok (.lload 6, 2) := by decide +kernel
theorem d_N_firstFrom_14 : decode b_N_firstFrom 14 = .ok (.lconst 0, 1) := by decide +kernel
theorem d_N_firstFrom_15 : decode b_N_firstFrom 15 = .ok (.lcmp, 1) := by decide +kernel
theorem d_N_firstFrom_16 : decode b_N_firstFrom 16 = .ok (.ifCond .ne 5, 3) := by decide +kernel
theorem d_N_firstFrom_19 : decode b_N_firstFrom 19 = .ok (.lload_n 0, 1) := by decide +kernel
theorem d_N_firstFrom_20 : decode b_N_firstFrom 20 = .ok (.lreturn, 1) := by decide +kernel
theorem d_N_firstFrom_21 : decode b_N_firstFrom 21 = .ok (.lload 6, 2) := by decide +kernel
theorem d_N_firstFrom_23 : decode b_N_firstFrom 23 = .ok (.invokestatic 27, 3) := by decide +kernel
theorem d_N_firstFrom_26 : decode b_N_firstFrom 26 = .ok (.lstore 8, 2) := by decide +kernel
theorem d_N_firstFrom_28 : decode b_N_firstFrom 28 = .ok (.lload 8, 2) := by decide +kernel
theorem d_N_firstFrom_30 : decode b_N_firstFrom 30 = .ok (.lload 8, 2) := by decide +kernel
theorem d_N_firstFrom_32 : decode b_N_firstFrom 32 = .ok (.iconst 1, 1) := by decide +kernel
theorem d_N_firstFrom_33 : decode b_N_firstFrom 33 = .ok (.lushr, 1) := by decide +kernel
theorem d_N_firstFrom_34 : decode b_N_firstFrom 34 = .ok (.lxor, 1) := by decide +kernel
theorem d_N_firstFrom_35 : decode b_N_firstFrom 35 = .ok (.lstore 10, 2) := by decide +kernel
theorem d_N_firstFrom_37 : decode b_N_firstFrom 37 = .ok (.lload_n 2, 1) := by decide +kernel
theorem d_N_firstFrom_38 : decode b_N_firstFrom 38 = .ok (.lload 10, 2) := by decide +kernel
theorem d_N_firstFrom_40 : decode b_N_firstFrom 40 = .ok (.land, 1) := by decide +kernel
theorem d_N_firstFrom_41 : decode b_N_firstFrom 41 = .ok (.lconst 0, 1) := by decide +kernel
theorem d_N_firstFrom_42 : decode b_N_firstFrom 42 = .ok (.lcmp, 1) := by decide +kernel
theorem d_N_firstFrom_43 : decode b_N_firstFrom 43 = .ok (.ifCond .eq 17, 3) := by decide +kernel
theorem d_N_firstFrom_46 : decode b_N_firstFrom 46 = .ok (.lload_n 0, 1) := by decide +kernel
theorem d_N_firstFrom_47 : decode b_N_firstFrom 47 = .ok (.lload 8, 2) := by decide +kernel
theorem d_N_firstFrom_49 : decode b_N_firstFrom 49 = .ok (.ldc2_w 17, 3) := by decide +kernel
theorem d_N_firstFrom_52 : decode b_N_firstFrom 52 = .ok (.lxor, 1) := by decide +kernel
theorem d_N_firstFrom_53 : decode b_N_firstFrom 53 = .ok (.land, 1) := by decide +kernel
theorem d_N_firstFrom_54 : decode b_N_firstFrom 54 = .ok (.lload_n 2, 1) := by decide +kernel
theorem d_N_firstFrom_55 : decode b_N_firstFrom 55 = .ok (.lload 8, 2) := by decide +kernel
theorem d_N_firstFrom_57 : decode b_N_firstFrom 57 = .ok (.land, 1) := by decide +kernel
theorem d_N_firstFrom_58 : decode b_N_firstFrom 58 = .ok (.lor, 1) := by decide +kernel
theorem d_N_firstFrom_59 : decode b_N_firstFrom 59 = .ok (.lreturn, 1) := by decide +kernel
theorem d_N_firstFrom_60 : decode b_N_firstFrom 60 = .ok (.lload 4, 2) := by decide +kernel
theorem d_N_firstFrom_62 : decode b_N_firstFrom 62 = .ok (.lload_n 0, 1) := by decide +kernel
theorem d_N_firstFrom_63 : decode b_N_firstFrom 63 = .ok (.ldc2_w 17, 3) := by decide +kernel
theorem d_N_firstFrom_66 : decode b_N_firstFrom 66 = .ok (.lxor, 1) := by decide +kernel
theorem d_N_firstFrom_67 : decode b_N_firstFrom 67 = .ok (.land, 1) := by decide +kernel
theorem d_N_firstFrom_68 : decode b_N_firstFrom 68 = .ok (.lload 8, 2) := by decide +kernel
theorem d_N_firstFrom_70 : decode b_N_firstFrom 70 = .ok (.ldc2_w 17, 3) := by decide +kernel
theorem d_N_firstFrom_73 : decode b_N_firstFrom 73 = .ok (.lxor, 1) := by decide +kernel
theorem d_N_firstFrom_74 : decode b_N_firstFrom 74 = .ok (.land, 1) := by decide +kernel
theorem d_N_firstFrom_75 : decode b_N_firstFrom 75 = .ok (.lstore 12, 2) := by decide +kernel
theorem d_N_firstFrom_77 : decode b_N_firstFrom 77 = .ok (.lload 12, 2) := by decide +kernel
theorem d_N_firstFrom_79 : decode b_N_firstFrom 79 = .ok (.lconst 0, 1) := by decide +kernel
theorem d_N_firstFrom_80 : decode b_N_firstFrom 80 = .ok (.lcmp, 1) := by decide +kernel
theorem d_N_firstFrom_81 : decode b_N_firstFrom 81 = .ok (.ifCond .ne 5, 3) := by decide +kernel
theorem d_N_firstFrom_84 : decode b_N_firstFrom 84 = .ok (.lload_n 2, 1) := by decide +kernel
theorem d_N_firstFrom_85 : decode b_N_firstFrom 85 = .ok (.lreturn, 1) := by decide +kernel
theorem d_N_firstFrom_86 : decode b_N_firstFrom 86 = .ok (.lload 12, 2) := by decide +kernel
theorem d_N_firstFrom_88 : decode b_N_firstFrom 88 = .ok (.lload 12, 2) := by decide +kernel
theorem d_N_firstFrom_90 : decode b_N_firstFrom 90 = .ok (.lneg, 1) := by decide +kernel
theorem d_N_firstFrom_91 : decode b_N_firstFrom 91 = .ok (.land, 1) := by decide +kernel
theorem d_N_firstFrom_92 : decode b_N_firstFrom 92 = .ok (.lstore 14, 2) := by decide +kernel
theorem d_N_firstFrom_94 : decode b_N_firstFrom 94 = .ok (.lload_n 0, 1) := by decide +kernel
theorem d_N_firstFrom_95 : decode b_N_firstFrom 95 = .ok (.lload 14, 2) := by decide +kernel
theorem d_N_firstFrom_97 : decode b_N_firstFrom 97 = .ok (.lconst 1, 1) := by decide +kernel
theorem d_N_firstFrom_98 : decode b_N_firstFrom 98 = .ok (.lsub, 1) := by decide +kernel
theorem d_N_firstFrom_99 : decode b_N_firstFrom 99 = .ok (.ldc2_w 17, 3) := by decide +kernel
theorem d_N_firstFrom_102 : decode b_N_firstFrom 102 = .ok (.lxor, 1) := by decide +kernel
theorem d_N_firstFrom_103 : decode b_N_firstFrom 103 = .ok (.land, 1) := by decide +kernel
theorem d_N_firstFrom_104 : decode b_N_firstFrom 104 = .ok (.lload 14, 2) := by decide +kernel
theorem d_N_firstFrom_106 : decode b_N_firstFrom 106 = .ok (.lor, 1) := by decide +kernel
theorem d_N_firstFrom_107 : decode b_N_firstFrom 107 = .ok (.lload_n 2, 1) := by decide +kernel
theorem d_N_firstFrom_108 : decode b_N_firstFrom 108 = .ok (.lload 14, 2) := by decide +kernel
theorem d_N_firstFrom_110 : decode b_N_firstFrom 110 = .ok (.lconst 1, 1) := by decide +kernel
theorem d_N_firstFrom_111 : decode b_N_firstFrom 111 = .ok (.lsub, 1) := by decide +kernel
theorem d_N_firstFrom_112 : decode b_N_firstFrom 112 = .ok (.land, 1) := by decide +kernel
theorem d_N_firstFrom_113 : decode b_N_firstFrom 113 = .ok (.lor, 1) := by decide +kernel
theorem d_N_firstFrom_114 : decode b_N_firstFrom 114 = .ok (.lreturn, 1) := by decide +kernel
def f_N_firstFrom_92v (p0 : Int64) (p1 : Int64) (p2 : Int64) (v92 : Int64) : Int64 := (((p0 &&& ((v92 - (1 : Int64)) ^^^ (-1 : Int64))) ||| v92) ||| (p1 &&& (v92 - (1 : Int64))))
def f_N_firstFrom_75v (p0 : Int64) (p1 : Int64) (p2 : Int64) (v75 : Int64) : Int64 := (if v75 = 0 then p1 else f_N_firstFrom_92v p0 p1 p2 (v75 &&& (-v75)))
def f_N_firstFrom_35v (p0 : Int64) (p1 : Int64) (p2 : Int64) (v35 : Int64) (v26 : Int64) : Int64 := (if (p1 &&& v35) = 0 then f_N_firstFrom_75v p0 p1 p2 ((p2 &&& (p0 ^^^ (-1 : Int64))) &&& (v26 ^^^ (-1 : Int64))) else ((p0 &&& (v26 ^^^ (-1 : Int64))) ||| (p1 &&& v26)))
def f_N_firstFrom_26v (p0 : Int64) (p1 : Int64) (p2 : Int64) (v26 : Int64) : Int64 := f_N_firstFrom_35v p0 p1 p2 (v26 ^^^ ((v26.toUInt64 >>> ((1 : Int32).toInt64.toUInt64 &&& Int64.toUInt64 63)).toInt64)) v26
def f_N_firstFrom_10v (p0 : Int64) (p1 : Int64) (p2 : Int64) (v10 : Int64) : Int64 := (if v10 = 0 then p0 else f_N_firstFrom_26v p0 p1 p2 (f_N_upToHighest v10))
def f_N_firstFrom (p0 : Int64) (p1 : Int64) (p2 : Int64) : Int64 := f_N_firstFrom_10v p0 p1 p2 ((p0 ^^^ p1) &&& (p2 ^^^ (-1 : Int64)))
set_option maxRecDepth 100000 in
set_option maxHeartbeats 4000000 in
theorem c_N_firstFrom (l : Launch) (p0 : Int64) (p1 : Int64) (p2 : Int64) : Met l y_N_firstFrom w_N_firstFrom ({ frames := 1, cells := 0, slots := 0, locals := 23 } : Room) (va_Pc [.long (p0), .long (p1), .long (p2)] (fun _ => True)) (vp_Sl (fun r => r = f_N_firstFrom p0 p1 p2)) 0 0 (fun _ => False) := by
  refine Met.ofW (cc := b_N_firstFrom) (maxL := 16) (ret := (some .long)) (by decide) rfl ?_
  intro p e s m args below meth c s₁ B hml hv
  obtain ⟨rfl, -⟩ := hv
  have hx := B.exec
  have hb := B.bytes
  have hr := B.returns
  have hts := atoms_spec (ws := w_N_firstFrom) B.pre
  have hG : ∀ w ∈ gG, w.before _ s = true := fun w h => hts w (List.mem_cons_of_mem _ h)
  have hown : s.vm.findClass R_N = some m.cls := findClass_of_methodNamed B.named
  have hlocks := B.notSynchronized
  have hl := lv_entry ([.long (p0), .long (p1), .long (p2)]) (n := 16) (Nat.le_of_ble_eq_true rfl)
  rw [lg_entry_eq]
  generalize (lg_sl ([.long (p0), .long (p1), .long (p2)]) ++ List.replicate (16 - (lg_sl ([.long (p0), .long (p1), .long (p2)])).length) Slot.unset).toArray = ls at hl ⊢
  have hl : lv_has ls 16 [(0, .long (p0)), (2, .long (p1)), (4, .long (p2))] := hl
  have K92v : ∀ (v92 : Int64) (hj : f_N_firstFrom p0 p1 p2 = f_N_firstFrom_92v p0 p1 p2 v92) (ls : Array Slot) (hl : lv_has ls 16 [(14, .long (v92)), (0, .long (p0)), (2, .long (p1))]), W p l e (headSpec w_N_firstFrom ({ frames := 1, cells := 0, slots := 0, locals := 23 } : Room)).room s m ([.long (p0), .long (p1), .long (p2)] : List Value).toArray below meth c s.heap [] 0 0 (MQ below (vp_Sl (fun r => r = f_N_firstFrom p0 p1 p2)) ([.long (p0), .long (p1), .long (p2)] : List Value).toArray s 0 0 (fun _ => False)) (F0 m 94 ls []) := by
    intro v92 hj ls hl
    refine lv_lload_n hx hb d_N_firstFrom_94 rfl (lv_at hl 1 rfl) ?_
    refine lv_lload hx hb d_N_firstFrom_95 (lv_at hl 0 rfl) ?_
    refine lv_lconst (v := 1) hx hb d_N_firstFrom_97 (by decide) ?_
    refine lv_lsub hx hb d_N_firstFrom_98 ?_
    refine lv_ldc2 (v := -1) hx hb hown (hG (.constantLong R_N 17 (-1)) gw129) d_N_firstFrom_99 ?_
    refine lv_lxor hx hb d_N_firstFrom_102 ?_
    refine lv_land hx hb d_N_firstFrom_103 ?_
    refine lv_lload hx hb d_N_firstFrom_104 (lv_at hl 0 rfl) ?_
    refine lv_lor hx hb d_N_firstFrom_106 ?_
    refine lv_lload_n hx hb d_N_firstFrom_107 rfl (lv_at hl 2 rfl) ?_
    refine lv_lload hx hb d_N_firstFrom_108 (lv_at hl 0 rfl) ?_
    refine lv_lconst (v := 1) hx hb d_N_firstFrom_110 (by decide) ?_
    refine lv_lsub hx hb d_N_firstFrom_111 ?_
    refine lv_land hx hb d_N_firstFrom_112 ?_
    refine lv_lor hx hb d_N_firstFrom_113 ?_
    have fe : f_N_firstFrom p0 p1 p2 = ((p0 &&& ((v92 - (1 : Int64)) ^^^ (-1 : Int64))) ||| v92) ||| (p1 &&& (v92 - (1 : Int64))) := hj.trans rfl
    exact W.lret (v := ((p0 &&& ((v92 - (1 : Int64)) ^^^ (-1 : Int64))) ||| v92) ||| (p1 &&& (v92 - (1 : Int64)))) hx hb hr (fun t ht hW => ⟨_, rfl, fe.symm, ht⟩) t_nil d_N_firstFrom_114
  have K75v : ∀ (v75 : Int64) (hj : f_N_firstFrom p0 p1 p2 = f_N_firstFrom_75v p0 p1 p2 v75) (ls : Array Slot) (hl : lv_has ls 16 [(12, .long (v75)), (0, .long (p0)), (2, .long (p1))]), W p l e (headSpec w_N_firstFrom ({ frames := 1, cells := 0, slots := 0, locals := 23 } : Room)).room s m ([.long (p0), .long (p1), .long (p2)] : List Value).toArray below meth c s.heap [] 0 0 (MQ below (vp_Sl (fun r => r = f_N_firstFrom p0 p1 p2)) ([.long (p0), .long (p1), .long (p2)] : List Value).toArray s 0 0 (fun _ => False)) (F0 m 77 ls []) := by
    intro v75 hj ls hl
    refine lv_lload hx hb d_N_firstFrom_77 (lv_at hl 0 rfl) ?_
    refine lv_lconst (v := 0) hx hb d_N_firstFrom_79 (by decide) ?_
    refine wl_ne (tgt := 86) hx hb d_N_firstFrom_80 d_N_firstFrom_81 (by decide) (fun e1_86 => ?_) (fun e1_86 => ?_)
    · refine lv_lload hx hb d_N_firstFrom_86 (lv_at hl 0 rfl) ?_
      refine lv_lload hx hb d_N_firstFrom_88 (lv_at hl 0 rfl) ?_
      refine lv_lneg hx hb d_N_firstFrom_90 ?_
      refine lv_land hx hb d_N_firstFrom_91 ?_
      refine lv_topl (fun v92 ev92 => ?_)
      refine lv_lstore (lv' := [(14, .long (v92)), (12, .long (v75)), (0, .long (p0)), (2, .long (p1))]) hx hb d_N_firstFrom_92 hl (by decide) rfl (fun ls hl => ?_)
      exact K92v v92 (Eq.trans (hj.trans (by unfold f_N_firstFrom_75v; first | with_reducible exact if_neg e1_86 | exact if_neg e1_86)) (congrArg (fun v92 => f_N_firstFrom_92v p0 p1 p2 v92) ev92.symm)) ls (lv_sub hl [0, 2, 3] rfl)
    · refine lv_lload_n hx hb d_N_firstFrom_84 rfl (lv_at hl 2 rfl) ?_
      have fe : f_N_firstFrom p0 p1 p2 = p1 := hj.trans (by unfold f_N_firstFrom_75v; first | with_reducible exact if_pos e1_86 | exact if_pos e1_86)
      exact W.lret (v := p1) hx hb hr (fun t ht hW => ⟨_, rfl, fe.symm, ht⟩) t_nil d_N_firstFrom_85
  have K35v : ∀ (v35 : Int64) (v26 : Int64) (hj : f_N_firstFrom p0 p1 p2 = f_N_firstFrom_35v p0 p1 p2 v35 v26) (ls : Array Slot) (hl : lv_has ls 16 [(10, .long (v35)), (8, .long (v26)), (0, .long (p0)), (2, .long (p1)), (4, .long (p2))]), W p l e (headSpec w_N_firstFrom ({ frames := 1, cells := 0, slots := 0, locals := 23 } : Room)).room s m ([.long (p0), .long (p1), .long (p2)] : List Value).toArray below meth c s.heap [] 0 0 (MQ below (vp_Sl (fun r => r = f_N_firstFrom p0 p1 p2)) ([.long (p0), .long (p1), .long (p2)] : List Value).toArray s 0 0 (fun _ => False)) (F0 m 37 ls []) := by
    intro v35 v26 hj ls hl
    refine lv_lload_n hx hb d_N_firstFrom_37 rfl (lv_at hl 3 rfl) ?_
    refine lv_lload hx hb d_N_firstFrom_38 (lv_at hl 0 rfl) ?_
    refine lv_land hx hb d_N_firstFrom_40 ?_
    refine lv_lconst (v := 0) hx hb d_N_firstFrom_41 (by decide) ?_
    refine wl_eq (tgt := 60) hx hb d_N_firstFrom_42 d_N_firstFrom_43 (by decide) (fun e1_60 => ?_) (fun e1_60 => ?_)
    · refine lv_lload hx hb d_N_firstFrom_60 (lv_at hl 4 rfl) ?_
      refine lv_lload_n hx hb d_N_firstFrom_62 rfl (lv_at hl 2 rfl) ?_
      refine lv_ldc2 (v := -1) hx hb hown (hG (.constantLong R_N 17 (-1)) gw129) d_N_firstFrom_63 ?_
      refine lv_lxor hx hb d_N_firstFrom_66 ?_
      refine lv_land hx hb d_N_firstFrom_67 ?_
      refine lv_lload hx hb d_N_firstFrom_68 (lv_at hl 1 rfl) ?_
      refine lv_ldc2 (v := -1) hx hb hown (hG (.constantLong R_N 17 (-1)) gw129) d_N_firstFrom_70 ?_
      refine lv_lxor hx hb d_N_firstFrom_73 ?_
      refine lv_land hx hb d_N_firstFrom_74 ?_
      refine lv_topl (fun v75 ev75 => ?_)
      refine lv_lstore (lv' := [(12, .long (v75)), (10, .long (v35)), (8, .long (v26)), (0, .long (p0)), (2, .long (p1)), (4, .long (p2))]) hx hb d_N_firstFrom_75 hl (by decide) rfl (fun ls hl => ?_)
      exact K75v v75 (Eq.trans (hj.trans (by unfold f_N_firstFrom_35v; first | with_reducible exact if_pos e1_60 | exact if_pos e1_60)) (congrArg (fun v75 => f_N_firstFrom_75v p0 p1 p2 v75) ev75.symm)) ls (lv_sub hl [0, 3, 4] rfl)
    · refine lv_lload_n hx hb d_N_firstFrom_46 rfl (lv_at hl 2 rfl) ?_
      refine lv_lload hx hb d_N_firstFrom_47 (lv_at hl 1 rfl) ?_
      refine lv_ldc2 (v := -1) hx hb hown (hG (.constantLong R_N 17 (-1)) gw129) d_N_firstFrom_49 ?_
      refine lv_lxor hx hb d_N_firstFrom_52 ?_
      refine lv_land hx hb d_N_firstFrom_53 ?_
      refine lv_lload_n hx hb d_N_firstFrom_54 rfl (lv_at hl 3 rfl) ?_
      refine lv_lload hx hb d_N_firstFrom_55 (lv_at hl 1 rfl) ?_
      refine lv_land hx hb d_N_firstFrom_57 ?_
      refine lv_lor hx hb d_N_firstFrom_58 ?_
      have fe : f_N_firstFrom p0 p1 p2 = (p0 &&& (v26 ^^^ (-1 : Int64))) ||| (p1 &&& v26) := hj.trans (by unfold f_N_firstFrom_35v; first | with_reducible exact if_neg e1_60 | exact if_neg e1_60)
      exact W.lret (v := (p0 &&& (v26 ^^^ (-1 : Int64))) ||| (p1 &&& v26)) hx hb hr (fun t ht hW => ⟨_, rfl, fe.symm, ht⟩) t_nil d_N_firstFrom_59
  have K26v : ∀ (v26 : Int64) (hj : f_N_firstFrom p0 p1 p2 = f_N_firstFrom_26v p0 p1 p2 v26) (ls : Array Slot) (hl : lv_has ls 16 [(8, .long (v26)), (0, .long (p0)), (2, .long (p1)), (4, .long (p2))]), W p l e (headSpec w_N_firstFrom ({ frames := 1, cells := 0, slots := 0, locals := 23 } : Room)).room s m ([.long (p0), .long (p1), .long (p2)] : List Value).toArray below meth c s.heap [] 0 0 (MQ below (vp_Sl (fun r => r = f_N_firstFrom p0 p1 p2)) ([.long (p0), .long (p1), .long (p2)] : List Value).toArray s 0 0 (fun _ => False)) (F0 m 28 ls []) := by
    intro v26 hj ls hl
    refine lv_lload hx hb d_N_firstFrom_28 (lv_at hl 0 rfl) ?_
    refine lv_lload hx hb d_N_firstFrom_30 (lv_at hl 0 rfl) ?_
    refine lv_iconst (v := 1) hx hb d_N_firstFrom_32 (by decide) ?_
    refine lv_lushr (v := (v26.toUInt64 >>> ((1 : Int32).toInt64.toUInt64 &&& Int64.toUInt64 63)).toInt64) hx hb d_N_firstFrom_33 rfl ?_
    refine lv_lxor hx hb d_N_firstFrom_34 ?_
    refine lv_topl (fun v35 ev35 => ?_)
    refine lv_lstore (lv' := [(10, .long (v35)), (8, .long (v26)), (0, .long (p0)), (2, .long (p1)), (4, .long (p2))]) hx hb d_N_firstFrom_35 hl (by decide) rfl (fun ls hl => ?_)
    exact K35v v35 v26 (Eq.trans (hj.trans rfl) (congrArg (fun v35 => f_N_firstFrom_35v p0 p1 p2 v35 v26) ev35.symm)) ls (lv_sub hl [0, 1, 2, 3, 4] rfl)
  have K10v : ∀ (v10 : Int64) (hj : f_N_firstFrom p0 p1 p2 = f_N_firstFrom_10v p0 p1 p2 v10) (ls : Array Slot) (hl : lv_has ls 16 [(6, .long (v10)), (0, .long (p0)), (2, .long (p1)), (4, .long (p2))]), W p l e (headSpec w_N_firstFrom ({ frames := 1, cells := 0, slots := 0, locals := 23 } : Room)).room s m ([.long (p0), .long (p1), .long (p2)] : List Value).toArray below meth c s.heap [] 0 0 (MQ below (vp_Sl (fun r => r = f_N_firstFrom p0 p1 p2)) ([.long (p0), .long (p1), .long (p2)] : List Value).toArray s 0 0 (fun _ => False)) (F0 m 12 ls []) := by
    intro v10 hj ls hl
    refine lv_lload hx hb d_N_firstFrom_12 (lv_at hl 0 rfl) ?_
    refine lv_lconst (v := 0) hx hb d_N_firstFrom_14 (by decide) ?_
    refine wl_ne (tgt := 21) hx hb d_N_firstFrom_15 d_N_firstFrom_16 (by decide) (fun e1_21 => ?_) (fun e1_21 => ?_)
    · refine lv_lload hx hb d_N_firstFrom_21 (lv_at hl 0 rfl) ?_
      refine rc_l (W.runS (As := [.long (v10)]) (rest := []) ⟨hx, hb, hml, hown, hts⟩ (c_N_upToHighest l v10) (va_cwS 1 hts (gS gw130 gw131 gw2 gw132) rfl rfl rfl (by decide +kernel) ⟨(Nat.le_of_ble_eq_true rfl), (Nat.le_of_ble_eq_true rfl)⟩) ⟨bl0, fun U hU hW => ⟨rfl, trivial⟩⟩ rfl rfl hl.1 rfl (lv_room (Nat.le_of_ble_eq_true rfl)) d_N_firstFrom_23 ⟨Nat.zero_le _, Nat.zero_le _⟩) ?_
      refine lv_topl (fun v26 ev26 => ?_)
      refine lv_lstore (lv' := [(8, .long (v26)), (6, .long (v10)), (0, .long (p0)), (2, .long (p1)), (4, .long (p2))]) hx hb d_N_firstFrom_26 hl (by decide) rfl (fun ls hl => ?_)
      exact K26v v26 (Eq.trans (hj.trans (by unfold f_N_firstFrom_10v; first | with_reducible exact if_neg e1_21 | exact if_neg e1_21)) (congrArg (fun v26 => f_N_firstFrom_26v p0 p1 p2 v26) ev26.symm)) ls (lv_sub hl [0, 2, 3, 4] rfl)
    · refine lv_lload_n hx hb d_N_firstFrom_19 rfl (lv_at hl 1 rfl) ?_
      have fe : f_N_firstFrom p0 p1 p2 = p0 := hj.trans (by unfold f_N_firstFrom_10v; first | with_reducible exact if_pos e1_21 | exact if_pos e1_21)
      exact W.lret (v := p0) hx hb hr (fun t ht hW => ⟨_, rfl, fe.symm, ht⟩) t_nil d_N_firstFrom_20
  refine lv_lload_n hx hb d_N_firstFrom_0 rfl (lv_at hl 0 rfl) ?_
  refine lv_lload_n hx hb d_N_firstFrom_1 rfl (lv_at hl 1 rfl) ?_
  refine lv_lxor hx hb d_N_firstFrom_2 ?_
  refine lv_lload hx hb d_N_firstFrom_3 (lv_at hl 2 rfl) ?_
  refine lv_ldc2 (v := -1) hx hb hown (hG (.constantLong R_N 17 (-1)) gw129) d_N_firstFrom_5 ?_
  refine lv_lxor hx hb d_N_firstFrom_8 ?_
  refine lv_land hx hb d_N_firstFrom_9 ?_
  refine lv_topl (fun v10 ev10 => ?_)
  refine lv_lstore (lv' := [(6, .long (v10)), (0, .long (p0)), (2, .long (p1)), (4, .long (p2))]) hx hb d_N_firstFrom_10 hl (by decide) rfl (fun ls hl => ?_)
  exact K10v v10 (Eq.trans (rfl) (congrArg (fun v10 => f_N_firstFrom_10v p0 p1 p2 v10) ev10.symm)) ls (lv_sub hl [0, 1, 2, 3] rfl)
-- ValueSieve$Numbers.trimmed
theorem d_N_trimmed_0 : decode b_N_trimmed 0 = .ok (.lload_n 0, 1) := by decide +kernel
theorem d_N_trimmed_1 : decode b_N_trimmed 1 = .ok (.iload_n 2, 1) := by decide +kernel
theorem d_N_trimmed_2 : decode b_N_trimmed 2 = .ok (.invokestatic 31, 3) := by decide +kernel
theorem d_N_trimmed_5 : decode b_N_trimmed 5 = .ok (.land, 1) := by decide +kernel
theorem d_N_trimmed_6 : decode b_N_trimmed 6 = .ok (.lreturn, 1) := by decide +kernel
def f_N_trimmed (p0 : Int64) (p1 : Int32) : Int64 := (p0 &&& (f_N_lowest p1))
set_option maxRecDepth 100000 in
set_option maxHeartbeats 4000000 in
theorem c_N_trimmed (l : Launch) (p0 : Int64) (p1 : Int32) : Met l y_N_trimmed w_N_trimmed ({ frames := 1, cells := 0, slots := 0, locals := 20 } : Room) (va_Pc [.long (p0), .int (p1)] (fun _ => True)) (vp_Sl (fun r => r = f_N_trimmed p0 p1)) 0 0 (fun _ => False) := by
  refine Met.ofW (cc := b_N_trimmed) (maxL := 3) (ret := (some .long)) (by decide) rfl ?_
  intro p e s m args below meth c s₁ B hml hv
  obtain ⟨rfl, -⟩ := hv
  have hx := B.exec
  have hb := B.bytes
  have hr := B.returns
  have hts := atoms_spec (ws := w_N_trimmed) B.pre
  have hG : ∀ w ∈ gG, w.before _ s = true := fun w h => hts w (List.mem_cons_of_mem _ h)
  have hown : s.vm.findClass R_N = some m.cls := findClass_of_methodNamed B.named
  have hlocks := B.notSynchronized
  have hl := lv_entry ([.long (p0), .int (p1)]) (n := 3) (Nat.le_of_ble_eq_true rfl)
  rw [lg_entry_eq]
  generalize (lg_sl ([.long (p0), .int (p1)]) ++ List.replicate (3 - (lg_sl ([.long (p0), .int (p1)])).length) Slot.unset).toArray = ls at hl ⊢
  have hl : lv_has ls 3 [(0, .long (p0)), (2, .int (p1))] := hl
  refine lv_lload_n hx hb d_N_trimmed_0 rfl (lv_at hl 0 rfl) ?_
  refine lv_iload_n hx hb d_N_trimmed_1 rfl (lv_at hl 1 rfl) ?_
  refine rc_l (W.runS (As := [.int (p1)]) (rest := [.long (p0)]) ⟨hx, hb, hml, hown, hts⟩ (c_N_lowest l p1) (va_cwS 1 hts (gS gw167 gw168 gw2 gw169) rfl rfl rfl (by decide +kernel) ⟨(Nat.le_of_ble_eq_true rfl), (Nat.le_of_ble_eq_true rfl)⟩) ⟨bl0, fun U hU hW => ⟨rfl, trivial⟩⟩ rfl rfl hl.1 rfl (lv_room (Nat.le_of_ble_eq_true rfl)) d_N_trimmed_2 ⟨Nat.zero_le _, Nat.zero_le _⟩) ?_
  refine lv_land hx hb d_N_trimmed_5 ?_
  have fe : f_N_trimmed p0 p1 = p0 &&& (f_N_lowest p1) := rfl
  exact W.lret (v := p0 &&& (f_N_lowest p1)) hx hb hr (fun t ht hW => ⟨_, rfl, fe.symm, ht⟩) t_nil d_N_trimmed_6
-- ValueSieve$Numbers.extended
theorem d_N_extended_0 : decode b_N_extended 0 = .ok (.iload_n 2, 1) := by decide +kernel
theorem d_N_extended_1 : decode b_N_extended 1 = .ok (.bipush 64, 2) := by decide +kernel
theorem d_N_extended_3 : decode b_N_extended 3 = .ok (.if_icmp .lt 7, 3) := by decide +kernel
theorem d_N_extended_6 : decode b_N_extended 6 = .ok (.iconst 0, 1) := by decide +kernel
theorem d_N_extended_7 : decode b_N_extended 7 = .ok (.goto 7, 3) := by decide +kernel
theorem d_N_extended_10 : decode b_N_extended 10 = .ok (.bipush 64, 2) := by decide +kernel
theorem d_N_extended_12 : decode b_N_extended 12 = .ok (.iload_n 2, 1) := by decide +kernel
theorem d_N_extended_13 : decode b_N_extended 13 = .ok (.isub, 1) := by decide +kernel
theorem d_N_extended_14 : decode b_N_extended 14 = .ok (.istore_n 3, 1) := by decide +kernel
theorem d_N_extended_15 : decode b_N_extended 15 = .ok (.lload_n 0, 1) := by decide +kernel
theorem d_N_extended_16 : decode b_N_extended 16 = .ok (.iload_n 3, 1) := by decide +kernel
theorem d_N_extended_17 : decode b_N_extended 17 = .ok (.lshl, 1) := by decide +kernel
theorem d_N_extended_18 : decode b_N_extended 18 = .ok (.iload_n 3, 1) := by decide +kernel
theorem d_N_extended_19 : decode b_N_extended 19 = .ok (.lshr, 1) := by decide +kernel
theorem d_N_extended_20 : decode b_N_extended 20 = .ok (.lreturn, 1) := by decide +kernel
def f_N_extended_14 (p0 : Int64) (p1 : Int32) (s14_0 : Int32) : Int64 := ((p0 <<< (s14_0.toInt64 &&& 63)) >>> (s14_0.toInt64 &&& 63))
def f_N_extended (p0 : Int64) (p1 : Int32) : Int64 := (if p1 < 64 then f_N_extended_14 p0 p1 ((64 : Int32) - p1) else f_N_extended_14 p0 p1 0)
set_option maxRecDepth 100000 in
set_option maxHeartbeats 4000000 in
theorem c_N_extended (l : Launch) (p0 : Int64) (p1 : Int32) : Met l y_N_extended w_N_extended ({ frames := 0, cells := 0, slots := 0, locals := 0 } : Room) (va_Pc [.long (p0), .int (p1)] (fun _ => True)) (vp_Sl (fun r => r = f_N_extended p0 p1)) 0 0 (fun _ => False) := by
  refine Met.ofW (cc := b_N_extended) (maxL := 4) (ret := (some .long)) (by decide) rfl ?_
  intro p e s m args below meth c s₁ B hml hv
  obtain ⟨rfl, -⟩ := hv
  have hx := B.exec
  have hb := B.bytes
  have hr := B.returns
  have hts := atoms_spec (ws := w_N_extended) B.pre
  have hG : ∀ w ∈ gG, w.before _ s = true := fun w h => hts w (List.mem_cons_of_mem _ h)
  have hown : s.vm.findClass R_N = some m.cls := findClass_of_methodNamed B.named
  have hlocks := B.notSynchronized
  have hl := lv_entry ([.long (p0), .int (p1)]) (n := 4) (Nat.le_of_ble_eq_true rfl)
  rw [lg_entry_eq]
  generalize (lg_sl ([.long (p0), .int (p1)]) ++ List.replicate (4 - (lg_sl ([.long (p0), .int (p1)])).length) Slot.unset).toArray = ls at hl ⊢
  have hl : lv_has ls 4 [(0, .long (p0)), (2, .int (p1))] := hl
  have K14 : ∀ (s14_0 : Int32) (hj : f_N_extended p0 p1 = f_N_extended_14 p0 p1 s14_0) (ls : Array Slot) (hl : lv_has ls 4 [(0, .long (p0))]), W p l e (headSpec w_N_extended ({ frames := 0, cells := 0, slots := 0, locals := 0 } : Room)).room s m ([.long (p0), .int (p1)] : List Value).toArray below meth c s.heap [] 0 0 (MQ below (vp_Sl (fun r => r = f_N_extended p0 p1)) ([.long (p0), .int (p1)] : List Value).toArray s 0 0 (fun _ => False)) (F0 m 14 ls [.int (s14_0)]) := by
    intro s14_0 hj ls hl
    refine lv_istore_n (lv' := [(3, .int (s14_0)), (0, .long (p0))]) hx hb d_N_extended_14 rfl hl (by decide) rfl (fun ls hl => ?_)
    refine lv_lload_n hx hb d_N_extended_15 rfl (lv_at hl 1 rfl) ?_
    refine lv_iload_n hx hb d_N_extended_16 rfl (lv_at hl 0 rfl) ?_
    refine lv_lshl (v := p0 <<< (s14_0.toInt64 &&& 63)) hx hb d_N_extended_17 rfl ?_
    refine lv_iload_n hx hb d_N_extended_18 rfl (lv_at hl 0 rfl) ?_
    refine lv_lshr (v := (p0 <<< (s14_0.toInt64 &&& 63)) >>> (s14_0.toInt64 &&& 63)) hx hb d_N_extended_19 rfl ?_
    have fe : f_N_extended p0 p1 = (p0 <<< (s14_0.toInt64 &&& 63)) >>> (s14_0.toInt64 &&& 63) := hj.trans rfl
    exact W.lret (v := (p0 <<< (s14_0.toInt64 &&& 63)) >>> (s14_0.toInt64 &&& 63)) hx hb hr (fun t ht hW => ⟨_, rfl, fe.symm, ht⟩) t_nil d_N_extended_20
  refine lv_iload_n hx hb d_N_extended_0 rfl (lv_at hl 1 rfl) ?_
  refine lv_bipush (v := 64) hx hb d_N_extended_1 (by decide) ?_
  refine lv_icmp_lt (tgt := 10) hx hb d_N_extended_3 (by decide) (fun e1_10 => ?_) (fun e1_10 => ?_)
  · refine lv_bipush (v := 64) hx hb d_N_extended_10 (by decide) ?_
    refine lv_iload_n hx hb d_N_extended_12 rfl (lv_at hl 1 rfl) ?_
    refine lv_isub hx hb d_N_extended_13 ?_
    exact K14 ((64 : Int32) - p1) (by unfold f_N_extended; first | with_reducible exact if_pos e1_10 | exact if_pos e1_10) ls (lv_sub hl [0] rfl)
  · refine lv_iconst (v := 0) hx hb d_N_extended_6 (by decide) ?_
    refine lv_goto (tgt := 14) hx hb d_N_extended_7 (by decide) ?_
    exact K14 0 (by unfold f_N_extended; first | with_reducible exact if_neg e1_10 | exact if_neg e1_10) ls (lv_sub hl [0] rfl)
