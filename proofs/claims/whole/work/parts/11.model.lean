-- below
theorem d_M_below_0 : decode b_M_below 0 = .ok (.lload_n 0, 1) := by decide +kernel
theorem d_M_below_1 : decode b_M_below 1 = .ok (.lconst 0, 1) := by decide +kernel
theorem d_M_below_2 : decode b_M_below 2 = .ok (.lcmp, 1) := by decide +kernel
theorem d_M_below_3 : decode b_M_below 3 = .ok (.ifCond .lt 7, 3) := by decide +kernel
theorem d_M_below_6 : decode b_M_below 6 = .ok (.iconst 1, 1) := by decide +kernel
theorem d_M_below_7 : decode b_M_below 7 = .ok (.goto 4, 3) := by decide +kernel
theorem d_M_below_10 : decode b_M_below 10 = .ok (.iconst 0, 1) := by decide +kernel
theorem d_M_below_11 : decode b_M_below 11 = .ok (.lload_n 2, 1) := by decide +kernel
theorem d_M_below_12 : decode b_M_below 12 = .ok (.lconst 0, 1) := by decide +kernel
theorem d_M_below_13 : decode b_M_below 13 = .ok (.lcmp, 1) := by decide +kernel
theorem d_M_below_14 : decode b_M_below 14 = .ok (.ifCond .lt 7, 3) := by decide +kernel
theorem d_M_below_17 : decode b_M_below 17 = .ok (.iconst 1, 1) := by decide +kernel
theorem d_M_below_18 : decode b_M_below 18 = .ok (.goto 4, 3) := by decide +kernel
theorem d_M_below_21 : decode b_M_below 21 = .ok (.iconst 0, 1) := by decide +kernel
theorem d_M_below_22 : decode b_M_below 22 = .ok (.if_icmp .ne 17, 3) := by decide +kernel
theorem d_M_below_25 : decode b_M_below 25 = .ok (.lload_n 0, 1) := by decide +kernel
theorem d_M_below_26 : decode b_M_below 26 = .ok (.lload_n 2, 1) := by decide +kernel
theorem d_M_below_27 : decode b_M_below 27 = .ok (.lcmp, 1) := by decide +kernel
theorem d_M_below_28 : decode b_M_below 28 = .ok (.ifCond .ge 7, 3) := by decide +kernel
theorem d_M_below_31 : decode b_M_below 31 = .ok (.iconst 1, 1) := by decide +kernel
theorem d_M_below_32 : decode b_M_below 32 = .ok (.goto 18, 3) := by decide +kernel
theorem d_M_below_35 : decode b_M_below 35 = .ok (.iconst 0, 1) := by decide +kernel
theorem d_M_below_36 : decode b_M_below 36 = .ok (.goto 14, 3) := by decide +kernel
theorem d_M_below_39 : decode b_M_below 39 = .ok (.lload_n 0, 1) := by decide +kernel
theorem d_M_below_40 : decode b_M_below 40 = .ok (.lconst 0, 1) := by decide +kernel
theorem d_M_below_41 : decode b_M_below 41 = .ok (.lcmp, 1) := by decide +kernel
theorem d_M_below_42 : decode b_M_below 42 = .ok (.ifCond .lt 7, 3) := by decide +kernel
theorem d_M_below_45 : decode b_M_below 45 = .ok (.iconst 1, 1) := by decide +kernel
theorem d_M_below_46 : decode b_M_below 46 = .ok (.goto 4, 3) := by decide +kernel
theorem d_M_below_49 : decode b_M_below 49 = .ok (.iconst 0, 1) := by decide +kernel
theorem d_M_below_50 : decode b_M_below 50 = .ok (.ireturn, 1) := by decide +kernel
def f_M_below_22 (p1 : Int64) (p2 : Int64) (s22_0 : Bool) (s22_1 : Bool) : Bool := (if (bI s22_1) = (bI s22_0) then (if p1 < p2 then true else false) else (if p1 < 0 then false else true))
def f_M_below_11 (p1 : Int64) (p2 : Int64) (s11_0 : Bool) : Bool := (if p2 < 0 then f_M_below_22 p1 p2 false s11_0 else f_M_below_22 p1 p2 true s11_0)
def f_M_below (p1 : Int64) (p2 : Int64) : Bool := (if p1 < 0 then f_M_below_11 p1 p2 false else f_M_below_11 p1 p2 true)
set_option maxRecDepth 100000 in
set_option maxHeartbeats 4000000 in
theorem c_M_below (l : Launch) (p1 : Int64) (p2 : Int64) : Met l y_M_below w_M_below ({ frames := 0, cells := 0, slots := 0, locals := 0 } : Room) (va_Pc [.long (p1), .long (p2)] (fun _ => True)) (vp_Si (fun r => r = bI (f_M_below p1 p2))) 0 0 (fun _ => False) := by
  refine Met.ofW (cc := b_M_below) (maxL := 4) (ret := (some .boolean)) (by decide) rfl ?_
  intro p e s m args below meth c s₁ B hml hv
  obtain ⟨rfl, -⟩ := hv
  have hx := B.exec
  have hb := B.bytes
  have hr := B.returns
  have hts := atoms_spec (ws := w_M_below) B.pre
  have hG : ∀ w ∈ gM, w.before _ s = true := fun w h => hts w (List.mem_cons_of_mem _ h)
  have hown : s.vm.findClass R_M = some m.cls := findClass_of_methodNamed B.named
  have hlocks := B.notSynchronized
  have hl := lv_entry ([.long (p1), .long (p2)]) (n := 4) (Nat.le_of_ble_eq_true rfl)
  rw [lg_entry_eq]
  generalize (lg_sl ([.long (p1), .long (p2)]) ++ List.replicate (4 - (lg_sl ([.long (p1), .long (p2)])).length) Slot.unset).toArray = ls at hl ⊢
  have hl : lv_has ls 4 [(0, .long (p1)), (2, .long (p2))] := hl
  have K22 : ∀ (s22_0 : Bool) (s22_1 : Bool) (hj : f_M_below p1 p2 = f_M_below_22 p1 p2 s22_0 s22_1) (ls : Array Slot) (hl : lv_has ls 4 [(0, .long (p1)), (2, .long (p2))]), W p l e (headSpec w_M_below ({ frames := 0, cells := 0, slots := 0, locals := 0 } : Room)).room s m ([.long (p1), .long (p2)] : List Value).toArray below meth c s.heap [] 0 0 (MQ below (vp_Si (fun r => r = bI (f_M_below p1 p2))) ([.long (p1), .long (p2)] : List Value).toArray s 0 0 (fun _ => False)) (F0 m 22 ls [.int (bI s22_0), .int (bI s22_1)]) := by
    intro s22_0 s22_1 hj ls hl
    refine lv_icmp_ne (tgt := 39) hx hb d_M_below_22 (by decide) (fun e1_39 => ?_) (fun e1_39 => ?_)
    · refine lv_lload_n hx hb d_M_below_39 rfl (lv_at hl 0 rfl) ?_
      refine lv_lconst (v := 0) hx hb d_M_below_40 (by decide) ?_
      refine wl_lt (tgt := 49) hx hb d_M_below_41 d_M_below_42 (by decide) (fun e2_49 => ?_) (fun e2_49 => ?_)
      · refine lv_iconst (v := 0) hx hb d_M_below_49 (by decide) ?_
        have fe : f_M_below p1 p2 = false := hj.trans (by unfold f_M_below_22; first | with_reducible exact (if_neg e1_39).trans (if_pos e2_49) | exact (if_neg e1_39).trans (if_pos e2_49))
        exact W.zret (v := bI false) hx hb hr (bI_n false) (fun t ht hW => ⟨_, rfl, by rw [fe], ht⟩) t_nil d_M_below_50
      · refine lv_iconst (v := 1) hx hb d_M_below_45 (by decide) ?_
        refine lv_goto (tgt := 50) hx hb d_M_below_46 (by decide) ?_
        have fe : f_M_below p1 p2 = true := hj.trans (by unfold f_M_below_22; first | with_reducible exact (if_neg e1_39).trans (if_neg e2_49) | exact (if_neg e1_39).trans (if_neg e2_49))
        exact W.zret (v := bI true) hx hb hr (bI_n true) (fun t ht hW => ⟨_, rfl, by rw [fe], ht⟩) t_nil d_M_below_50
    · refine lv_lload_n hx hb d_M_below_25 rfl (lv_at hl 0 rfl) ?_
      refine lv_lload_n hx hb d_M_below_26 rfl (lv_at hl 1 rfl) ?_
      refine wl_ge (tgt := 35) hx hb d_M_below_27 d_M_below_28 (by decide) (fun e3_35 => ?_) (fun e3_35 => ?_)
      · refine lv_iconst (v := 0) hx hb d_M_below_35 (by decide) ?_
        refine lv_goto (tgt := 50) hx hb d_M_below_36 (by decide) ?_
        have fe : f_M_below p1 p2 = false := hj.trans (by unfold f_M_below_22; first | with_reducible exact (if_pos e1_39).trans (if_neg e3_35) | exact (if_pos e1_39).trans (if_neg e3_35))
        exact W.zret (v := bI false) hx hb hr (bI_n false) (fun t ht hW => ⟨_, rfl, by rw [fe], ht⟩) t_nil d_M_below_50
      · refine lv_iconst (v := 1) hx hb d_M_below_31 (by decide) ?_
        refine lv_goto (tgt := 50) hx hb d_M_below_32 (by decide) ?_
        have fe : f_M_below p1 p2 = true := hj.trans (by unfold f_M_below_22; first | with_reducible exact (if_pos e1_39).trans (if_pos e3_35) | exact (if_pos e1_39).trans (if_pos e3_35))
        exact W.zret (v := bI true) hx hb hr (bI_n true) (fun t ht hW => ⟨_, rfl, by rw [fe], ht⟩) t_nil d_M_below_50
  have K11 : ∀ (s11_0 : Bool) (hj : f_M_below p1 p2 = f_M_below_11 p1 p2 s11_0) (ls : Array Slot) (hl : lv_has ls 4 [(0, .long (p1)), (2, .long (p2))]), W p l e (headSpec w_M_below ({ frames := 0, cells := 0, slots := 0, locals := 0 } : Room)).room s m ([.long (p1), .long (p2)] : List Value).toArray below meth c s.heap [] 0 0 (MQ below (vp_Si (fun r => r = bI (f_M_below p1 p2))) ([.long (p1), .long (p2)] : List Value).toArray s 0 0 (fun _ => False)) (F0 m 11 ls [.int (bI s11_0)]) := by
    intro s11_0 hj ls hl
    refine lv_lload_n hx hb d_M_below_11 rfl (lv_at hl 1 rfl) ?_
    refine lv_lconst (v := 0) hx hb d_M_below_12 (by decide) ?_
    refine wl_lt (tgt := 21) hx hb d_M_below_13 d_M_below_14 (by decide) (fun e1_21 => ?_) (fun e1_21 => ?_)
    · refine lv_iconst (v := 0) hx hb d_M_below_21 (by decide) ?_
      exact K22 false s11_0 (hj.trans (by unfold f_M_below_11; first | with_reducible exact if_pos e1_21 | exact if_pos e1_21)) ls (lv_sub hl [0, 1] rfl)
    · refine lv_iconst (v := 1) hx hb d_M_below_17 (by decide) ?_
      refine lv_goto (tgt := 22) hx hb d_M_below_18 (by decide) ?_
      exact K22 true s11_0 (hj.trans (by unfold f_M_below_11; first | with_reducible exact if_neg e1_21 | exact if_neg e1_21)) ls (lv_sub hl [0, 1] rfl)
  refine lv_lload_n hx hb d_M_below_0 rfl (lv_at hl 0 rfl) ?_
  refine lv_lconst (v := 0) hx hb d_M_below_1 (by decide) ?_
  refine wl_lt (tgt := 10) hx hb d_M_below_2 d_M_below_3 (by decide) (fun e1_10 => ?_) (fun e1_10 => ?_)
  · refine lv_iconst (v := 0) hx hb d_M_below_10 (by decide) ?_
    exact K11 false (by unfold f_M_below; first | with_reducible exact if_pos e1_10 | exact if_pos e1_10) ls (lv_sub hl [0, 1] rfl)
  · refine lv_iconst (v := 1) hx hb d_M_below_6 (by decide) ?_
    refine lv_goto (tgt := 11) hx hb d_M_below_7 (by decide) ?_
    exact K11 true (by unfold f_M_below; first | with_reducible exact if_neg e1_10 | exact if_neg e1_10) ls (lv_sub hl [0, 1] rfl)
-- lesser
theorem d_M_lesser_0 : decode b_M_lesser 0 = .ok (.lload_n 0, 1) := by decide +kernel
theorem d_M_lesser_1 : decode b_M_lesser 1 = .ok (.lload_n 2, 1) := by decide +kernel
theorem d_M_lesser_2 : decode b_M_lesser 2 = .ok (.invokestatic 39, 3) := by decide +kernel
theorem d_M_lesser_5 : decode b_M_lesser 5 = .ok (.ifCond .eq 7, 3) := by decide +kernel
theorem d_M_lesser_8 : decode b_M_lesser 8 = .ok (.lload_n 0, 1) := by decide +kernel
theorem d_M_lesser_9 : decode b_M_lesser 9 = .ok (.goto 4, 3) := by decide +kernel
theorem d_M_lesser_12 : decode b_M_lesser 12 = .ok (.lload_n 2, 1) := by decide +kernel
theorem d_M_lesser_13 : decode b_M_lesser 13 = .ok (.lreturn, 1) := by decide +kernel
def f_M_lesser (p1 : Int64) (p2 : Int64) : Int64 := (if (f_M_below p1 p2) = true then p1 else p2)
set_option maxRecDepth 100000 in
set_option maxHeartbeats 4000000 in
theorem c_M_lesser (l : Launch) (p1 : Int64) (p2 : Int64) : Met l y_M_lesser w_M_lesser ({ frames := 1, cells := 0, slots := 0, locals := 23 } : Room) (va_Pc [.long (p1), .long (p2)] (fun _ => True)) (vp_Sl (fun r => r = (f_M_lesser p1 p2))) 0 0 (fun _ => False) := by
  refine Met.ofW (cc := b_M_lesser) (maxL := 4) (ret := (some .long)) (by decide) rfl ?_
  intro p e s m args below meth c s₁ B hml hv
  obtain ⟨rfl, -⟩ := hv
  have hx := B.exec
  have hb := B.bytes
  have hr := B.returns
  have hts := atoms_spec (ws := w_M_lesser) B.pre
  have hG : ∀ w ∈ gM, w.before _ s = true := fun w h => hts w (List.mem_cons_of_mem _ h)
  have hown : s.vm.findClass R_M = some m.cls := findClass_of_methodNamed B.named
  have hlocks := B.notSynchronized
  have hl := lv_entry ([.long (p1), .long (p2)]) (n := 4) (Nat.le_of_ble_eq_true rfl)
  rw [lg_entry_eq]
  generalize (lg_sl ([.long (p1), .long (p2)]) ++ List.replicate (4 - (lg_sl ([.long (p1), .long (p2)])).length) Slot.unset).toArray = ls at hl ⊢
  have hl : lv_has ls 4 [(0, .long (p1)), (2, .long (p2))] := hl
  refine lv_lload_n hx hb d_M_lesser_0 rfl (lv_at hl 0 rfl) ?_
  refine lv_lload_n hx hb d_M_lesser_1 rfl (lv_at hl 1 rfl) ?_
  refine rc_i (W.runS (As := [.long (p1), .long (p2)]) (rest := []) ⟨hx, hb, hml, hown, hts⟩ (c_M_below l p1 p2) (va_cwS 2 hts (gxS gx57 gx58 gx0 gx59) rfl rfl rfl (by decide +kernel) ⟨(Nat.le_of_ble_eq_true rfl), (Nat.le_of_ble_eq_true rfl)⟩) ⟨bl0, fun U hU hW => ⟨rfl, trivial⟩⟩ rfl rfl hl.1 rfl (lv_room (Nat.le_of_ble_eq_true rfl)) d_M_lesser_2 ⟨Nat.zero_le _, Nat.zero_le _⟩) ?_
  refine wz_eq (tgt := 12) hx hb d_M_lesser_5 (by decide) (fun e1_12 => ?_) (fun e1_12 => ?_)
  · refine lv_lload_n hx hb d_M_lesser_12 rfl (lv_at hl 1 rfl) ?_
    have fe : f_M_lesser p1 p2 = p2 := by unfold f_M_lesser; first | with_reducible exact if_neg e1_12 | exact if_neg e1_12
    exact W.lret (v := p2) hx hb hr (fun t ht hW => ⟨_, rfl, by rw [fe], ht⟩) t_nil d_M_lesser_13
  · refine lv_lload_n hx hb d_M_lesser_8 rfl (lv_at hl 0 rfl) ?_
    refine lv_goto (tgt := 13) hx hb d_M_lesser_9 (by decide) ?_
    have fe : f_M_lesser p1 p2 = p1 := by unfold f_M_lesser; first | with_reducible exact if_pos e1_12 | exact if_pos e1_12
    exact W.lret (v := p1) hx hb hr (fun t ht hW => ⟨_, rfl, by rw [fe], ht⟩) t_nil d_M_lesser_13
-- larger
theorem d_M_larger_0 : decode b_M_larger 0 = .ok (.lload_n 0, 1) := by decide +kernel
theorem d_M_larger_1 : decode b_M_larger 1 = .ok (.lload_n 2, 1) := by decide +kernel
theorem d_M_larger_2 : decode b_M_larger 2 = .ok (.invokestatic 39, 3) := by decide +kernel
theorem d_M_larger_5 : decode b_M_larger 5 = .ok (.ifCond .eq 7, 3) := by decide +kernel
theorem d_M_larger_8 : decode b_M_larger 8 = .ok (.lload_n 2, 1) := by decide +kernel
theorem d_M_larger_9 : decode b_M_larger 9 = .ok (.goto 4, 3) := by decide +kernel
theorem d_M_larger_12 : decode b_M_larger 12 = .ok (.lload_n 0, 1) := by decide +kernel
theorem d_M_larger_13 : decode b_M_larger 13 = .ok (.lreturn, 1) := by decide +kernel
def f_M_larger (p1 : Int64) (p2 : Int64) : Int64 := (if (f_M_below p1 p2) = true then p2 else p1)
set_option maxRecDepth 100000 in
set_option maxHeartbeats 4000000 in
theorem c_M_larger (l : Launch) (p1 : Int64) (p2 : Int64) : Met l y_M_larger w_M_larger ({ frames := 1, cells := 0, slots := 0, locals := 23 } : Room) (va_Pc [.long (p1), .long (p2)] (fun _ => True)) (vp_Sl (fun r => r = (f_M_larger p1 p2))) 0 0 (fun _ => False) := by
  refine Met.ofW (cc := b_M_larger) (maxL := 4) (ret := (some .long)) (by decide) rfl ?_
  intro p e s m args below meth c s₁ B hml hv
  obtain ⟨rfl, -⟩ := hv
  have hx := B.exec
  have hb := B.bytes
  have hr := B.returns
  have hts := atoms_spec (ws := w_M_larger) B.pre
  have hG : ∀ w ∈ gM, w.before _ s = true := fun w h => hts w (List.mem_cons_of_mem _ h)
  have hown : s.vm.findClass R_M = some m.cls := findClass_of_methodNamed B.named
  have hlocks := B.notSynchronized
  have hl := lv_entry ([.long (p1), .long (p2)]) (n := 4) (Nat.le_of_ble_eq_true rfl)
  rw [lg_entry_eq]
  generalize (lg_sl ([.long (p1), .long (p2)]) ++ List.replicate (4 - (lg_sl ([.long (p1), .long (p2)])).length) Slot.unset).toArray = ls at hl ⊢
  have hl : lv_has ls 4 [(0, .long (p1)), (2, .long (p2))] := hl
  refine lv_lload_n hx hb d_M_larger_0 rfl (lv_at hl 0 rfl) ?_
  refine lv_lload_n hx hb d_M_larger_1 rfl (lv_at hl 1 rfl) ?_
  refine rc_i (W.runS (As := [.long (p1), .long (p2)]) (rest := []) ⟨hx, hb, hml, hown, hts⟩ (c_M_below l p1 p2) (va_cwS 2 hts (gxS gx57 gx58 gx0 gx59) rfl rfl rfl (by decide +kernel) ⟨(Nat.le_of_ble_eq_true rfl), (Nat.le_of_ble_eq_true rfl)⟩) ⟨bl0, fun U hU hW => ⟨rfl, trivial⟩⟩ rfl rfl hl.1 rfl (lv_room (Nat.le_of_ble_eq_true rfl)) d_M_larger_2 ⟨Nat.zero_le _, Nat.zero_le _⟩) ?_
  refine wz_eq (tgt := 12) hx hb d_M_larger_5 (by decide) (fun e1_12 => ?_) (fun e1_12 => ?_)
  · refine lv_lload_n hx hb d_M_larger_12 rfl (lv_at hl 0 rfl) ?_
    have fe : f_M_larger p1 p2 = p1 := by unfold f_M_larger; first | with_reducible exact if_neg e1_12 | exact if_neg e1_12
    exact W.lret (v := p1) hx hb hr (fun t ht hW => ⟨_, rfl, by rw [fe], ht⟩) t_nil d_M_larger_13
  · refine lv_lload_n hx hb d_M_larger_8 rfl (lv_at hl 1 rfl) ?_
    refine lv_goto (tgt := 13) hx hb d_M_larger_9 (by decide) ?_
    have fe : f_M_larger p1 p2 = p2 := by unfold f_M_larger; first | with_reducible exact if_pos e1_12 | exact if_pos e1_12
    exact W.lret (v := p2) hx hb hr (fun t ht hW => ⟨_, rfl, by rw [fe], ht⟩) t_nil d_M_larger_13
-- quotient
theorem d_M_quotient_0 : decode b_M_quotient 0 = .ok (.lload_n 2, 1) := by decide +kernel
theorem d_M_quotient_1 : decode b_M_quotient 1 = .ok (.lconst 0, 1) := by decide +kernel
theorem d_M_quotient_2 : decode b_M_quotient 2 = .ok (.lcmp, 1) := by decide +kernel
theorem d_M_quotient_3 : decode b_M_quotient 3 = .ok (.ifCond .ne 5, 3) := by decide +kernel
theorem d_M_quotient_6 : decode b_M_quotient 6 = .ok (.lconst 0, 1) := by decide +kernel
theorem d_M_quotient_7 : decode b_M_quotient 7 = .ok (.lreturn, 1) := by decide +kernel
theorem d_M_quotient_8 : decode b_M_quotient 8 = .ok (.lconst 0, 1) := by decide +kernel
theorem d_M_quotient_9 : decode b_M_quotient 9 = .ok (.lstore 4, 2) := by decide +kernel
theorem d_M_quotient_11 : decode b_M_quotient 11 = .ok (.lconst 0, 1) := by decide +kernel
theorem d_M_quotient_12 : decode b_M_quotient 12 = .ok (.lstore 6, 2) := by decide +kernel
theorem d_M_quotient_14 : decode b_M_quotient 14 = .ok (.bipush 63, 2) := by decide +kernel
theorem d_M_quotient_16 : decode b_M_quotient 16 = .ok (.istore 8, 2) := by decide +kernel
theorem d_M_quotient_18 : decode b_M_quotient 18 = .ok (.iload 8, 2) := by decide +kernel
theorem d_M_quotient_20 : decode b_M_quotient 20 = .ok (.ifCond .lt 67, 3) := by decide +kernel
theorem d_M_quotient_23 : decode b_M_quotient 23 = .ok (.lload 6, 2) := by decide +kernel
theorem d_M_quotient_25 : decode b_M_quotient 25 = .ok (.lconst 0, 1) := by decide +kernel
theorem d_M_quotient_26 : decode b_M_quotient 26 = .ok (.lcmp, 1) := by decide +kernel
theorem d_M_quotient_27 : decode b_M_quotient 27 = .ok (.ifCond .ge 7, 3) := by decide +kernel
theorem d_M_quotient_30 : decode b_M_quotient 30 = .ok (.iconst 1, 1) := by decide +kernel
theorem d_M_quotient_31 : decode b_M_quotient 31 = .ok (.goto 4, 3) := by decide +kernel
theorem d_M_quotient_34 : decode b_M_quotient 34 = .ok (.iconst 0, 1) := by decide +kernel
theorem d_M_quotient_35 : decode b_M_quotient 35 = .ok (.istore 9, 2) := by decide +kernel
theorem d_M_quotient_37 : decode b_M_quotient 37 = .ok (.ldc2_w 43, 3) := by decide +kernel
theorem d_M_quotient_40 : decode b_M_quotient 40 = .ok (.lload 6, 2) := by decide +kernel
theorem d_M_quotient_42 : decode b_M_quotient 42 = .ok (.lmul, 1) := by decide +kernel
theorem d_M_quotient_43 : decode b_M_quotient 43 = .ok (.lload_n 0, 1) := by decide +kernel
theorem d_M_quotient_44 : decode b_M_quotient 44 = .ok (.iload 8, 2) := by decide +kernel
theorem d_M_quotient_46 : decode b_M_quotient 46 = .ok (.lushr, 1) := by decide +kernel
theorem d_M_quotient_47 : decode b_M_quotient 47 = .ok (.lconst 1, 1) := by decide +kernel
theorem d_M_quotient_48 : decode b_M_quotient 48 = .ok (.land, 1) := by decide +kernel
theorem d_M_quotient_49 : decode b_M_quotient 49 = .ok (.ladd, 1) := by decide +kernel
theorem d_M_quotient_50 : decode b_M_quotient 50 = .ok (.lstore 6, 2) := by decide +kernel
theorem d_M_quotient_52 : decode b_M_quotient 52 = .ok (.iload 9, 2) := by decide +kernel
theorem d_M_quotient_54 : decode b_M_quotient 54 = .ok (.ifCond .ne 12, 3) := by decide +kernel
theorem d_M_quotient_57 : decode b_M_quotient 57 = .ok (.lload 6, 2) := by decide +kernel
theorem d_M_quotient_59 : decode b_M_quotient 59 = .ok (.lload_n 2, 1) := by decide +kernel
theorem d_M_quotient_60 : decode b_M_quotient 60 = .ok (.invokestatic 39, 3) := by decide +kernel
theorem d_M_quotient_63 : decode b_M_quotient 63 = .ok (.ifCond .ne 18, 3) := by decide +kernel
theorem d_M_quotient_66 : decode b_M_quotient 66 = .ok (.lload 6, 2) := by decide +kernel
theorem d_M_quotient_68 : decode b_M_quotient 68 = .ok (.lload_n 2, 1) := by decide +kernel
theorem d_M_quotient_69 : decode b_M_quotient 69 = .ok (.lsub, 1) := by decide +kernel
theorem d_M_quotient_70 : decode b_M_quotient 70 = .ok (.lstore 6, 2) := by decide +kernel
theorem d_M_quotient_72 : decode b_M_quotient 72 = .ok (.lload 4, 2) := by decide +kernel
theorem d_M_quotient_74 : decode b_M_quotient 74 = .ok (.lconst 1, 1) := by decide +kernel
theorem d_M_quotient_75 : decode b_M_quotient 75 = .ok (.iload 8, 2) := by decide +kernel
theorem d_M_quotient_77 : decode b_M_quotient 77 = .ok (.lshl, 1) := by decide +kernel
theorem d_M_quotient_78 : decode b_M_quotient 78 = .ok (.lor, 1) := by decide +kernel
theorem d_M_quotient_79 : decode b_M_quotient 79 = .ok (.lstore 4, 2) := by decide +kernel
theorem d_M_quotient_81 : decode b_M_quotient 81 = .ok (.iinc 8 (-1), 3) := by decide +kernel
theorem d_M_quotient_84 : decode b_M_quotient 84 = .ok (.goto (-66), 3) := by decide +kernel
theorem d_M_quotient_87 : decode b_M_quotient 87 = .ok (.lload 4, 2) := by decide +kernel
theorem d_M_quotient_89 : decode b_M_quotient 89 = .ok (.lreturn, 1) := by decide +kernel
def f_M_quotient_81 (p1 : Int64) (p2 : Int64) (x18_8 : Int32) (x18_6 : Int64) (x18_4 : Int64) (k18 : Int32 → Int64 → Int64 → Int64) (x81_6 : Int64) (x81_4 : Int64) : Int64 := k18 (x18_8 + (-1)) x81_6 x81_4
def f_M_quotient_79v (p1 : Int64) (p2 : Int64) (x18_8 : Int32) (x18_6 : Int64) (x18_4 : Int64) (k18 : Int32 → Int64 → Int64 → Int64) (v79 : Int64) (v70 : Int64) : Int64 := f_M_quotient_81 p1 p2 x18_8 x18_6 x18_4 k18 v70 v79
def f_M_quotient_70v (p1 : Int64) (p2 : Int64) (x18_8 : Int32) (x18_6 : Int64) (x18_4 : Int64) (k18 : Int32 → Int64 → Int64 → Int64) (v70 : Int64) : Int64 := f_M_quotient_79v p1 p2 x18_8 x18_6 x18_4 k18 (x18_4 ||| ((1 : Int64) <<< (x18_8.toInt64 &&& 63))) v70
def f_M_quotient_66 (p1 : Int64) (p2 : Int64) (x18_8 : Int32) (x18_6 : Int64) (x18_4 : Int64) (k18 : Int32 → Int64 → Int64 → Int64) (v50 : Int64) : Int64 := f_M_quotient_70v p1 p2 x18_8 x18_6 x18_4 k18 (v50 - p2)
def f_M_quotient_50v (p1 : Int64) (p2 : Int64) (x18_8 : Int32) (x18_6 : Int64) (x18_4 : Int64) (k18 : Int32 → Int64 → Int64 → Int64) (v50 : Int64) (s35_0 : Bool) : Int64 := (if s35_0 = true then f_M_quotient_66 p1 p2 x18_8 x18_6 x18_4 k18 v50 else (if (f_M_below v50 p2) = true then f_M_quotient_81 p1 p2 x18_8 x18_6 x18_4 k18 v50 x18_4 else f_M_quotient_66 p1 p2 x18_8 x18_6 x18_4 k18 v50))
def f_M_quotient_35 (p1 : Int64) (p2 : Int64) (x18_8 : Int32) (x18_6 : Int64) (x18_4 : Int64) (k18 : Int32 → Int64 → Int64 → Int64) (s35_0 : Bool) : Int64 := f_M_quotient_50v p1 p2 x18_8 x18_6 x18_4 k18 (((2 : Int64) * x18_6) + (((p1.toUInt64 >>> (x18_8.toInt64.toUInt64 &&& Int64.toUInt64 63)).toInt64) &&& (1 : Int64))) s35_0
def f_M_quotient_18 (p1 : Int64) (p2 : Int64) : Nat → Int32 → Int64 → Int64 → Int64
  | 0, _, _, _ => default
  | n18 + 1, x18_8, x18_6, x18_4 => (if x18_8 < 0 then x18_4 else (if x18_6 < 0 then f_M_quotient_35 p1 p2 x18_8 x18_6 x18_4 (fun y0 y1 y2 => f_M_quotient_18 p1 p2 n18 y0 y1 y2) true else f_M_quotient_35 p1 p2 x18_8 x18_6 x18_4 (fun y0 y1 y2 => f_M_quotient_18 p1 p2 n18 y0 y1 y2) false))
def f_M_quotient (p1 : Int64) (p2 : Int64) : Int64 := (if p2 = 0 then 0 else f_M_quotient_18 p1 p2 65 63 0 0)
set_option maxRecDepth 100000 in
set_option maxHeartbeats 4000000 in
theorem c_M_quotient (l : Launch) (p1 : Int64) (p2 : Int64) : Met l y_M_quotient w_M_quotient ({ frames := 1, cells := 0, slots := 0, locals := 23 } : Room) (va_Pc [.long (p1), .long (p2)] (fun _ => True)) (vp_Sl (fun r => r = (f_M_quotient p1 p2))) 0 0 (fun _ => False) := by
  refine Met.ofW (cc := b_M_quotient) (maxL := 10) (ret := (some .long)) (by decide) rfl ?_
  intro p e s m args below meth c s₁ B hml hv
  obtain ⟨rfl, -⟩ := hv
  have hx := B.exec
  have hb := B.bytes
  have hr := B.returns
  have hts := atoms_spec (ws := w_M_quotient) B.pre
  have hG : ∀ w ∈ gM, w.before _ s = true := fun w h => hts w (List.mem_cons_of_mem _ h)
  have hown : s.vm.findClass R_M = some m.cls := findClass_of_methodNamed B.named
  have hlocks := B.notSynchronized
  have hl := lv_entry ([.long (p1), .long (p2)]) (n := 10) (Nat.le_of_ble_eq_true rfl)
  rw [lg_entry_eq]
  generalize (lg_sl ([.long (p1), .long (p2)]) ++ List.replicate (10 - (lg_sl ([.long (p1), .long (p2)])).length) Slot.unset).toArray = ls at hl ⊢
  have hl : lv_has ls 10 [(0, .long (p1)), (2, .long (p2))] := hl
  have K18 : ∀ (n18 : Nat) (x18_8 : Int32) (x18_6 : Int64) (x18_4 : Int64) (hm18 : (x18_8.toInt + 1).toNat < n18) (hj : f_M_quotient p1 p2 = f_M_quotient_18 p1 p2 n18 x18_8 x18_6 x18_4) (ls : Array Slot) (hl : lv_has ls 10 [(8, .int (x18_8)), (6, .long (x18_6)), (4, .long (x18_4)), (0, .long (p1)), (2, .long (p2))]), W p l e (headSpec w_M_quotient ({ frames := 1, cells := 0, slots := 0, locals := 23 } : Room)).room s m ([.long (p1), .long (p2)] : List Value).toArray below meth c s.heap [] 0 0 (MQ below (vp_Sl (fun r => r = (f_M_quotient p1 p2))) ([.long (p1), .long (p2)] : List Value).toArray s 0 0 (fun _ => False)) (F0 m 18 ls []) := by
    intro n18
    induction n18 with
    | zero => intro x18_8 x18_6 x18_4 hm18 hj ls hl; exact absurd hm18 (Nat.not_lt_zero _)
    | succ n18 ih18 =>
      intro x18_8 x18_6 x18_4 hm18 hj ls hl
      have K81 : ∀ (x81_6 : Int64) (x81_4 : Int64) (hj : f_M_quotient p1 p2 = f_M_quotient_81 p1 p2 x18_8 x18_6 x18_4 (fun y0 y1 y2 => f_M_quotient_18 p1 p2 n18 y0 y1 y2) x81_6 x81_4) (hf0 : ¬ x18_8 < 0) (ls : Array Slot) (hl : lv_has ls 10 [(6, .long (x81_6)), (8, .int (x18_8)), (4, .long (x81_4)), (0, .long (p1)), (2, .long (p2))]), W p l e (headSpec w_M_quotient ({ frames := 1, cells := 0, slots := 0, locals := 23 } : Room)).room s m ([.long (p1), .long (p2)] : List Value).toArray below meth c s.heap [] 0 0 (MQ below (vp_Sl (fun r => r = (f_M_quotient p1 p2))) ([.long (p1), .long (p2)] : List Value).toArray s 0 0 (fun _ => False)) (F0 m 81 ls []) := by
        intro x81_6 x81_4 hj hf0 ls hl
        refine lv_iinc (v := x18_8 + (-1)) (lv' := [(8, .int (x18_8 + (-1))), (6, .long (x81_6)), (4, .long (x81_4)), (0, .long (p1)), (2, .long (p2))]) hx hb d_M_quotient_81 hl (k := 1) rfl rfl (by decide) rfl (fun ls hl => ?_)
        refine lv_goto (tgt := 18) hx hb d_M_quotient_84 (by decide) ?_
        exact ih18 (x18_8 + (-1)) x81_6 x81_4 (dn_step hf0 hm18) (hj.trans rfl) ls (lv_sub hl [0, 1, 2, 3, 4] rfl)
      have K79v : ∀ (v79 : Int64) (v70 : Int64) (hj : f_M_quotient p1 p2 = f_M_quotient_79v p1 p2 x18_8 x18_6 x18_4 (fun y0 y1 y2 => f_M_quotient_18 p1 p2 n18 y0 y1 y2) v79 v70) (hf0 : ¬ x18_8 < 0) (ls : Array Slot) (hl : lv_has ls 10 [(4, .long (v79)), (6, .long (v70)), (8, .int (x18_8)), (0, .long (p1)), (2, .long (p2))]), W p l e (headSpec w_M_quotient ({ frames := 1, cells := 0, slots := 0, locals := 23 } : Room)).room s m ([.long (p1), .long (p2)] : List Value).toArray below meth c s.heap [] 0 0 (MQ below (vp_Sl (fun r => r = (f_M_quotient p1 p2))) ([.long (p1), .long (p2)] : List Value).toArray s 0 0 (fun _ => False)) (F0 m 81 ls []) := by
        intro v79 v70 hj hf0 ls hl
        exact K81 v70 v79 (hj.trans rfl) hf0 ls (lv_sub hl [1, 2, 0, 3, 4] rfl)
      have K70v : ∀ (v70 : Int64) (hj : f_M_quotient p1 p2 = f_M_quotient_70v p1 p2 x18_8 x18_6 x18_4 (fun y0 y1 y2 => f_M_quotient_18 p1 p2 n18 y0 y1 y2) v70) (hf0 : ¬ x18_8 < 0) (ls : Array Slot) (hl : lv_has ls 10 [(6, .long (v70)), (8, .int (x18_8)), (4, .long (x18_4)), (0, .long (p1)), (2, .long (p2))]), W p l e (headSpec w_M_quotient ({ frames := 1, cells := 0, slots := 0, locals := 23 } : Room)).room s m ([.long (p1), .long (p2)] : List Value).toArray below meth c s.heap [] 0 0 (MQ below (vp_Sl (fun r => r = (f_M_quotient p1 p2))) ([.long (p1), .long (p2)] : List Value).toArray s 0 0 (fun _ => False)) (F0 m 72 ls []) := by
        intro v70 hj hf0 ls hl
        refine lv_lload hx hb d_M_quotient_72 (lv_at hl 2 rfl) ?_
        refine lv_lconst (v := 1) hx hb d_M_quotient_74 (by decide) ?_
        refine lv_iload hx hb d_M_quotient_75 (lv_at hl 1 rfl) ?_
        refine lv_lshl (v := (1 : Int64) <<< (x18_8.toInt64 &&& 63)) hx hb d_M_quotient_77 rfl ?_
        refine lv_lor hx hb d_M_quotient_78 ?_
        refine lv_topl (fun v79 ev79 => ?_)
        refine lv_lstore (lv' := [(4, .long (v79)), (6, .long (v70)), (8, .int (x18_8)), (0, .long (p1)), (2, .long (p2))]) hx hb d_M_quotient_79 hl (by decide) rfl (fun ls hl => ?_)
        exact K79v v79 v70 (Eq.trans (hj.trans rfl) (congrArg (fun v79 => f_M_quotient_79v p1 p2 x18_8 x18_6 x18_4 (fun y0 y1 y2 => f_M_quotient_18 p1 p2 n18 y0 y1 y2) v79 v70) ev79.symm)) hf0 ls (lv_sub hl [0, 1, 2, 3, 4] rfl)
      have K66 : ∀ (v50 : Int64) (hj : f_M_quotient p1 p2 = f_M_quotient_66 p1 p2 x18_8 x18_6 x18_4 (fun y0 y1 y2 => f_M_quotient_18 p1 p2 n18 y0 y1 y2) v50) (hf0 : ¬ x18_8 < 0) (ls : Array Slot) (hl : lv_has ls 10 [(6, .long (v50)), (8, .int (x18_8)), (4, .long (x18_4)), (0, .long (p1)), (2, .long (p2))]), W p l e (headSpec w_M_quotient ({ frames := 1, cells := 0, slots := 0, locals := 23 } : Room)).room s m ([.long (p1), .long (p2)] : List Value).toArray below meth c s.heap [] 0 0 (MQ below (vp_Sl (fun r => r = (f_M_quotient p1 p2))) ([.long (p1), .long (p2)] : List Value).toArray s 0 0 (fun _ => False)) (F0 m 66 ls []) := by
        intro v50 hj hf0 ls hl
        refine lv_lload hx hb d_M_quotient_66 (lv_at hl 0 rfl) ?_
        refine lv_lload_n hx hb d_M_quotient_68 rfl (lv_at hl 4 rfl) ?_
        refine lv_lsub hx hb d_M_quotient_69 ?_
        refine lv_topl (fun v70 ev70 => ?_)
        refine lv_lstore (lv' := [(6, .long (v70)), (8, .int (x18_8)), (4, .long (x18_4)), (0, .long (p1)), (2, .long (p2))]) hx hb d_M_quotient_70 hl (by decide) rfl (fun ls hl => ?_)
        exact K70v v70 (Eq.trans (hj.trans rfl) (congrArg (fun v70 => f_M_quotient_70v p1 p2 x18_8 x18_6 x18_4 (fun y0 y1 y2 => f_M_quotient_18 p1 p2 n18 y0 y1 y2) v70) ev70.symm)) hf0 ls (lv_sub hl [0, 1, 2, 3, 4] rfl)
      have K50v : ∀ (v50 : Int64) (s35_0 : Bool) (hj : f_M_quotient p1 p2 = f_M_quotient_50v p1 p2 x18_8 x18_6 x18_4 (fun y0 y1 y2 => f_M_quotient_18 p1 p2 n18 y0 y1 y2) v50 s35_0) (hf0 : ¬ x18_8 < 0) (ls : Array Slot) (hl : lv_has ls 10 [(6, .long (v50)), (9, .int (bI s35_0)), (8, .int (x18_8)), (4, .long (x18_4)), (0, .long (p1)), (2, .long (p2))]), W p l e (headSpec w_M_quotient ({ frames := 1, cells := 0, slots := 0, locals := 23 } : Room)).room s m ([.long (p1), .long (p2)] : List Value).toArray below meth c s.heap [] 0 0 (MQ below (vp_Sl (fun r => r = (f_M_quotient p1 p2))) ([.long (p1), .long (p2)] : List Value).toArray s 0 0 (fun _ => False)) (F0 m 52 ls []) := by
        intro v50 s35_0 hj hf0 ls hl
        refine lv_iload hx hb d_M_quotient_52 (lv_at hl 1 rfl) ?_
        refine wz_ne (tgt := 66) hx hb d_M_quotient_54 (by decide) (fun e1_66 => ?_) (fun e1_66 => ?_)
        · exact K66 v50 (hj.trans (by unfold f_M_quotient_50v; first | with_reducible exact if_pos e1_66 | exact if_pos e1_66)) hf0 ls (lv_sub hl [0, 2, 3, 4, 5] rfl)
        · refine lv_lload hx hb d_M_quotient_57 (lv_at hl 0 rfl) ?_
          refine lv_lload_n hx hb d_M_quotient_59 rfl (lv_at hl 5 rfl) ?_
          refine rc_i (W.runS (As := [.long (v50), .long (p2)]) (rest := []) ⟨hx, hb, hml, hown, hts⟩ (c_M_below l v50 p2) (va_cwS 2 hts (gxS gx57 gx58 gx0 gx59) rfl rfl rfl (by decide +kernel) ⟨(Nat.le_of_ble_eq_true rfl), (Nat.le_of_ble_eq_true rfl)⟩) ⟨bl0, fun U hU hW => ⟨rfl, trivial⟩⟩ rfl rfl hl.1 rfl (lv_room (Nat.le_of_ble_eq_true rfl)) d_M_quotient_60 ⟨Nat.zero_le _, Nat.zero_le _⟩) ?_
          refine wz_ne (tgt := 81) hx hb d_M_quotient_63 (by decide) (fun e2_81 => ?_) (fun e2_81 => ?_)
          · exact K81 v50 x18_4 (hj.trans (by unfold f_M_quotient_50v; first | with_reducible exact (if_neg e1_66).trans (if_pos e2_81) | exact (if_neg e1_66).trans (if_pos e2_81))) hf0 ls (lv_sub hl [0, 2, 3, 4, 5] rfl)
          · exact K66 v50 (hj.trans (by unfold f_M_quotient_50v; first | with_reducible exact (if_neg e1_66).trans (if_neg e2_81) | exact (if_neg e1_66).trans (if_neg e2_81))) hf0 ls (lv_sub hl [0, 2, 3, 4, 5] rfl)
      have K35 : ∀ (s35_0 : Bool) (hj : f_M_quotient p1 p2 = f_M_quotient_35 p1 p2 x18_8 x18_6 x18_4 (fun y0 y1 y2 => f_M_quotient_18 p1 p2 n18 y0 y1 y2) s35_0) (hf0 : ¬ x18_8 < 0) (ls : Array Slot) (hl : lv_has ls 10 [(8, .int (x18_8)), (6, .long (x18_6)), (4, .long (x18_4)), (0, .long (p1)), (2, .long (p2))]), W p l e (headSpec w_M_quotient ({ frames := 1, cells := 0, slots := 0, locals := 23 } : Room)).room s m ([.long (p1), .long (p2)] : List Value).toArray below meth c s.heap [] 0 0 (MQ below (vp_Sl (fun r => r = (f_M_quotient p1 p2))) ([.long (p1), .long (p2)] : List Value).toArray s 0 0 (fun _ => False)) (F0 m 35 ls [.int (bI s35_0)]) := by
        intro s35_0 hj hf0 ls hl
        refine lv_istore (lv' := [(9, .int (bI s35_0)), (8, .int (x18_8)), (6, .long (x18_6)), (4, .long (x18_4)), (0, .long (p1)), (2, .long (p2))]) hx hb d_M_quotient_35 hl (by decide) rfl (fun ls hl => ?_)
        refine lv_ldc2 (v := 2) hx hb hown (hG (.constantLong R_M 43 (2)) gx160) d_M_quotient_37 ?_
        refine lv_lload hx hb d_M_quotient_40 (lv_at hl 2 rfl) ?_
        refine lv_lmul hx hb d_M_quotient_42 ?_
        refine lv_lload_n hx hb d_M_quotient_43 rfl (lv_at hl 4 rfl) ?_
        refine lv_iload hx hb d_M_quotient_44 (lv_at hl 1 rfl) ?_
        refine lv_lushr (v := (p1.toUInt64 >>> (x18_8.toInt64.toUInt64 &&& Int64.toUInt64 63)).toInt64) hx hb d_M_quotient_46 rfl ?_
        refine lv_lconst (v := 1) hx hb d_M_quotient_47 (by decide) ?_
        refine lv_land hx hb d_M_quotient_48 ?_
        refine lv_ladd hx hb d_M_quotient_49 ?_
        refine lv_topl (fun v50 ev50 => ?_)
        refine lv_lstore (lv' := [(6, .long (v50)), (9, .int (bI s35_0)), (8, .int (x18_8)), (4, .long (x18_4)), (0, .long (p1)), (2, .long (p2))]) hx hb d_M_quotient_50 hl (by decide) rfl (fun ls hl => ?_)
        exact K50v v50 s35_0 (Eq.trans (hj.trans rfl) (congrArg (fun v50 => f_M_quotient_50v p1 p2 x18_8 x18_6 x18_4 (fun y0 y1 y2 => f_M_quotient_18 p1 p2 n18 y0 y1 y2) v50 s35_0) ev50.symm)) hf0 ls (lv_sub hl [0, 1, 2, 3, 4, 5] rfl)
      refine lv_iload hx hb d_M_quotient_18 (lv_at hl 0 rfl) ?_
      refine lv_if_lt (tgt := 87) hx hb d_M_quotient_20 (by decide) (fun e1_87 => ?_) (fun e1_87 => ?_)
      · refine lv_lload hx hb d_M_quotient_87 (lv_at hl 2 rfl) ?_
        have fe : f_M_quotient p1 p2 = x18_4 := hj.trans ((f_M_quotient_18.eq_2 p1 p2 _ _ _ _).trans (by first | with_reducible exact if_pos e1_87 | exact if_pos e1_87))
        exact W.lret (v := x18_4) hx hb hr (fun t ht hW => ⟨_, rfl, by rw [fe], ht⟩) t_nil d_M_quotient_89
      · refine lv_lload hx hb d_M_quotient_23 (lv_at hl 1 rfl) ?_
        refine lv_lconst (v := 0) hx hb d_M_quotient_25 (by decide) ?_
        refine wl_ge (tgt := 34) hx hb d_M_quotient_26 d_M_quotient_27 (by decide) (fun e2_34 => ?_) (fun e2_34 => ?_)
        · refine lv_iconst (v := 0) hx hb d_M_quotient_34 (by decide) ?_
          exact K35 false (hj.trans ((f_M_quotient_18.eq_2 p1 p2 _ _ _ _).trans (by first | with_reducible exact (if_neg e1_87).trans (if_neg e2_34) | exact (if_neg e1_87).trans (if_neg e2_34)))) e1_87 ls (lv_sub hl [0, 1, 2, 3, 4] rfl)
        · refine lv_iconst (v := 1) hx hb d_M_quotient_30 (by decide) ?_
          refine lv_goto (tgt := 35) hx hb d_M_quotient_31 (by decide) ?_
          exact K35 true (hj.trans ((f_M_quotient_18.eq_2 p1 p2 _ _ _ _).trans (by first | with_reducible exact (if_neg e1_87).trans (if_pos e2_34) | exact (if_neg e1_87).trans (if_pos e2_34)))) e1_87 ls (lv_sub hl [0, 1, 2, 3, 4] rfl)
  refine lv_lload_n hx hb d_M_quotient_0 rfl (lv_at hl 1 rfl) ?_
  refine lv_lconst (v := 0) hx hb d_M_quotient_1 (by decide) ?_
  refine wl_ne (tgt := 8) hx hb d_M_quotient_2 d_M_quotient_3 (by decide) (fun e1_8 => ?_) (fun e1_8 => ?_)
  · refine lv_lconst (v := 0) hx hb d_M_quotient_8 (by decide) ?_
    refine lv_lstore (lv' := [(4, .long (0)), (0, .long (p1)), (2, .long (p2))]) hx hb d_M_quotient_9 hl (by decide) rfl (fun ls hl => ?_)
    refine lv_lconst (v := 0) hx hb d_M_quotient_11 (by decide) ?_
    refine lv_lstore (lv' := [(6, .long (0)), (4, .long (0)), (0, .long (p1)), (2, .long (p2))]) hx hb d_M_quotient_12 hl (by decide) rfl (fun ls hl => ?_)
    refine lv_bipush (v := 63) hx hb d_M_quotient_14 (by decide) ?_
    refine lv_istore (lv' := [(8, .int (63)), (6, .long (0)), (4, .long (0)), (0, .long (p1)), (2, .long (p2))]) hx hb d_M_quotient_16 hl (by decide) rfl (fun ls hl => ?_)
    exact K18 65 63 0 0 (by decide) (by unfold f_M_quotient; first | with_reducible exact if_neg e1_8 | exact if_neg e1_8) ls (lv_sub hl [0, 1, 2, 3, 4] rfl)
  · refine lv_lconst (v := 0) hx hb d_M_quotient_6 (by decide) ?_
    have fe : f_M_quotient p1 p2 = 0 := by unfold f_M_quotient; first | with_reducible exact if_pos e1_8 | exact if_pos e1_8
    exact W.lret (v := 0) hx hb hr (fun t ht hW => ⟨_, rfl, by rw [fe], ht⟩) t_nil d_M_quotient_7
-- rest
theorem d_M_rest_0 : decode b_M_rest 0 = .ok (.lload_n 2, 1) := by decide +kernel
theorem d_M_rest_1 : decode b_M_rest 1 = .ok (.lconst 0, 1) := by decide +kernel
theorem d_M_rest_2 : decode b_M_rest 2 = .ok (.lcmp, 1) := by decide +kernel
theorem d_M_rest_3 : decode b_M_rest 3 = .ok (.ifCond .ne 7, 3) := by decide +kernel
theorem d_M_rest_6 : decode b_M_rest 6 = .ok (.lload_n 0, 1) := by decide +kernel
theorem d_M_rest_7 : decode b_M_rest 7 = .ok (.goto 12, 3) := by decide +kernel
theorem d_M_rest_10 : decode b_M_rest 10 = .ok (.lload_n 0, 1) := by decide +kernel
theorem d_M_rest_11 : decode b_M_rest 11 = .ok (.lload_n 0, 1) := by decide +kernel
theorem d_M_rest_12 : decode b_M_rest 12 = .ok (.lload_n 2, 1) := by decide +kernel
theorem d_M_rest_13 : decode b_M_rest 13 = .ok (.invokestatic 45, 3) := by decide +kernel
theorem d_M_rest_16 : decode b_M_rest 16 = .ok (.lload_n 2, 1) := by decide +kernel
theorem d_M_rest_17 : decode b_M_rest 17 = .ok (.lmul, 1) := by decide +kernel
theorem d_M_rest_18 : decode b_M_rest 18 = .ok (.lsub, 1) := by decide +kernel
theorem d_M_rest_19 : decode b_M_rest 19 = .ok (.lreturn, 1) := by decide +kernel
def f_M_rest (p1 : Int64) (p2 : Int64) : Int64 := (if p2 = 0 then p1 else (p1 - ((f_M_quotient p1 p2) * p2)))
set_option maxRecDepth 100000 in
set_option maxHeartbeats 4000000 in
theorem c_M_rest (l : Launch) (p1 : Int64) (p2 : Int64) : Met l y_M_rest w_M_rest ({ frames := 2, cells := 0, slots := 0, locals := 52 } : Room) (va_Pc [.long (p1), .long (p2)] (fun _ => True)) (vp_Sl (fun r => r = (f_M_rest p1 p2))) 0 0 (fun _ => False) := by
  refine Met.ofW (cc := b_M_rest) (maxL := 4) (ret := (some .long)) (by decide) rfl ?_
  intro p e s m args below meth c s₁ B hml hv
  obtain ⟨rfl, -⟩ := hv
  have hx := B.exec
  have hb := B.bytes
  have hr := B.returns
  have hts := atoms_spec (ws := w_M_rest) B.pre
  have hG : ∀ w ∈ gM, w.before _ s = true := fun w h => hts w (List.mem_cons_of_mem _ h)
  have hown : s.vm.findClass R_M = some m.cls := findClass_of_methodNamed B.named
  have hlocks := B.notSynchronized
  have hl := lv_entry ([.long (p1), .long (p2)]) (n := 4) (Nat.le_of_ble_eq_true rfl)
  rw [lg_entry_eq]
  generalize (lg_sl ([.long (p1), .long (p2)]) ++ List.replicate (4 - (lg_sl ([.long (p1), .long (p2)])).length) Slot.unset).toArray = ls at hl ⊢
  have hl : lv_has ls 4 [(0, .long (p1)), (2, .long (p2))] := hl
  refine lv_lload_n hx hb d_M_rest_0 rfl (lv_at hl 1 rfl) ?_
  refine lv_lconst (v := 0) hx hb d_M_rest_1 (by decide) ?_
  refine wl_ne (tgt := 10) hx hb d_M_rest_2 d_M_rest_3 (by decide) (fun e1_10 => ?_) (fun e1_10 => ?_)
  · refine lv_lload_n hx hb d_M_rest_10 rfl (lv_at hl 0 rfl) ?_
    refine lv_lload_n hx hb d_M_rest_11 rfl (lv_at hl 0 rfl) ?_
    refine lv_lload_n hx hb d_M_rest_12 rfl (lv_at hl 1 rfl) ?_
    refine rc_l (W.runS (As := [.long (p1), .long (p2)]) (rest := [.long (p1)]) ⟨hx, hb, hml, hown, hts⟩ (c_M_quotient l p1 p2) (va_cwS 2 hts (gxS gx157 gx158 gx0 gx159) rfl rfl rfl (by decide +kernel) ⟨(Nat.le_of_ble_eq_true rfl), (Nat.le_of_ble_eq_true rfl)⟩) ⟨bl0, fun U hU hW => ⟨rfl, trivial⟩⟩ rfl rfl hl.1 rfl (lv_room (Nat.le_of_ble_eq_true rfl)) d_M_rest_13 ⟨Nat.zero_le _, Nat.zero_le _⟩) ?_
    refine lv_lload_n hx hb d_M_rest_16 rfl (lv_at hl 1 rfl) ?_
    refine lv_lmul hx hb d_M_rest_17 ?_
    refine lv_lsub hx hb d_M_rest_18 ?_
    have fe : f_M_rest p1 p2 = (p1 - ((f_M_quotient p1 p2) * p2)) := by unfold f_M_rest; first | with_reducible exact if_neg e1_10 | exact if_neg e1_10
    exact W.lret (v := p1 - ((f_M_quotient p1 p2) * p2)) hx hb hr (fun t ht hW => ⟨_, rfl, by rw [fe], ht⟩) t_nil d_M_rest_19
  · refine lv_lload_n hx hb d_M_rest_6 rfl (lv_at hl 0 rfl) ?_
    refine lv_goto (tgt := 19) hx hb d_M_rest_7 (by decide) ?_
    have fe : f_M_rest p1 p2 = p1 := by unfold f_M_rest; first | with_reducible exact if_pos e1_10 | exact if_pos e1_10
    exact W.lret (v := p1) hx hb hr (fun t ht hW => ⟨_, rfl, by rw [fe], ht⟩) t_nil d_M_rest_19
-- fits
theorem d_M_fits_0 : decode b_M_fits 0 = .ok (.lload_n 0, 1) := by decide +kernel
theorem d_M_fits_1 : decode b_M_fits 1 = .ok (.lconst 0, 1) := by decide +kernel
theorem d_M_fits_2 : decode b_M_fits 2 = .ok (.lcmp, 1) := by decide +kernel
theorem d_M_fits_3 : decode b_M_fits 3 = .ok (.ifCond .eq 17, 3) := by decide +kernel
theorem d_M_fits_6 : decode b_M_fits 6 = .ok (.ldc2_w 49, 3) := by decide +kernel
theorem d_M_fits_9 : decode b_M_fits 9 = .ok (.lload_n 0, 1) := by decide +kernel
theorem d_M_fits_10 : decode b_M_fits 10 = .ok (.invokestatic 45, 3) := by decide +kernel
theorem d_M_fits_13 : decode b_M_fits 13 = .ok (.lload_n 2, 1) := by decide +kernel
theorem d_M_fits_14 : decode b_M_fits 14 = .ok (.invokestatic 39, 3) := by decide +kernel
theorem d_M_fits_17 : decode b_M_fits 17 = .ok (.ifCond .ne 7, 3) := by decide +kernel
theorem d_M_fits_20 : decode b_M_fits 20 = .ok (.iconst 1, 1) := by decide +kernel
theorem d_M_fits_21 : decode b_M_fits 21 = .ok (.goto 4, 3) := by decide +kernel
theorem d_M_fits_24 : decode b_M_fits 24 = .ok (.iconst 0, 1) := by decide +kernel
theorem d_M_fits_25 : decode b_M_fits 25 = .ok (.ireturn, 1) := by decide +kernel
def f_M_fits_20 (p1 : Int64) (p2 : Int64) : Bool := true
def f_M_fits (p1 : Int64) (p2 : Int64) : Bool := (if p1 = 0 then f_M_fits_20 p1 p2 else (if (f_M_below (f_M_quotient (-1) p1) p2) = true then false else f_M_fits_20 p1 p2))
set_option maxRecDepth 100000 in
set_option maxHeartbeats 4000000 in
theorem c_M_fits (l : Launch) (p1 : Int64) (p2 : Int64) : Met l y_M_fits w_M_fits ({ frames := 2, cells := 0, slots := 0, locals := 52 } : Room) (va_Pc [.long (p1), .long (p2)] (fun _ => True)) (vp_Si (fun r => r = bI (f_M_fits p1 p2))) 0 0 (fun _ => False) := by
  refine Met.ofW (cc := b_M_fits) (maxL := 4) (ret := (some .boolean)) (by decide) rfl ?_
  intro p e s m args below meth c s₁ B hml hv
  obtain ⟨rfl, -⟩ := hv
  have hx := B.exec
  have hb := B.bytes
  have hr := B.returns
  have hts := atoms_spec (ws := w_M_fits) B.pre
  have hG : ∀ w ∈ gM, w.before _ s = true := fun w h => hts w (List.mem_cons_of_mem _ h)
  have hown : s.vm.findClass R_M = some m.cls := findClass_of_methodNamed B.named
  have hlocks := B.notSynchronized
  have hl := lv_entry ([.long (p1), .long (p2)]) (n := 4) (Nat.le_of_ble_eq_true rfl)
  rw [lg_entry_eq]
  generalize (lg_sl ([.long (p1), .long (p2)]) ++ List.replicate (4 - (lg_sl ([.long (p1), .long (p2)])).length) Slot.unset).toArray = ls at hl ⊢
  have hl : lv_has ls 4 [(0, .long (p1)), (2, .long (p2))] := hl
  have K20 : ∀ (hj : f_M_fits p1 p2 = f_M_fits_20 p1 p2) (ls : Array Slot) (hl : lv_has ls 4 []), W p l e (headSpec w_M_fits ({ frames := 2, cells := 0, slots := 0, locals := 52 } : Room)).room s m ([.long (p1), .long (p2)] : List Value).toArray below meth c s.heap [] 0 0 (MQ below (vp_Si (fun r => r = bI (f_M_fits p1 p2))) ([.long (p1), .long (p2)] : List Value).toArray s 0 0 (fun _ => False)) (F0 m 20 ls []) := by
    intro hj ls hl
    refine lv_iconst (v := 1) hx hb d_M_fits_20 (by decide) ?_
    refine lv_goto (tgt := 25) hx hb d_M_fits_21 (by decide) ?_
    have fe : f_M_fits p1 p2 = true := hj.trans rfl
    exact W.zret (v := bI true) hx hb hr (bI_n true) (fun t ht hW => ⟨_, rfl, by rw [fe], ht⟩) t_nil d_M_fits_25
  refine lv_lload_n hx hb d_M_fits_0 rfl (lv_at hl 0 rfl) ?_
  refine lv_lconst (v := 0) hx hb d_M_fits_1 (by decide) ?_
  refine wl_eq (tgt := 20) hx hb d_M_fits_2 d_M_fits_3 (by decide) (fun e1_20 => ?_) (fun e1_20 => ?_)
  · exact K20 (by unfold f_M_fits; first | with_reducible exact if_pos e1_20 | exact if_pos e1_20) ls (lv_sub hl [] rfl)
  · refine lv_ldc2 (v := -1) hx hb hown (hG (.constantLong R_M 49 (-1)) gx42) d_M_fits_6 ?_
    refine lv_lload_n hx hb d_M_fits_9 rfl (lv_at hl 0 rfl) ?_
    refine rc_l (W.runS (As := [.long (-1), .long (p1)]) (rest := []) ⟨hx, hb, hml, hown, hts⟩ (c_M_quotient l (-1) p1) (va_cwS 2 hts (gxS gx157 gx158 gx0 gx159) rfl rfl rfl (by decide +kernel) ⟨(Nat.le_of_ble_eq_true rfl), (Nat.le_of_ble_eq_true rfl)⟩) ⟨bl0, fun U hU hW => ⟨rfl, trivial⟩⟩ rfl rfl hl.1 rfl (lv_room (Nat.le_of_ble_eq_true rfl)) d_M_fits_10 ⟨Nat.zero_le _, Nat.zero_le _⟩) ?_
    refine lv_lload_n hx hb d_M_fits_13 rfl (lv_at hl 1 rfl) ?_
    refine rc_i (W.runS (As := [.long (f_M_quotient (-1) p1), .long (p2)]) (rest := []) ⟨hx, hb, hml, hown, hts⟩ (c_M_below l (f_M_quotient (-1) p1) p2) (va_cwS 2 hts (gxS gx57 gx58 gx0 gx59) rfl rfl rfl (by decide +kernel) ⟨(Nat.le_of_ble_eq_true rfl), (Nat.le_of_ble_eq_true rfl)⟩) ⟨bl0, fun U hU hW => ⟨rfl, trivial⟩⟩ rfl rfl hl.1 rfl (lv_room (Nat.le_of_ble_eq_true rfl)) d_M_fits_14 ⟨Nat.zero_le _, Nat.zero_le _⟩) ?_
    refine wz_ne (tgt := 24) hx hb d_M_fits_17 (by decide) (fun e2_24 => ?_) (fun e2_24 => ?_)
    · refine lv_iconst (v := 0) hx hb d_M_fits_24 (by decide) ?_
      have fe : f_M_fits p1 p2 = false := by unfold f_M_fits; first | with_reducible exact (if_neg e1_20).trans (if_pos e2_24) | exact (if_neg e1_20).trans (if_pos e2_24)
      exact W.zret (v := bI false) hx hb hr (bI_n false) (fun t ht hW => ⟨_, rfl, by rw [fe], ht⟩) t_nil d_M_fits_25
    · exact K20 (by unfold f_M_fits; first | with_reducible exact (if_neg e1_20).trans (if_neg e2_24) | exact (if_neg e1_20).trans (if_neg e2_24)) ls (lv_sub hl [] rfl)
-- isLong
theorem d_M_isLong_0 : decode b_M_isLong 0 = .ok (.lload_n 0, 1) := by decide +kernel
theorem d_M_isLong_1 : decode b_M_isLong 1 = .ok (.lconst 0, 1) := by decide +kernel
theorem d_M_isLong_2 : decode b_M_isLong 2 = .ok (.lcmp, 1) := by decide +kernel
theorem d_M_isLong_3 : decode b_M_isLong 3 = .ok (.ifCond .ge 9, 3) := by decide +kernel
theorem d_M_isLong_6 : decode b_M_isLong 6 = .ok (.lconst 0, 1) := by decide +kernel
theorem d_M_isLong_7 : decode b_M_isLong 7 = .ok (.lload_n 0, 1) := by decide +kernel
theorem d_M_isLong_8 : decode b_M_isLong 8 = .ok (.lsub, 1) := by decide +kernel
theorem d_M_isLong_9 : decode b_M_isLong 9 = .ok (.goto 4, 3) := by decide +kernel
theorem d_M_isLong_12 : decode b_M_isLong 12 = .ok (.lload_n 0, 1) := by decide +kernel
theorem d_M_isLong_13 : decode b_M_isLong 13 = .ok (.lstore 4, 2) := by decide +kernel
theorem d_M_isLong_15 : decode b_M_isLong 15 = .ok (.lload_n 2, 1) := by decide +kernel
theorem d_M_isLong_16 : decode b_M_isLong 16 = .ok (.lconst 0, 1) := by decide +kernel
theorem d_M_isLong_17 : decode b_M_isLong 17 = .ok (.lcmp, 1) := by decide +kernel
theorem d_M_isLong_18 : decode b_M_isLong 18 = .ok (.ifCond .ge 9, 3) := by decide +kernel
theorem d_M_isLong_21 : decode b_M_isLong 21 = .ok (.lconst 0, 1) := by decide +kernel
theorem d_M_isLong_22 : decode b_M_isLong 22 = .ok (.lload_n 2, 1) := by decide +kernel
theorem d_M_isLong_23 : decode b_M_isLong 23 = .ok (.lsub, 1) := by decide +kernel
theorem d_M_isLong_24 : decode b_M_isLong 24 = .ok (.goto 4, 3) := by decide +kernel
theorem d_M_isLong_27 : decode b_M_isLong 27 = .ok (.lload_n 2, 1) := by decide +kernel
theorem d_M_isLong_28 : decode b_M_isLong 28 = .ok (.lstore 6, 2) := by decide +kernel
theorem d_M_isLong_30 : decode b_M_isLong 30 = .ok (.lload 4, 2) := by decide +kernel
theorem d_M_isLong_32 : decode b_M_isLong 32 = .ok (.lload 6, 2) := by decide +kernel
theorem d_M_isLong_34 : decode b_M_isLong 34 = .ok (.invokestatic 51, 3) := by decide +kernel
theorem d_M_isLong_37 : decode b_M_isLong 37 = .ok (.ifCond .ne 5, 3) := by decide +kernel
theorem d_M_isLong_40 : decode b_M_isLong 40 = .ok (.iconst 0, 1) := by decide +kernel
theorem d_M_isLong_41 : decode b_M_isLong 41 = .ok (.ireturn, 1) := by decide +kernel
theorem d_M_isLong_42 : decode b_M_isLong 42 = .ok (.lload 4, 2) := by decide +kernel
theorem d_M_isLong_44 : decode b_M_isLong 44 = .ok (.lload 6, 2) := by decide +kernel
theorem d_M_isLong_46 : decode b_M_isLong 46 = .ok (.lmul, 1) := by decide +kernel
theorem d_M_isLong_47 : decode b_M_isLong 47 = .ok (.lstore 8, 2) := by decide +kernel
theorem d_M_isLong_49 : decode b_M_isLong 49 = .ok (.lload_n 0, 1) := by decide +kernel
theorem d_M_isLong_50 : decode b_M_isLong 50 = .ok (.lconst 0, 1) := by decide +kernel
theorem d_M_isLong_51 : decode b_M_isLong 51 = .ok (.lcmp, 1) := by decide +kernel
theorem d_M_isLong_52 : decode b_M_isLong 52 = .ok (.ifCond .ge 7, 3) := by decide +kernel
theorem d_M_isLong_55 : decode b_M_isLong 55 = .ok (.iconst 1, 1) := by decide +kernel
theorem d_M_isLong_56 : decode b_M_isLong 56 = .ok (.goto 4, 3) := by decide +kernel
theorem d_M_isLong_59 : decode b_M_isLong 59 = .ok (.iconst 0, 1) := by decide +kernel
theorem d_M_isLong_60 : decode b_M_isLong 60 = .ok (.lload_n 2, 1) := by decide +kernel
theorem d_M_isLong_61 : decode b_M_isLong 61 = .ok (.lconst 0, 1) := by decide +kernel
theorem d_M_isLong_62 : decode b_M_isLong 62 = .ok (.lcmp, 1) := by decide +kernel
theorem d_M_isLong_63 : decode b_M_isLong 63 = .ok (.ifCond .ge 7, 3) := by decide +kernel
theorem d_M_isLong_66 : decode b_M_isLong 66 = .ok (.iconst 1, 1) := by decide +kernel
theorem d_M_isLong_67 : decode b_M_isLong 67 = .ok (.goto 4, 3) := by decide +kernel
theorem d_M_isLong_70 : decode b_M_isLong 70 = .ok (.iconst 0, 1) := by decide +kernel
theorem d_M_isLong_71 : decode b_M_isLong 71 = .ok (.if_icmp .eq 7, 3) := by decide +kernel
theorem d_M_isLong_74 : decode b_M_isLong 74 = .ok (.iconst 1, 1) := by decide +kernel
theorem d_M_isLong_75 : decode b_M_isLong 75 = .ok (.goto 4, 3) := by decide +kernel
theorem d_M_isLong_78 : decode b_M_isLong 78 = .ok (.iconst 0, 1) := by decide +kernel
theorem d_M_isLong_79 : decode b_M_isLong 79 = .ok (.istore 10, 2) := by decide +kernel
theorem d_M_isLong_81 : decode b_M_isLong 81 = .ok (.lload 8, 2) := by decide +kernel
theorem d_M_isLong_83 : decode b_M_isLong 83 = .ok (.lconst 0, 1) := by decide +kernel
theorem d_M_isLong_84 : decode b_M_isLong 84 = .ok (.lcmp, 1) := by decide +kernel
theorem d_M_isLong_85 : decode b_M_isLong 85 = .ok (.ifCond .ge 17, 3) := by decide +kernel
theorem d_M_isLong_88 : decode b_M_isLong 88 = .ok (.iload 10, 2) := by decide +kernel
theorem d_M_isLong_90 : decode b_M_isLong 90 = .ok (.ifCond .eq 16, 3) := by decide +kernel
theorem d_M_isLong_93 : decode b_M_isLong 93 = .ok (.lload 8, 2) := by decide +kernel
theorem d_M_isLong_95 : decode b_M_isLong 95 = .ok (.ldc2_w 54, 3) := by decide +kernel
theorem d_M_isLong_98 : decode b_M_isLong 98 = .ok (.lcmp, 1) := by decide +kernel
theorem d_M_isLong_99 : decode b_M_isLong 99 = .ok (.ifCond .ne 7, 3) := by decide +kernel
theorem d_M_isLong_102 : decode b_M_isLong 102 = .ok (.iconst 1, 1) := by decide +kernel
theorem d_M_isLong_103 : decode b_M_isLong 103 = .ok (.goto 4, 3) := by decide +kernel
theorem d_M_isLong_106 : decode b_M_isLong 106 = .ok (.iconst 0, 1) := by decide +kernel
theorem d_M_isLong_107 : decode b_M_isLong 107 = .ok (.ireturn, 1) := by decide +kernel
def f_M_isLong_106 (p1 : Int64) (p2 : Int64) : Bool := false
def f_M_isLong_102 (p1 : Int64) (p2 : Int64) : Bool := true
def f_M_isLong_79 (p1 : Int64) (p2 : Int64) (v47 : Int64) (s79_0 : Bool) : Bool := (if v47 < 0 then (if s79_0 = true then (if v47 = (-9223372036854775808) then f_M_isLong_102 p1 p2 else f_M_isLong_106 p1 p2) else f_M_isLong_106 p1 p2) else f_M_isLong_102 p1 p2)
def f_M_isLong_71 (p1 : Int64) (p2 : Int64) (v47 : Int64) (s71_0 : Bool) (s71_1 : Bool) : Bool := (if (bI s71_1) = (bI s71_0) then f_M_isLong_79 p1 p2 v47 false else f_M_isLong_79 p1 p2 v47 true)
def f_M_isLong_60 (p1 : Int64) (p2 : Int64) (v47 : Int64) (s60_0 : Bool) : Bool := (if p2 < 0 then f_M_isLong_71 p1 p2 v47 true s60_0 else f_M_isLong_71 p1 p2 v47 false s60_0)
def f_M_isLong_47v (p1 : Int64) (p2 : Int64) (v47 : Int64) : Bool := (if p1 < 0 then f_M_isLong_60 p1 p2 v47 true else f_M_isLong_60 p1 p2 v47 false)
def f_M_isLong_28 (p1 : Int64) (p2 : Int64) (s13_0 : Int64) (s28_0 : Int64) : Bool := (if (f_M_fits s13_0 s28_0) = true then f_M_isLong_47v p1 p2 (s13_0 * s28_0) else false)
def f_M_isLong_13 (p1 : Int64) (p2 : Int64) (s13_0 : Int64) : Bool := (if p2 < 0 then f_M_isLong_28 p1 p2 s13_0 ((0 : Int64) - p2) else f_M_isLong_28 p1 p2 s13_0 p2)
def f_M_isLong (p1 : Int64) (p2 : Int64) : Bool := (if p1 < 0 then f_M_isLong_13 p1 p2 ((0 : Int64) - p1) else f_M_isLong_13 p1 p2 p1)
set_option maxRecDepth 100000 in
set_option maxHeartbeats 4000000 in
theorem c_M_isLong (l : Launch) (p1 : Int64) (p2 : Int64) : Met l y_M_isLong w_M_isLong ({ frames := 3, cells := 0, slots := 0, locals := 75 } : Room) (va_Pc [.long (p1), .long (p2)] (fun _ => True)) (vp_Si (fun r => r = bI (f_M_isLong p1 p2))) 0 0 (fun _ => False) := by
  refine Met.ofW (cc := b_M_isLong) (maxL := 11) (ret := (some .boolean)) (by decide) rfl ?_
  intro p e s m args below meth c s₁ B hml hv
  obtain ⟨rfl, -⟩ := hv
  have hx := B.exec
  have hb := B.bytes
  have hr := B.returns
  have hts := atoms_spec (ws := w_M_isLong) B.pre
  have hG : ∀ w ∈ gM, w.before _ s = true := fun w h => hts w (List.mem_cons_of_mem _ h)
  have hown : s.vm.findClass R_M = some m.cls := findClass_of_methodNamed B.named
  have hlocks := B.notSynchronized
  have hl := lv_entry ([.long (p1), .long (p2)]) (n := 11) (Nat.le_of_ble_eq_true rfl)
  rw [lg_entry_eq]
  generalize (lg_sl ([.long (p1), .long (p2)]) ++ List.replicate (11 - (lg_sl ([.long (p1), .long (p2)])).length) Slot.unset).toArray = ls at hl ⊢
  have hl : lv_has ls 11 [(0, .long (p1)), (2, .long (p2))] := hl
  have K106 : ∀ (hj : f_M_isLong p1 p2 = f_M_isLong_106 p1 p2) (ls : Array Slot) (hl : lv_has ls 11 []), W p l e (headSpec w_M_isLong ({ frames := 3, cells := 0, slots := 0, locals := 75 } : Room)).room s m ([.long (p1), .long (p2)] : List Value).toArray below meth c s.heap [] 0 0 (MQ below (vp_Si (fun r => r = bI (f_M_isLong p1 p2))) ([.long (p1), .long (p2)] : List Value).toArray s 0 0 (fun _ => False)) (F0 m 106 ls []) := by
    intro hj ls hl
    refine lv_iconst (v := 0) hx hb d_M_isLong_106 (by decide) ?_
    have fe : f_M_isLong p1 p2 = false := hj.trans rfl
    exact W.zret (v := bI false) hx hb hr (bI_n false) (fun t ht hW => ⟨_, rfl, by rw [fe], ht⟩) t_nil d_M_isLong_107
  have K102 : ∀ (hj : f_M_isLong p1 p2 = f_M_isLong_102 p1 p2) (ls : Array Slot) (hl : lv_has ls 11 []), W p l e (headSpec w_M_isLong ({ frames := 3, cells := 0, slots := 0, locals := 75 } : Room)).room s m ([.long (p1), .long (p2)] : List Value).toArray below meth c s.heap [] 0 0 (MQ below (vp_Si (fun r => r = bI (f_M_isLong p1 p2))) ([.long (p1), .long (p2)] : List Value).toArray s 0 0 (fun _ => False)) (F0 m 102 ls []) := by
    intro hj ls hl
    refine lv_iconst (v := 1) hx hb d_M_isLong_102 (by decide) ?_
    refine lv_goto (tgt := 107) hx hb d_M_isLong_103 (by decide) ?_
    have fe : f_M_isLong p1 p2 = true := hj.trans rfl
    exact W.zret (v := bI true) hx hb hr (bI_n true) (fun t ht hW => ⟨_, rfl, by rw [fe], ht⟩) t_nil d_M_isLong_107
  have K79 : ∀ (v47 : Int64) (s79_0 : Bool) (hj : f_M_isLong p1 p2 = f_M_isLong_79 p1 p2 v47 s79_0) (ls : Array Slot) (hl : lv_has ls 11 [(8, .long (v47))]), W p l e (headSpec w_M_isLong ({ frames := 3, cells := 0, slots := 0, locals := 75 } : Room)).room s m ([.long (p1), .long (p2)] : List Value).toArray below meth c s.heap [] 0 0 (MQ below (vp_Si (fun r => r = bI (f_M_isLong p1 p2))) ([.long (p1), .long (p2)] : List Value).toArray s 0 0 (fun _ => False)) (F0 m 79 ls [.int (bI s79_0)]) := by
    intro v47 s79_0 hj ls hl
    refine lv_istore (lv' := [(10, .int (bI s79_0)), (8, .long (v47))]) hx hb d_M_isLong_79 hl (by decide) rfl (fun ls hl => ?_)
    refine lv_lload hx hb d_M_isLong_81 (lv_at hl 1 rfl) ?_
    refine lv_lconst (v := 0) hx hb d_M_isLong_83 (by decide) ?_
    refine wl_ge (tgt := 102) hx hb d_M_isLong_84 d_M_isLong_85 (by decide) (fun e1_102 => ?_) (fun e1_102 => ?_)
    · exact K102 (hj.trans (by unfold f_M_isLong_79; first | with_reducible exact if_neg e1_102 | exact if_neg e1_102)) ls (lv_sub hl [] rfl)
    · refine lv_iload hx hb d_M_isLong_88 (lv_at hl 0 rfl) ?_
      refine wz_eq (tgt := 106) hx hb d_M_isLong_90 (by decide) (fun e2_106 => ?_) (fun e2_106 => ?_)
      · exact K106 (hj.trans (by unfold f_M_isLong_79; first | with_reducible exact (if_pos e1_102).trans (if_neg e2_106) | exact (if_pos e1_102).trans (if_neg e2_106))) ls (lv_sub hl [] rfl)
      · refine lv_lload hx hb d_M_isLong_93 (lv_at hl 1 rfl) ?_
        refine lv_ldc2 (v := -9223372036854775808) hx hb hown (hG (.constantLong R_M 54 (-9223372036854775808)) gx43) d_M_isLong_95 ?_
        refine wl_ne (tgt := 106) hx hb d_M_isLong_98 d_M_isLong_99 (by decide) (fun e3_106 => ?_) (fun e3_106 => ?_)
        · exact K106 (hj.trans (by unfold f_M_isLong_79; first | with_reducible exact (if_pos e1_102).trans ((if_pos e2_106).trans (if_neg e3_106)) | exact (if_pos e1_102).trans ((if_pos e2_106).trans (if_neg e3_106)))) ls (lv_sub hl [] rfl)
        · exact K102 (hj.trans (by unfold f_M_isLong_79; first | with_reducible exact (if_pos e1_102).trans ((if_pos e2_106).trans (if_pos e3_106)) | exact (if_pos e1_102).trans ((if_pos e2_106).trans (if_pos e3_106)))) ls (lv_sub hl [] rfl)
  have K71 : ∀ (v47 : Int64) (s71_0 : Bool) (s71_1 : Bool) (hj : f_M_isLong p1 p2 = f_M_isLong_71 p1 p2 v47 s71_0 s71_1) (ls : Array Slot) (hl : lv_has ls 11 [(8, .long (v47))]), W p l e (headSpec w_M_isLong ({ frames := 3, cells := 0, slots := 0, locals := 75 } : Room)).room s m ([.long (p1), .long (p2)] : List Value).toArray below meth c s.heap [] 0 0 (MQ below (vp_Si (fun r => r = bI (f_M_isLong p1 p2))) ([.long (p1), .long (p2)] : List Value).toArray s 0 0 (fun _ => False)) (F0 m 71 ls [.int (bI s71_0), .int (bI s71_1)]) := by
    intro v47 s71_0 s71_1 hj ls hl
    refine lv_icmp_eq (tgt := 78) hx hb d_M_isLong_71 (by decide) (fun e1_78 => ?_) (fun e1_78 => ?_)
    · refine lv_iconst (v := 0) hx hb d_M_isLong_78 (by decide) ?_
      exact K79 v47 false (hj.trans (by unfold f_M_isLong_71; first | with_reducible exact if_pos e1_78 | exact if_pos e1_78)) ls (lv_sub hl [0] rfl)
    · refine lv_iconst (v := 1) hx hb d_M_isLong_74 (by decide) ?_
      refine lv_goto (tgt := 79) hx hb d_M_isLong_75 (by decide) ?_
      exact K79 v47 true (hj.trans (by unfold f_M_isLong_71; first | with_reducible exact if_neg e1_78 | exact if_neg e1_78)) ls (lv_sub hl [0] rfl)
  have K60 : ∀ (v47 : Int64) (s60_0 : Bool) (hj : f_M_isLong p1 p2 = f_M_isLong_60 p1 p2 v47 s60_0) (ls : Array Slot) (hl : lv_has ls 11 [(8, .long (v47)), (2, .long (p2))]), W p l e (headSpec w_M_isLong ({ frames := 3, cells := 0, slots := 0, locals := 75 } : Room)).room s m ([.long (p1), .long (p2)] : List Value).toArray below meth c s.heap [] 0 0 (MQ below (vp_Si (fun r => r = bI (f_M_isLong p1 p2))) ([.long (p1), .long (p2)] : List Value).toArray s 0 0 (fun _ => False)) (F0 m 60 ls [.int (bI s60_0)]) := by
    intro v47 s60_0 hj ls hl
    refine lv_lload_n hx hb d_M_isLong_60 rfl (lv_at hl 1 rfl) ?_
    refine lv_lconst (v := 0) hx hb d_M_isLong_61 (by decide) ?_
    refine wl_ge (tgt := 70) hx hb d_M_isLong_62 d_M_isLong_63 (by decide) (fun e1_70 => ?_) (fun e1_70 => ?_)
    · refine lv_iconst (v := 0) hx hb d_M_isLong_70 (by decide) ?_
      exact K71 v47 false s60_0 (hj.trans (by unfold f_M_isLong_60; first | with_reducible exact if_neg e1_70 | exact if_neg e1_70)) ls (lv_sub hl [0] rfl)
    · refine lv_iconst (v := 1) hx hb d_M_isLong_66 (by decide) ?_
      refine lv_goto (tgt := 71) hx hb d_M_isLong_67 (by decide) ?_
      exact K71 v47 true s60_0 (hj.trans (by unfold f_M_isLong_60; first | with_reducible exact if_pos e1_70 | exact if_pos e1_70)) ls (lv_sub hl [0] rfl)
  have K47v : ∀ (v47 : Int64) (hj : f_M_isLong p1 p2 = f_M_isLong_47v p1 p2 v47) (ls : Array Slot) (hl : lv_has ls 11 [(8, .long (v47)), (0, .long (p1)), (2, .long (p2))]), W p l e (headSpec w_M_isLong ({ frames := 3, cells := 0, slots := 0, locals := 75 } : Room)).room s m ([.long (p1), .long (p2)] : List Value).toArray below meth c s.heap [] 0 0 (MQ below (vp_Si (fun r => r = bI (f_M_isLong p1 p2))) ([.long (p1), .long (p2)] : List Value).toArray s 0 0 (fun _ => False)) (F0 m 49 ls []) := by
    intro v47 hj ls hl
    refine lv_lload_n hx hb d_M_isLong_49 rfl (lv_at hl 1 rfl) ?_
    refine lv_lconst (v := 0) hx hb d_M_isLong_50 (by decide) ?_
    refine wl_ge (tgt := 59) hx hb d_M_isLong_51 d_M_isLong_52 (by decide) (fun e1_59 => ?_) (fun e1_59 => ?_)
    · refine lv_iconst (v := 0) hx hb d_M_isLong_59 (by decide) ?_
      exact K60 v47 false (hj.trans (by unfold f_M_isLong_47v; first | with_reducible exact if_neg e1_59 | exact if_neg e1_59)) ls (lv_sub hl [0, 2] rfl)
    · refine lv_iconst (v := 1) hx hb d_M_isLong_55 (by decide) ?_
      refine lv_goto (tgt := 60) hx hb d_M_isLong_56 (by decide) ?_
      exact K60 v47 true (hj.trans (by unfold f_M_isLong_47v; first | with_reducible exact if_pos e1_59 | exact if_pos e1_59)) ls (lv_sub hl [0, 2] rfl)
  have K28 : ∀ (s13_0 : Int64) (s28_0 : Int64) (hj : f_M_isLong p1 p2 = f_M_isLong_28 p1 p2 s13_0 s28_0) (ls : Array Slot) (hl : lv_has ls 11 [(4, .long (s13_0)), (0, .long (p1)), (2, .long (p2))]), W p l e (headSpec w_M_isLong ({ frames := 3, cells := 0, slots := 0, locals := 75 } : Room)).room s m ([.long (p1), .long (p2)] : List Value).toArray below meth c s.heap [] 0 0 (MQ below (vp_Si (fun r => r = bI (f_M_isLong p1 p2))) ([.long (p1), .long (p2)] : List Value).toArray s 0 0 (fun _ => False)) (F0 m 28 ls [.long (s28_0)]) := by
    intro s13_0 s28_0 hj ls hl
    refine lv_lstore (lv' := [(6, .long (s28_0)), (4, .long (s13_0)), (0, .long (p1)), (2, .long (p2))]) hx hb d_M_isLong_28 hl (by decide) rfl (fun ls hl => ?_)
    refine lv_lload hx hb d_M_isLong_30 (lv_at hl 1 rfl) ?_
    refine lv_lload hx hb d_M_isLong_32 (lv_at hl 0 rfl) ?_
    refine rc_i (W.runS (As := [.long (s13_0), .long (s28_0)]) (rest := []) ⟨hx, hb, hml, hown, hts⟩ (c_M_fits l s13_0 s28_0) (va_cwS 2 hts (gxS gx154 gx155 gx0 gx156) rfl rfl rfl (by decide +kernel) ⟨(Nat.le_of_ble_eq_true rfl), (Nat.le_of_ble_eq_true rfl)⟩) ⟨bl0, fun U hU hW => ⟨rfl, trivial⟩⟩ rfl rfl hl.1 rfl (lv_room (Nat.le_of_ble_eq_true rfl)) d_M_isLong_34 ⟨Nat.zero_le _, Nat.zero_le _⟩) ?_
    refine wz_ne (tgt := 42) hx hb d_M_isLong_37 (by decide) (fun e1_42 => ?_) (fun e1_42 => ?_)
    · refine lv_lload hx hb d_M_isLong_42 (lv_at hl 1 rfl) ?_
      refine lv_lload hx hb d_M_isLong_44 (lv_at hl 0 rfl) ?_
      refine lv_lmul hx hb d_M_isLong_46 ?_
      refine lv_topl (fun v47 ev47 => ?_)
      refine lv_lstore (lv' := [(8, .long (v47)), (6, .long (s28_0)), (4, .long (s13_0)), (0, .long (p1)), (2, .long (p2))]) hx hb d_M_isLong_47 hl (by decide) rfl (fun ls hl => ?_)
      exact K47v v47 (Eq.trans (hj.trans (by unfold f_M_isLong_28; first | with_reducible exact if_pos e1_42 | exact if_pos e1_42)) (congrArg (fun v47 => f_M_isLong_47v p1 p2 v47) ev47.symm)) ls (lv_sub hl [0, 3, 4] rfl)
    · refine lv_iconst (v := 0) hx hb d_M_isLong_40 (by decide) ?_
      have fe : f_M_isLong p1 p2 = false := hj.trans (by unfold f_M_isLong_28; first | with_reducible exact if_neg e1_42 | exact if_neg e1_42)
      exact W.zret (v := bI false) hx hb hr (bI_n false) (fun t ht hW => ⟨_, rfl, by rw [fe], ht⟩) t_nil d_M_isLong_41
  have K13 : ∀ (s13_0 : Int64) (hj : f_M_isLong p1 p2 = f_M_isLong_13 p1 p2 s13_0) (ls : Array Slot) (hl : lv_has ls 11 [(0, .long (p1)), (2, .long (p2))]), W p l e (headSpec w_M_isLong ({ frames := 3, cells := 0, slots := 0, locals := 75 } : Room)).room s m ([.long (p1), .long (p2)] : List Value).toArray below meth c s.heap [] 0 0 (MQ below (vp_Si (fun r => r = bI (f_M_isLong p1 p2))) ([.long (p1), .long (p2)] : List Value).toArray s 0 0 (fun _ => False)) (F0 m 13 ls [.long (s13_0)]) := by
    intro s13_0 hj ls hl
    refine lv_lstore (lv' := [(4, .long (s13_0)), (0, .long (p1)), (2, .long (p2))]) hx hb d_M_isLong_13 hl (by decide) rfl (fun ls hl => ?_)
    refine lv_lload_n hx hb d_M_isLong_15 rfl (lv_at hl 2 rfl) ?_
    refine lv_lconst (v := 0) hx hb d_M_isLong_16 (by decide) ?_
    refine wl_ge (tgt := 27) hx hb d_M_isLong_17 d_M_isLong_18 (by decide) (fun e1_27 => ?_) (fun e1_27 => ?_)
    · refine lv_lload_n hx hb d_M_isLong_27 rfl (lv_at hl 2 rfl) ?_
      exact K28 s13_0 p2 (hj.trans (by unfold f_M_isLong_13; first | with_reducible exact if_neg e1_27 | exact if_neg e1_27)) ls (lv_sub hl [0, 1, 2] rfl)
    · refine lv_lconst (v := 0) hx hb d_M_isLong_21 (by decide) ?_
      refine lv_lload_n hx hb d_M_isLong_22 rfl (lv_at hl 2 rfl) ?_
      refine lv_lsub hx hb d_M_isLong_23 ?_
      refine lv_goto (tgt := 28) hx hb d_M_isLong_24 (by decide) ?_
      exact K28 s13_0 ((0 : Int64) - p2) (hj.trans (by unfold f_M_isLong_13; first | with_reducible exact if_pos e1_27 | exact if_pos e1_27)) ls (lv_sub hl [0, 1, 2] rfl)
  refine lv_lload_n hx hb d_M_isLong_0 rfl (lv_at hl 0 rfl) ?_
  refine lv_lconst (v := 0) hx hb d_M_isLong_1 (by decide) ?_
  refine wl_ge (tgt := 12) hx hb d_M_isLong_2 d_M_isLong_3 (by decide) (fun e1_12 => ?_) (fun e1_12 => ?_)
  · refine lv_lload_n hx hb d_M_isLong_12 rfl (lv_at hl 0 rfl) ?_
    exact K13 p1 (by unfold f_M_isLong; first | with_reducible exact if_neg e1_12 | exact if_neg e1_12) ls (lv_sub hl [0, 1] rfl)
  · refine lv_lconst (v := 0) hx hb d_M_isLong_6 (by decide) ?_
    refine lv_lload_n hx hb d_M_isLong_7 rfl (lv_at hl 0 rfl) ?_
    refine lv_lsub hx hb d_M_isLong_8 ?_
    refine lv_goto (tgt := 13) hx hb d_M_isLong_9 (by decide) ?_
    exact K13 ((0 : Int64) - p1) (by unfold f_M_isLong; first | with_reducible exact if_pos e1_12 | exact if_pos e1_12) ls (lv_sub hl [0, 1] rfl)
-- sumIsLong
theorem d_M_sumIsLong_0 : decode b_M_sumIsLong 0 = .ok (.lload_n 0, 1) := by decide +kernel
theorem d_M_sumIsLong_1 : decode b_M_sumIsLong 1 = .ok (.lload_n 2, 1) := by decide +kernel
theorem d_M_sumIsLong_2 : decode b_M_sumIsLong 2 = .ok (.ladd, 1) := by decide +kernel
theorem d_M_sumIsLong_3 : decode b_M_sumIsLong 3 = .ok (.lstore 4, 2) := by decide +kernel
theorem d_M_sumIsLong_5 : decode b_M_sumIsLong 5 = .ok (.lload_n 0, 1) := by decide +kernel
theorem d_M_sumIsLong_6 : decode b_M_sumIsLong 6 = .ok (.lconst 0, 1) := by decide +kernel
theorem d_M_sumIsLong_7 : decode b_M_sumIsLong 7 = .ok (.lcmp, 1) := by decide +kernel
theorem d_M_sumIsLong_8 : decode b_M_sumIsLong 8 = .ok (.ifCond .ge 7, 3) := by decide +kernel
theorem d_M_sumIsLong_11 : decode b_M_sumIsLong 11 = .ok (.iconst 1, 1) := by decide +kernel
theorem d_M_sumIsLong_12 : decode b_M_sumIsLong 12 = .ok (.goto 4, 3) := by decide +kernel
theorem d_M_sumIsLong_15 : decode b_M_sumIsLong 15 = .ok (.iconst 0, 1) := by decide +kernel
theorem d_M_sumIsLong_16 : decode b_M_sumIsLong 16 = .ok (.lload_n 2, 1) := by decide +kernel
theorem d_M_sumIsLong_17 : decode b_M_sumIsLong 17 = .ok (.lconst 0, 1) := by decide +kernel
theorem d_M_sumIsLong_18 : decode b_M_sumIsLong 18 = .ok (.lcmp, 1) := by decide +kernel
theorem d_M_sumIsLong_19 : decode b_M_sumIsLong 19 = .ok (.ifCond .ge 7, 3) := by decide +kernel
theorem d_M_sumIsLong_22 : decode b_M_sumIsLong 22 = .ok (.iconst 1, 1) := by decide +kernel
theorem d_M_sumIsLong_23 : decode b_M_sumIsLong 23 = .ok (.goto 4, 3) := by decide +kernel
theorem d_M_sumIsLong_26 : decode b_M_sumIsLong 26 = .ok (.iconst 0, 1) := by decide +kernel
theorem d_M_sumIsLong_27 : decode b_M_sumIsLong 27 = .ok (.if_icmp .ne 29, 3) := by decide +kernel
theorem d_M_sumIsLong_30 : decode b_M_sumIsLong 30 = .ok (.lload 4, 2) := by decide +kernel
theorem d_M_sumIsLong_32 : decode b_M_sumIsLong 32 = .ok (.lconst 0, 1) := by decide +kernel
theorem d_M_sumIsLong_33 : decode b_M_sumIsLong 33 = .ok (.lcmp, 1) := by decide +kernel
theorem d_M_sumIsLong_34 : decode b_M_sumIsLong 34 = .ok (.ifCond .ge 7, 3) := by decide +kernel
theorem d_M_sumIsLong_37 : decode b_M_sumIsLong 37 = .ok (.iconst 1, 1) := by decide +kernel
theorem d_M_sumIsLong_38 : decode b_M_sumIsLong 38 = .ok (.goto 4, 3) := by decide +kernel
theorem d_M_sumIsLong_41 : decode b_M_sumIsLong 41 = .ok (.iconst 0, 1) := by decide +kernel
theorem d_M_sumIsLong_42 : decode b_M_sumIsLong 42 = .ok (.lload_n 0, 1) := by decide +kernel
theorem d_M_sumIsLong_43 : decode b_M_sumIsLong 43 = .ok (.lconst 0, 1) := by decide +kernel
theorem d_M_sumIsLong_44 : decode b_M_sumIsLong 44 = .ok (.lcmp, 1) := by decide +kernel
theorem d_M_sumIsLong_45 : decode b_M_sumIsLong 45 = .ok (.ifCond .ge 7, 3) := by decide +kernel
theorem d_M_sumIsLong_48 : decode b_M_sumIsLong 48 = .ok (.iconst 1, 1) := by decide +kernel
theorem d_M_sumIsLong_49 : decode b_M_sumIsLong 49 = .ok (.goto 4, 3) := by decide +kernel
theorem d_M_sumIsLong_52 : decode b_M_sumIsLong 52 = .ok (.iconst 0, 1) := by decide +kernel
theorem d_M_sumIsLong_53 : decode b_M_sumIsLong 53 = .ok (.if_icmp .ne 7, 3) := by decide +kernel
theorem d_M_sumIsLong_56 : decode b_M_sumIsLong 56 = .ok (.iconst 1, 1) := by decide +kernel
theorem d_M_sumIsLong_57 : decode b_M_sumIsLong 57 = .ok (.goto 4, 3) := by decide +kernel
theorem d_M_sumIsLong_60 : decode b_M_sumIsLong 60 = .ok (.iconst 0, 1) := by decide +kernel
theorem d_M_sumIsLong_61 : decode b_M_sumIsLong 61 = .ok (.ireturn, 1) := by decide +kernel
def f_M_sumIsLong_56 (p1 : Int64) (p2 : Int64) : Bool := true
def f_M_sumIsLong_53 (p1 : Int64) (p2 : Int64) (s53_0 : Bool) (s53_1 : Bool) : Bool := (if (bI s53_1) = (bI s53_0) then f_M_sumIsLong_56 p1 p2 else false)
def f_M_sumIsLong_42 (p1 : Int64) (p2 : Int64) (s42_0 : Bool) : Bool := (if p1 < 0 then f_M_sumIsLong_53 p1 p2 true s42_0 else f_M_sumIsLong_53 p1 p2 false s42_0)
def f_M_sumIsLong_27 (p1 : Int64) (p2 : Int64) (v3 : Int64) (s27_0 : Bool) (s27_1 : Bool) : Bool := (if (bI s27_1) = (bI s27_0) then (if v3 < 0 then f_M_sumIsLong_42 p1 p2 true else f_M_sumIsLong_42 p1 p2 false) else f_M_sumIsLong_56 p1 p2)
def f_M_sumIsLong_16 (p1 : Int64) (p2 : Int64) (v3 : Int64) (s16_0 : Bool) : Bool := (if p2 < 0 then f_M_sumIsLong_27 p1 p2 v3 true s16_0 else f_M_sumIsLong_27 p1 p2 v3 false s16_0)
def f_M_sumIsLong_3v (p1 : Int64) (p2 : Int64) (v3 : Int64) : Bool := (if p1 < 0 then f_M_sumIsLong_16 p1 p2 v3 true else f_M_sumIsLong_16 p1 p2 v3 false)
def f_M_sumIsLong (p1 : Int64) (p2 : Int64) : Bool := f_M_sumIsLong_3v p1 p2 (p1 + p2)
set_option maxRecDepth 100000 in
set_option maxHeartbeats 4000000 in
theorem c_M_sumIsLong (l : Launch) (p1 : Int64) (p2 : Int64) : Met l y_M_sumIsLong w_M_sumIsLong ({ frames := 0, cells := 0, slots := 0, locals := 0 } : Room) (va_Pc [.long (p1), .long (p2)] (fun _ => True)) (vp_Si (fun r => r = bI (f_M_sumIsLong p1 p2))) 0 0 (fun _ => False) := by
  refine Met.ofW (cc := b_M_sumIsLong) (maxL := 6) (ret := (some .boolean)) (by decide) rfl ?_
  intro p e s m args below meth c s₁ B hml hv
  obtain ⟨rfl, -⟩ := hv
  have hx := B.exec
  have hb := B.bytes
  have hr := B.returns
  have hts := atoms_spec (ws := w_M_sumIsLong) B.pre
  have hG : ∀ w ∈ gM, w.before _ s = true := fun w h => hts w (List.mem_cons_of_mem _ h)
  have hown : s.vm.findClass R_M = some m.cls := findClass_of_methodNamed B.named
  have hlocks := B.notSynchronized
  have hl := lv_entry ([.long (p1), .long (p2)]) (n := 6) (Nat.le_of_ble_eq_true rfl)
  rw [lg_entry_eq]
  generalize (lg_sl ([.long (p1), .long (p2)]) ++ List.replicate (6 - (lg_sl ([.long (p1), .long (p2)])).length) Slot.unset).toArray = ls at hl ⊢
  have hl : lv_has ls 6 [(0, .long (p1)), (2, .long (p2))] := hl
  have K56 : ∀ (hj : f_M_sumIsLong p1 p2 = f_M_sumIsLong_56 p1 p2) (ls : Array Slot) (hl : lv_has ls 6 []), W p l e (headSpec w_M_sumIsLong ({ frames := 0, cells := 0, slots := 0, locals := 0 } : Room)).room s m ([.long (p1), .long (p2)] : List Value).toArray below meth c s.heap [] 0 0 (MQ below (vp_Si (fun r => r = bI (f_M_sumIsLong p1 p2))) ([.long (p1), .long (p2)] : List Value).toArray s 0 0 (fun _ => False)) (F0 m 56 ls []) := by
    intro hj ls hl
    refine lv_iconst (v := 1) hx hb d_M_sumIsLong_56 (by decide) ?_
    refine lv_goto (tgt := 61) hx hb d_M_sumIsLong_57 (by decide) ?_
    have fe : f_M_sumIsLong p1 p2 = true := hj.trans rfl
    exact W.zret (v := bI true) hx hb hr (bI_n true) (fun t ht hW => ⟨_, rfl, by rw [fe], ht⟩) t_nil d_M_sumIsLong_61
  have K53 : ∀ (s53_0 : Bool) (s53_1 : Bool) (hj : f_M_sumIsLong p1 p2 = f_M_sumIsLong_53 p1 p2 s53_0 s53_1) (ls : Array Slot) (hl : lv_has ls 6 []), W p l e (headSpec w_M_sumIsLong ({ frames := 0, cells := 0, slots := 0, locals := 0 } : Room)).room s m ([.long (p1), .long (p2)] : List Value).toArray below meth c s.heap [] 0 0 (MQ below (vp_Si (fun r => r = bI (f_M_sumIsLong p1 p2))) ([.long (p1), .long (p2)] : List Value).toArray s 0 0 (fun _ => False)) (F0 m 53 ls [.int (bI s53_0), .int (bI s53_1)]) := by
    intro s53_0 s53_1 hj ls hl
    refine lv_icmp_ne (tgt := 60) hx hb d_M_sumIsLong_53 (by decide) (fun e1_60 => ?_) (fun e1_60 => ?_)
    · refine lv_iconst (v := 0) hx hb d_M_sumIsLong_60 (by decide) ?_
      have fe : f_M_sumIsLong p1 p2 = false := hj.trans (by unfold f_M_sumIsLong_53; first | with_reducible exact if_neg e1_60 | exact if_neg e1_60)
      exact W.zret (v := bI false) hx hb hr (bI_n false) (fun t ht hW => ⟨_, rfl, by rw [fe], ht⟩) t_nil d_M_sumIsLong_61
    · exact K56 (hj.trans (by unfold f_M_sumIsLong_53; first | with_reducible exact if_pos e1_60 | exact if_pos e1_60)) ls (lv_sub hl [] rfl)
  have K42 : ∀ (s42_0 : Bool) (hj : f_M_sumIsLong p1 p2 = f_M_sumIsLong_42 p1 p2 s42_0) (ls : Array Slot) (hl : lv_has ls 6 [(0, .long (p1))]), W p l e (headSpec w_M_sumIsLong ({ frames := 0, cells := 0, slots := 0, locals := 0 } : Room)).room s m ([.long (p1), .long (p2)] : List Value).toArray below meth c s.heap [] 0 0 (MQ below (vp_Si (fun r => r = bI (f_M_sumIsLong p1 p2))) ([.long (p1), .long (p2)] : List Value).toArray s 0 0 (fun _ => False)) (F0 m 42 ls [.int (bI s42_0)]) := by
    intro s42_0 hj ls hl
    refine lv_lload_n hx hb d_M_sumIsLong_42 rfl (lv_at hl 0 rfl) ?_
    refine lv_lconst (v := 0) hx hb d_M_sumIsLong_43 (by decide) ?_
    refine wl_ge (tgt := 52) hx hb d_M_sumIsLong_44 d_M_sumIsLong_45 (by decide) (fun e1_52 => ?_) (fun e1_52 => ?_)
    · refine lv_iconst (v := 0) hx hb d_M_sumIsLong_52 (by decide) ?_
      exact K53 false s42_0 (hj.trans (by unfold f_M_sumIsLong_42; first | with_reducible exact if_neg e1_52 | exact if_neg e1_52)) ls (lv_sub hl [] rfl)
    · refine lv_iconst (v := 1) hx hb d_M_sumIsLong_48 (by decide) ?_
      refine lv_goto (tgt := 53) hx hb d_M_sumIsLong_49 (by decide) ?_
      exact K53 true s42_0 (hj.trans (by unfold f_M_sumIsLong_42; first | with_reducible exact if_pos e1_52 | exact if_pos e1_52)) ls (lv_sub hl [] rfl)
  have K27 : ∀ (v3 : Int64) (s27_0 : Bool) (s27_1 : Bool) (hj : f_M_sumIsLong p1 p2 = f_M_sumIsLong_27 p1 p2 v3 s27_0 s27_1) (ls : Array Slot) (hl : lv_has ls 6 [(4, .long (v3)), (0, .long (p1))]), W p l e (headSpec w_M_sumIsLong ({ frames := 0, cells := 0, slots := 0, locals := 0 } : Room)).room s m ([.long (p1), .long (p2)] : List Value).toArray below meth c s.heap [] 0 0 (MQ below (vp_Si (fun r => r = bI (f_M_sumIsLong p1 p2))) ([.long (p1), .long (p2)] : List Value).toArray s 0 0 (fun _ => False)) (F0 m 27 ls [.int (bI s27_0), .int (bI s27_1)]) := by
    intro v3 s27_0 s27_1 hj ls hl
    refine lv_icmp_ne (tgt := 56) hx hb d_M_sumIsLong_27 (by decide) (fun e1_56 => ?_) (fun e1_56 => ?_)
    · exact K56 (hj.trans (by unfold f_M_sumIsLong_27; first | with_reducible exact if_neg e1_56 | exact if_neg e1_56)) ls (lv_sub hl [] rfl)
    · refine lv_lload hx hb d_M_sumIsLong_30 (lv_at hl 0 rfl) ?_
      refine lv_lconst (v := 0) hx hb d_M_sumIsLong_32 (by decide) ?_
      refine wl_ge (tgt := 41) hx hb d_M_sumIsLong_33 d_M_sumIsLong_34 (by decide) (fun e2_41 => ?_) (fun e2_41 => ?_)
      · refine lv_iconst (v := 0) hx hb d_M_sumIsLong_41 (by decide) ?_
        exact K42 false (hj.trans (by unfold f_M_sumIsLong_27; first | with_reducible exact (if_pos e1_56).trans (if_neg e2_41) | exact (if_pos e1_56).trans (if_neg e2_41))) ls (lv_sub hl [1] rfl)
      · refine lv_iconst (v := 1) hx hb d_M_sumIsLong_37 (by decide) ?_
        refine lv_goto (tgt := 42) hx hb d_M_sumIsLong_38 (by decide) ?_
        exact K42 true (hj.trans (by unfold f_M_sumIsLong_27; first | with_reducible exact (if_pos e1_56).trans (if_pos e2_41) | exact (if_pos e1_56).trans (if_pos e2_41))) ls (lv_sub hl [1] rfl)
  have K16 : ∀ (v3 : Int64) (s16_0 : Bool) (hj : f_M_sumIsLong p1 p2 = f_M_sumIsLong_16 p1 p2 v3 s16_0) (ls : Array Slot) (hl : lv_has ls 6 [(4, .long (v3)), (0, .long (p1)), (2, .long (p2))]), W p l e (headSpec w_M_sumIsLong ({ frames := 0, cells := 0, slots := 0, locals := 0 } : Room)).room s m ([.long (p1), .long (p2)] : List Value).toArray below meth c s.heap [] 0 0 (MQ below (vp_Si (fun r => r = bI (f_M_sumIsLong p1 p2))) ([.long (p1), .long (p2)] : List Value).toArray s 0 0 (fun _ => False)) (F0 m 16 ls [.int (bI s16_0)]) := by
    intro v3 s16_0 hj ls hl
    refine lv_lload_n hx hb d_M_sumIsLong_16 rfl (lv_at hl 2 rfl) ?_
    refine lv_lconst (v := 0) hx hb d_M_sumIsLong_17 (by decide) ?_
    refine wl_ge (tgt := 26) hx hb d_M_sumIsLong_18 d_M_sumIsLong_19 (by decide) (fun e1_26 => ?_) (fun e1_26 => ?_)
    · refine lv_iconst (v := 0) hx hb d_M_sumIsLong_26 (by decide) ?_
      exact K27 v3 false s16_0 (hj.trans (by unfold f_M_sumIsLong_16; first | with_reducible exact if_neg e1_26 | exact if_neg e1_26)) ls (lv_sub hl [0, 1] rfl)
    · refine lv_iconst (v := 1) hx hb d_M_sumIsLong_22 (by decide) ?_
      refine lv_goto (tgt := 27) hx hb d_M_sumIsLong_23 (by decide) ?_
      exact K27 v3 true s16_0 (hj.trans (by unfold f_M_sumIsLong_16; first | with_reducible exact if_pos e1_26 | exact if_pos e1_26)) ls (lv_sub hl [0, 1] rfl)
  have K3v : ∀ (v3 : Int64) (hj : f_M_sumIsLong p1 p2 = f_M_sumIsLong_3v p1 p2 v3) (ls : Array Slot) (hl : lv_has ls 6 [(4, .long (v3)), (0, .long (p1)), (2, .long (p2))]), W p l e (headSpec w_M_sumIsLong ({ frames := 0, cells := 0, slots := 0, locals := 0 } : Room)).room s m ([.long (p1), .long (p2)] : List Value).toArray below meth c s.heap [] 0 0 (MQ below (vp_Si (fun r => r = bI (f_M_sumIsLong p1 p2))) ([.long (p1), .long (p2)] : List Value).toArray s 0 0 (fun _ => False)) (F0 m 5 ls []) := by
    intro v3 hj ls hl
    refine lv_lload_n hx hb d_M_sumIsLong_5 rfl (lv_at hl 1 rfl) ?_
    refine lv_lconst (v := 0) hx hb d_M_sumIsLong_6 (by decide) ?_
    refine wl_ge (tgt := 15) hx hb d_M_sumIsLong_7 d_M_sumIsLong_8 (by decide) (fun e1_15 => ?_) (fun e1_15 => ?_)
    · refine lv_iconst (v := 0) hx hb d_M_sumIsLong_15 (by decide) ?_
      exact K16 v3 false (hj.trans (by unfold f_M_sumIsLong_3v; first | with_reducible exact if_neg e1_15 | exact if_neg e1_15)) ls (lv_sub hl [0, 1, 2] rfl)
    · refine lv_iconst (v := 1) hx hb d_M_sumIsLong_11 (by decide) ?_
      refine lv_goto (tgt := 16) hx hb d_M_sumIsLong_12 (by decide) ?_
      exact K16 v3 true (hj.trans (by unfold f_M_sumIsLong_3v; first | with_reducible exact if_pos e1_15 | exact if_pos e1_15)) ls (lv_sub hl [0, 1, 2] rfl)
  refine lv_lload_n hx hb d_M_sumIsLong_0 rfl (lv_at hl 0 rfl) ?_
  refine lv_lload_n hx hb d_M_sumIsLong_1 rfl (lv_at hl 1 rfl) ?_
  refine lv_ladd hx hb d_M_sumIsLong_2 ?_
  refine lv_topl (fun v3 ev3 => ?_)
  refine lv_lstore (lv' := [(4, .long (v3)), (0, .long (p1)), (2, .long (p2))]) hx hb d_M_sumIsLong_3 hl (by decide) rfl (fun ls hl => ?_)
  exact K3v v3 (Eq.trans (rfl) (congrArg (fun v3 => f_M_sumIsLong_3v p1 p2 v3) ev3.symm)) ls (lv_sub hl [0, 1, 2] rfl)
-- differenceIsLong
theorem d_M_differenceIsLong_0 : decode b_M_differenceIsLong 0 = .ok (.lload_n 0, 1) := by decide +kernel
theorem d_M_differenceIsLong_1 : decode b_M_differenceIsLong 1 = .ok (.lload_n 2, 1) := by decide +kernel
theorem d_M_differenceIsLong_2 : decode b_M_differenceIsLong 2 = .ok (.lsub, 1) := by decide +kernel
theorem d_M_differenceIsLong_3 : decode b_M_differenceIsLong 3 = .ok (.lstore 4, 2) := by decide +kernel
theorem d_M_differenceIsLong_5 : decode b_M_differenceIsLong 5 = .ok (.lload_n 0, 1) := by decide +kernel
theorem d_M_differenceIsLong_6 : decode b_M_differenceIsLong 6 = .ok (.lconst 0, 1) := by decide +kernel
theorem d_M_differenceIsLong_7 : decode b_M_differenceIsLong 7 = .ok (.lcmp, 1) := by decide +kernel
theorem d_M_differenceIsLong_8 : decode b_M_differenceIsLong 8 = .ok (.ifCond .ge 7, 3) := by decide +kernel
theorem d_M_differenceIsLong_11 : decode b_M_differenceIsLong 11 = .ok (.iconst 1, 1) := by decide +kernel
theorem d_M_differenceIsLong_12 : decode b_M_differenceIsLong 12 = .ok (.goto 4, 3) := by decide +kernel
theorem d_M_differenceIsLong_15 : decode b_M_differenceIsLong 15 = .ok (.iconst 0, 1) := by decide +kernel
theorem d_M_differenceIsLong_16 : decode b_M_differenceIsLong 16 = .ok (.lload_n 2, 1) := by decide +kernel
theorem d_M_differenceIsLong_17 : decode b_M_differenceIsLong 17 = .ok (.lconst 0, 1) := by decide +kernel
theorem d_M_differenceIsLong_18 : decode b_M_differenceIsLong 18 = .ok (.lcmp, 1) := by decide +kernel
theorem d_M_differenceIsLong_19 : decode b_M_differenceIsLong 19 = .ok (.ifCond .ge 7, 3) := by decide +kernel
theorem d_M_differenceIsLong_22 : decode b_M_differenceIsLong 22 = .ok (.iconst 1, 1) := by decide +kernel
theorem d_M_differenceIsLong_23 : decode b_M_differenceIsLong 23 = .ok (.goto 4, 3) := by decide +kernel
theorem d_M_differenceIsLong_26 : decode b_M_differenceIsLong 26 = .ok (.iconst 0, 1) := by decide +kernel
theorem d_M_differenceIsLong_27 : decode b_M_differenceIsLong 27 = .ok (.if_icmp .eq 29, 3) := by decide +kernel
theorem d_M_differenceIsLong_30 : decode b_M_differenceIsLong 30 = .ok (.lload 4, 2) := by decide +kernel
theorem d_M_differenceIsLong_32 : decode b_M_differenceIsLong 32 = .ok (.lconst 0, 1) := by decide +kernel
theorem d_M_differenceIsLong_33 : decode b_M_differenceIsLong 33 = .ok (.lcmp, 1) := by decide +kernel
theorem d_M_differenceIsLong_34 : decode b_M_differenceIsLong 34 = .ok (.ifCond .ge 7, 3) := by decide +kernel
theorem d_M_differenceIsLong_37 : decode b_M_differenceIsLong 37 = .ok (.iconst 1, 1) := by decide +kernel
theorem d_M_differenceIsLong_38 : decode b_M_differenceIsLong 38 = .ok (.goto 4, 3) := by decide +kernel
theorem d_M_differenceIsLong_41 : decode b_M_differenceIsLong 41 = .ok (.iconst 0, 1) := by decide +kernel
theorem d_M_differenceIsLong_42 : decode b_M_differenceIsLong 42 = .ok (.lload_n 0, 1) := by decide +kernel
theorem d_M_differenceIsLong_43 : decode b_M_differenceIsLong 43 = .ok (.lconst 0, 1) := by decide +kernel
theorem d_M_differenceIsLong_44 : decode b_M_differenceIsLong 44 = .ok (.lcmp, 1) := by decide +kernel
theorem d_M_differenceIsLong_45 : decode b_M_differenceIsLong 45 = .ok (.ifCond .ge 7, 3) := by decide +kernel
theorem d_M_differenceIsLong_48 : decode b_M_differenceIsLong 48 = .ok (.iconst 1, 1) := by decide +kernel
theorem d_M_differenceIsLong_49 : decode b_M_differenceIsLong 49 = .ok (.goto 4, 3) := by decide +kernel
theorem d_M_differenceIsLong_52 : decode b_M_differenceIsLong 52 = .ok (.iconst 0, 1) := by decide +kernel
theorem d_M_differenceIsLong_53 : decode b_M_differenceIsLong 53 = .ok (.if_icmp .ne 7, 3) := by decide +kernel
theorem d_M_differenceIsLong_56 : decode b_M_differenceIsLong 56 = .ok (.iconst 1, 1) := by decide +kernel
theorem d_M_differenceIsLong_57 : decode b_M_differenceIsLong 57 = .ok (.goto 4, 3) := by decide +kernel
theorem d_M_differenceIsLong_60 : decode b_M_differenceIsLong 60 = .ok (.iconst 0, 1) := by decide +kernel
theorem d_M_differenceIsLong_61 : decode b_M_differenceIsLong 61 = .ok (.ireturn, 1) := by decide +kernel
def f_M_differenceIsLong_56 (p1 : Int64) (p2 : Int64) : Bool := true
def f_M_differenceIsLong_53 (p1 : Int64) (p2 : Int64) (s53_0 : Bool) (s53_1 : Bool) : Bool := (if (bI s53_1) = (bI s53_0) then f_M_differenceIsLong_56 p1 p2 else false)
def f_M_differenceIsLong_42 (p1 : Int64) (p2 : Int64) (s42_0 : Bool) : Bool := (if p1 < 0 then f_M_differenceIsLong_53 p1 p2 true s42_0 else f_M_differenceIsLong_53 p1 p2 false s42_0)
def f_M_differenceIsLong_27 (p1 : Int64) (p2 : Int64) (v3 : Int64) (s27_0 : Bool) (s27_1 : Bool) : Bool := (if (bI s27_1) = (bI s27_0) then f_M_differenceIsLong_56 p1 p2 else (if v3 < 0 then f_M_differenceIsLong_42 p1 p2 true else f_M_differenceIsLong_42 p1 p2 false))
def f_M_differenceIsLong_16 (p1 : Int64) (p2 : Int64) (v3 : Int64) (s16_0 : Bool) : Bool := (if p2 < 0 then f_M_differenceIsLong_27 p1 p2 v3 true s16_0 else f_M_differenceIsLong_27 p1 p2 v3 false s16_0)
def f_M_differenceIsLong_3v (p1 : Int64) (p2 : Int64) (v3 : Int64) : Bool := (if p1 < 0 then f_M_differenceIsLong_16 p1 p2 v3 true else f_M_differenceIsLong_16 p1 p2 v3 false)
def f_M_differenceIsLong (p1 : Int64) (p2 : Int64) : Bool := f_M_differenceIsLong_3v p1 p2 (p1 - p2)
set_option maxRecDepth 100000 in
set_option maxHeartbeats 4000000 in
theorem c_M_differenceIsLong (l : Launch) (p1 : Int64) (p2 : Int64) : Met l y_M_differenceIsLong w_M_differenceIsLong ({ frames := 0, cells := 0, slots := 0, locals := 0 } : Room) (va_Pc [.long (p1), .long (p2)] (fun _ => True)) (vp_Si (fun r => r = bI (f_M_differenceIsLong p1 p2))) 0 0 (fun _ => False) := by
  refine Met.ofW (cc := b_M_differenceIsLong) (maxL := 6) (ret := (some .boolean)) (by decide) rfl ?_
  intro p e s m args below meth c s₁ B hml hv
  obtain ⟨rfl, -⟩ := hv
  have hx := B.exec
  have hb := B.bytes
  have hr := B.returns
  have hts := atoms_spec (ws := w_M_differenceIsLong) B.pre
  have hG : ∀ w ∈ gM, w.before _ s = true := fun w h => hts w (List.mem_cons_of_mem _ h)
  have hown : s.vm.findClass R_M = some m.cls := findClass_of_methodNamed B.named
  have hlocks := B.notSynchronized
  have hl := lv_entry ([.long (p1), .long (p2)]) (n := 6) (Nat.le_of_ble_eq_true rfl)
  rw [lg_entry_eq]
  generalize (lg_sl ([.long (p1), .long (p2)]) ++ List.replicate (6 - (lg_sl ([.long (p1), .long (p2)])).length) Slot.unset).toArray = ls at hl ⊢
  have hl : lv_has ls 6 [(0, .long (p1)), (2, .long (p2))] := hl
  have K56 : ∀ (hj : f_M_differenceIsLong p1 p2 = f_M_differenceIsLong_56 p1 p2) (ls : Array Slot) (hl : lv_has ls 6 []), W p l e (headSpec w_M_differenceIsLong ({ frames := 0, cells := 0, slots := 0, locals := 0 } : Room)).room s m ([.long (p1), .long (p2)] : List Value).toArray below meth c s.heap [] 0 0 (MQ below (vp_Si (fun r => r = bI (f_M_differenceIsLong p1 p2))) ([.long (p1), .long (p2)] : List Value).toArray s 0 0 (fun _ => False)) (F0 m 56 ls []) := by
    intro hj ls hl
    refine lv_iconst (v := 1) hx hb d_M_differenceIsLong_56 (by decide) ?_
    refine lv_goto (tgt := 61) hx hb d_M_differenceIsLong_57 (by decide) ?_
    have fe : f_M_differenceIsLong p1 p2 = true := hj.trans rfl
    exact W.zret (v := bI true) hx hb hr (bI_n true) (fun t ht hW => ⟨_, rfl, by rw [fe], ht⟩) t_nil d_M_differenceIsLong_61
  have K53 : ∀ (s53_0 : Bool) (s53_1 : Bool) (hj : f_M_differenceIsLong p1 p2 = f_M_differenceIsLong_53 p1 p2 s53_0 s53_1) (ls : Array Slot) (hl : lv_has ls 6 []), W p l e (headSpec w_M_differenceIsLong ({ frames := 0, cells := 0, slots := 0, locals := 0 } : Room)).room s m ([.long (p1), .long (p2)] : List Value).toArray below meth c s.heap [] 0 0 (MQ below (vp_Si (fun r => r = bI (f_M_differenceIsLong p1 p2))) ([.long (p1), .long (p2)] : List Value).toArray s 0 0 (fun _ => False)) (F0 m 53 ls [.int (bI s53_0), .int (bI s53_1)]) := by
    intro s53_0 s53_1 hj ls hl
    refine lv_icmp_ne (tgt := 60) hx hb d_M_differenceIsLong_53 (by decide) (fun e1_60 => ?_) (fun e1_60 => ?_)
    · refine lv_iconst (v := 0) hx hb d_M_differenceIsLong_60 (by decide) ?_
      have fe : f_M_differenceIsLong p1 p2 = false := hj.trans (by unfold f_M_differenceIsLong_53; first | with_reducible exact if_neg e1_60 | exact if_neg e1_60)
      exact W.zret (v := bI false) hx hb hr (bI_n false) (fun t ht hW => ⟨_, rfl, by rw [fe], ht⟩) t_nil d_M_differenceIsLong_61
    · exact K56 (hj.trans (by unfold f_M_differenceIsLong_53; first | with_reducible exact if_pos e1_60 | exact if_pos e1_60)) ls (lv_sub hl [] rfl)
  have K42 : ∀ (s42_0 : Bool) (hj : f_M_differenceIsLong p1 p2 = f_M_differenceIsLong_42 p1 p2 s42_0) (ls : Array Slot) (hl : lv_has ls 6 [(0, .long (p1))]), W p l e (headSpec w_M_differenceIsLong ({ frames := 0, cells := 0, slots := 0, locals := 0 } : Room)).room s m ([.long (p1), .long (p2)] : List Value).toArray below meth c s.heap [] 0 0 (MQ below (vp_Si (fun r => r = bI (f_M_differenceIsLong p1 p2))) ([.long (p1), .long (p2)] : List Value).toArray s 0 0 (fun _ => False)) (F0 m 42 ls [.int (bI s42_0)]) := by
    intro s42_0 hj ls hl
    refine lv_lload_n hx hb d_M_differenceIsLong_42 rfl (lv_at hl 0 rfl) ?_
    refine lv_lconst (v := 0) hx hb d_M_differenceIsLong_43 (by decide) ?_
    refine wl_ge (tgt := 52) hx hb d_M_differenceIsLong_44 d_M_differenceIsLong_45 (by decide) (fun e1_52 => ?_) (fun e1_52 => ?_)
    · refine lv_iconst (v := 0) hx hb d_M_differenceIsLong_52 (by decide) ?_
      exact K53 false s42_0 (hj.trans (by unfold f_M_differenceIsLong_42; first | with_reducible exact if_neg e1_52 | exact if_neg e1_52)) ls (lv_sub hl [] rfl)
    · refine lv_iconst (v := 1) hx hb d_M_differenceIsLong_48 (by decide) ?_
      refine lv_goto (tgt := 53) hx hb d_M_differenceIsLong_49 (by decide) ?_
      exact K53 true s42_0 (hj.trans (by unfold f_M_differenceIsLong_42; first | with_reducible exact if_pos e1_52 | exact if_pos e1_52)) ls (lv_sub hl [] rfl)
  have K27 : ∀ (v3 : Int64) (s27_0 : Bool) (s27_1 : Bool) (hj : f_M_differenceIsLong p1 p2 = f_M_differenceIsLong_27 p1 p2 v3 s27_0 s27_1) (ls : Array Slot) (hl : lv_has ls 6 [(4, .long (v3)), (0, .long (p1))]), W p l e (headSpec w_M_differenceIsLong ({ frames := 0, cells := 0, slots := 0, locals := 0 } : Room)).room s m ([.long (p1), .long (p2)] : List Value).toArray below meth c s.heap [] 0 0 (MQ below (vp_Si (fun r => r = bI (f_M_differenceIsLong p1 p2))) ([.long (p1), .long (p2)] : List Value).toArray s 0 0 (fun _ => False)) (F0 m 27 ls [.int (bI s27_0), .int (bI s27_1)]) := by
    intro v3 s27_0 s27_1 hj ls hl
    refine lv_icmp_eq (tgt := 56) hx hb d_M_differenceIsLong_27 (by decide) (fun e1_56 => ?_) (fun e1_56 => ?_)
    · exact K56 (hj.trans (by unfold f_M_differenceIsLong_27; first | with_reducible exact if_pos e1_56 | exact if_pos e1_56)) ls (lv_sub hl [] rfl)
    · refine lv_lload hx hb d_M_differenceIsLong_30 (lv_at hl 0 rfl) ?_
      refine lv_lconst (v := 0) hx hb d_M_differenceIsLong_32 (by decide) ?_
      refine wl_ge (tgt := 41) hx hb d_M_differenceIsLong_33 d_M_differenceIsLong_34 (by decide) (fun e2_41 => ?_) (fun e2_41 => ?_)
      · refine lv_iconst (v := 0) hx hb d_M_differenceIsLong_41 (by decide) ?_
        exact K42 false (hj.trans (by unfold f_M_differenceIsLong_27; first | with_reducible exact (if_neg e1_56).trans (if_neg e2_41) | exact (if_neg e1_56).trans (if_neg e2_41))) ls (lv_sub hl [1] rfl)
      · refine lv_iconst (v := 1) hx hb d_M_differenceIsLong_37 (by decide) ?_
        refine lv_goto (tgt := 42) hx hb d_M_differenceIsLong_38 (by decide) ?_
        exact K42 true (hj.trans (by unfold f_M_differenceIsLong_27; first | with_reducible exact (if_neg e1_56).trans (if_pos e2_41) | exact (if_neg e1_56).trans (if_pos e2_41))) ls (lv_sub hl [1] rfl)
  have K16 : ∀ (v3 : Int64) (s16_0 : Bool) (hj : f_M_differenceIsLong p1 p2 = f_M_differenceIsLong_16 p1 p2 v3 s16_0) (ls : Array Slot) (hl : lv_has ls 6 [(4, .long (v3)), (0, .long (p1)), (2, .long (p2))]), W p l e (headSpec w_M_differenceIsLong ({ frames := 0, cells := 0, slots := 0, locals := 0 } : Room)).room s m ([.long (p1), .long (p2)] : List Value).toArray below meth c s.heap [] 0 0 (MQ below (vp_Si (fun r => r = bI (f_M_differenceIsLong p1 p2))) ([.long (p1), .long (p2)] : List Value).toArray s 0 0 (fun _ => False)) (F0 m 16 ls [.int (bI s16_0)]) := by
    intro v3 s16_0 hj ls hl
    refine lv_lload_n hx hb d_M_differenceIsLong_16 rfl (lv_at hl 2 rfl) ?_
    refine lv_lconst (v := 0) hx hb d_M_differenceIsLong_17 (by decide) ?_
    refine wl_ge (tgt := 26) hx hb d_M_differenceIsLong_18 d_M_differenceIsLong_19 (by decide) (fun e1_26 => ?_) (fun e1_26 => ?_)
    · refine lv_iconst (v := 0) hx hb d_M_differenceIsLong_26 (by decide) ?_
      exact K27 v3 false s16_0 (hj.trans (by unfold f_M_differenceIsLong_16; first | with_reducible exact if_neg e1_26 | exact if_neg e1_26)) ls (lv_sub hl [0, 1] rfl)
    · refine lv_iconst (v := 1) hx hb d_M_differenceIsLong_22 (by decide) ?_
      refine lv_goto (tgt := 27) hx hb d_M_differenceIsLong_23 (by decide) ?_
      exact K27 v3 true s16_0 (hj.trans (by unfold f_M_differenceIsLong_16; first | with_reducible exact if_pos e1_26 | exact if_pos e1_26)) ls (lv_sub hl [0, 1] rfl)
  have K3v : ∀ (v3 : Int64) (hj : f_M_differenceIsLong p1 p2 = f_M_differenceIsLong_3v p1 p2 v3) (ls : Array Slot) (hl : lv_has ls 6 [(4, .long (v3)), (0, .long (p1)), (2, .long (p2))]), W p l e (headSpec w_M_differenceIsLong ({ frames := 0, cells := 0, slots := 0, locals := 0 } : Room)).room s m ([.long (p1), .long (p2)] : List Value).toArray below meth c s.heap [] 0 0 (MQ below (vp_Si (fun r => r = bI (f_M_differenceIsLong p1 p2))) ([.long (p1), .long (p2)] : List Value).toArray s 0 0 (fun _ => False)) (F0 m 5 ls []) := by
    intro v3 hj ls hl
    refine lv_lload_n hx hb d_M_differenceIsLong_5 rfl (lv_at hl 1 rfl) ?_
    refine lv_lconst (v := 0) hx hb d_M_differenceIsLong_6 (by decide) ?_
    refine wl_ge (tgt := 15) hx hb d_M_differenceIsLong_7 d_M_differenceIsLong_8 (by decide) (fun e1_15 => ?_) (fun e1_15 => ?_)
    · refine lv_iconst (v := 0) hx hb d_M_differenceIsLong_15 (by decide) ?_
      exact K16 v3 false (hj.trans (by unfold f_M_differenceIsLong_3v; first | with_reducible exact if_neg e1_15 | exact if_neg e1_15)) ls (lv_sub hl [0, 1, 2] rfl)
    · refine lv_iconst (v := 1) hx hb d_M_differenceIsLong_11 (by decide) ?_
      refine lv_goto (tgt := 16) hx hb d_M_differenceIsLong_12 (by decide) ?_
      exact K16 v3 true (hj.trans (by unfold f_M_differenceIsLong_3v; first | with_reducible exact if_pos e1_15 | exact if_pos e1_15)) ls (lv_sub hl [0, 1, 2] rfl)
  refine lv_lload_n hx hb d_M_differenceIsLong_0 rfl (lv_at hl 0 rfl) ?_
  refine lv_lload_n hx hb d_M_differenceIsLong_1 rfl (lv_at hl 1 rfl) ?_
  refine lv_lsub hx hb d_M_differenceIsLong_2 ?_
  refine lv_topl (fun v3 ev3 => ?_)
  refine lv_lstore (lv' := [(4, .long (v3)), (0, .long (p1)), (2, .long (p2))]) hx hb d_M_differenceIsLong_3 hl (by decide) rfl (fun ls hl => ?_)
  exact K3v v3 (Eq.trans (rfl) (congrArg (fun v3 => f_M_differenceIsLong_3v p1 p2 v3) ev3.symm)) ls (lv_sub hl [0, 1, 2] rfl)
-- upFrom
theorem d_M_upFrom_0 : decode b_M_upFrom 0 = .ok (.lload_n 0, 1) := by decide +kernel
theorem d_M_upFrom_1 : decode b_M_upFrom 1 = .ok (.lstore 6, 2) := by decide +kernel
theorem d_M_upFrom_3 : decode b_M_upFrom 3 = .ok (.lload_n 2, 1) := by decide +kernel
theorem d_M_upFrom_4 : decode b_M_upFrom 4 = .ok (.lstore 8, 2) := by decide +kernel
theorem d_M_upFrom_6 : decode b_M_upFrom 6 = .ok (.bipush 63, 2) := by decide +kernel
theorem d_M_upFrom_8 : decode b_M_upFrom 8 = .ok (.istore 10, 2) := by decide +kernel
theorem d_M_upFrom_10 : decode b_M_upFrom 10 = .ok (.iload 10, 2) := by decide +kernel
theorem d_M_upFrom_12 : decode b_M_upFrom 12 = .ok (.ifCond .lt 61, 3) := by decide +kernel
theorem d_M_upFrom_15 : decode b_M_upFrom 15 = .ok (.lconst 1, 1) := by decide +kernel
theorem d_M_upFrom_16 : decode b_M_upFrom 16 = .ok (.iload 10, 2) := by decide +kernel
theorem d_M_upFrom_18 : decode b_M_upFrom 18 = .ok (.lshl, 1) := by decide +kernel
theorem d_M_upFrom_19 : decode b_M_upFrom 19 = .ok (.lstore 11, 2) := by decide +kernel
theorem d_M_upFrom_21 : decode b_M_upFrom 21 = .ok (.lload 8, 2) := by decide +kernel
theorem d_M_upFrom_23 : decode b_M_upFrom 23 = .ok (.lload 11, 2) := by decide +kernel
theorem d_M_upFrom_25 : decode b_M_upFrom 25 = .ok (.land, 1) := by decide +kernel
theorem d_M_upFrom_26 : decode b_M_upFrom 26 = .ok (.lconst 0, 1) := by decide +kernel
theorem d_M_upFrom_27 : decode b_M_upFrom 27 = .ok (.lcmp, 1) := by decide +kernel
theorem d_M_upFrom_28 : decode b_M_upFrom 28 = .ok (.ifCond .eq 39, 3) := by decide +kernel
theorem d_M_upFrom_31 : decode b_M_upFrom 31 = .ok (.lload 8, 2) := by decide +kernel
theorem d_M_upFrom_33 : decode b_M_upFrom 33 = .ok (.lload 11, 2) := by decide +kernel
theorem d_M_upFrom_35 : decode b_M_upFrom 35 = .ok (.ldc2_w 49, 3) := by decide +kernel
theorem d_M_upFrom_38 : decode b_M_upFrom 38 = .ok (.lxor, 1) := by decide +kernel
theorem d_M_upFrom_39 : decode b_M_upFrom 39 = .ok (.land, 1) := by decide +kernel
theorem d_M_upFrom_40 : decode b_M_upFrom 40 = .ok (.lstore 8, 2) := by decide +kernel
theorem d_M_upFrom_42 : decode b_M_upFrom 42 = .ok (.lload 6, 2) := by decide +kernel
theorem d_M_upFrom_44 : decode b_M_upFrom 44 = .ok (.lload 8, 2) := by decide +kernel
theorem d_M_upFrom_46 : decode b_M_upFrom 46 = .ok (.lor, 1) := by decide +kernel
theorem d_M_upFrom_47 : decode b_M_upFrom 47 = .ok (.lload 4, 2) := by decide +kernel
theorem d_M_upFrom_49 : decode b_M_upFrom 49 = .ok (.invokestatic 39, 3) := by decide +kernel
theorem d_M_upFrom_52 : decode b_M_upFrom 52 = .ok (.ifCond .eq 11, 3) := by decide +kernel
theorem d_M_upFrom_55 : decode b_M_upFrom 55 = .ok (.lload 6, 2) := by decide +kernel
theorem d_M_upFrom_57 : decode b_M_upFrom 57 = .ok (.lload 11, 2) := by decide +kernel
theorem d_M_upFrom_59 : decode b_M_upFrom 59 = .ok (.lor, 1) := by decide +kernel
theorem d_M_upFrom_60 : decode b_M_upFrom 60 = .ok (.goto 5, 3) := by decide +kernel
theorem d_M_upFrom_63 : decode b_M_upFrom 63 = .ok (.lload 6, 2) := by decide +kernel
theorem d_M_upFrom_65 : decode b_M_upFrom 65 = .ok (.lstore 6, 2) := by decide +kernel
theorem d_M_upFrom_67 : decode b_M_upFrom 67 = .ok (.iinc 10 (-1), 3) := by decide +kernel
theorem d_M_upFrom_70 : decode b_M_upFrom 70 = .ok (.goto (-60), 3) := by decide +kernel
theorem d_M_upFrom_73 : decode b_M_upFrom 73 = .ok (.lload 6, 2) := by decide +kernel
theorem d_M_upFrom_75 : decode b_M_upFrom 75 = .ok (.lreturn, 1) := by decide +kernel
def f_M_upFrom_67 (p1 : Int64) (p2 : Int64) (p3 : Int64) (x10_10 : Int32) (x10_8 : Int64) (x10_6 : Int64) (k10 : Int32 → Int64 → Int64 → Int64) (x67_8 : Int64) (x67_6 : Int64) : Int64 := k10 (x10_10 + (-1)) x67_8 x67_6
def f_M_upFrom_65 (p1 : Int64) (p2 : Int64) (p3 : Int64) (x10_10 : Int32) (x10_8 : Int64) (x10_6 : Int64) (k10 : Int32 → Int64 → Int64 → Int64) (v40 : Int64) (s65_0 : Int64) : Int64 := f_M_upFrom_67 p1 p2 p3 x10_10 x10_8 x10_6 k10 v40 s65_0
def f_M_upFrom_40v (p1 : Int64) (p2 : Int64) (p3 : Int64) (x10_10 : Int32) (x10_8 : Int64) (x10_6 : Int64) (k10 : Int32 → Int64 → Int64 → Int64) (v40 : Int64) (v19 : Int64) : Int64 := (if (f_M_below (x10_6 ||| v40) p3) = true then f_M_upFrom_65 p1 p2 p3 x10_10 x10_8 x10_6 k10 v40 (x10_6 ||| v19) else f_M_upFrom_65 p1 p2 p3 x10_10 x10_8 x10_6 k10 v40 x10_6)
def f_M_upFrom_19v (p1 : Int64) (p2 : Int64) (p3 : Int64) (x10_10 : Int32) (x10_8 : Int64) (x10_6 : Int64) (k10 : Int32 → Int64 → Int64 → Int64) (v19 : Int64) : Int64 := (if (x10_8 &&& v19) = 0 then f_M_upFrom_67 p1 p2 p3 x10_10 x10_8 x10_6 k10 x10_8 x10_6 else f_M_upFrom_40v p1 p2 p3 x10_10 x10_8 x10_6 k10 (x10_8 &&& (v19 ^^^ (-1 : Int64))) v19)
def f_M_upFrom_10 (p1 : Int64) (p2 : Int64) (p3 : Int64) : Nat → Int32 → Int64 → Int64 → Int64
  | 0, _, _, _ => default
  | n10 + 1, x10_10, x10_8, x10_6 => (if x10_10 < 0 then x10_6 else f_M_upFrom_19v p1 p2 p3 x10_10 x10_8 x10_6 (fun y0 y1 y2 => f_M_upFrom_10 p1 p2 p3 n10 y0 y1 y2) ((1 : Int64) <<< (x10_10.toInt64 &&& 63)))
def f_M_upFrom (p1 : Int64) (p2 : Int64) (p3 : Int64) : Int64 := f_M_upFrom_10 p1 p2 p3 65 63 p2 p1
set_option maxRecDepth 100000 in
set_option maxHeartbeats 4000000 in
theorem c_M_upFrom (l : Launch) (p1 : Int64) (p2 : Int64) (p3 : Int64) : Met l y_M_upFrom w_M_upFrom ({ frames := 1, cells := 0, slots := 0, locals := 23 } : Room) (va_Pc [.long (p1), .long (p2), .long (p3)] (fun _ => True)) (vp_Sl (fun r => r = (f_M_upFrom p1 p2 p3))) 0 0 (fun _ => False) := by
  refine Met.ofW (cc := b_M_upFrom) (maxL := 13) (ret := (some .long)) (by decide) rfl ?_
  intro p e s m args below meth c s₁ B hml hv
  obtain ⟨rfl, -⟩ := hv
  have hx := B.exec
  have hb := B.bytes
  have hr := B.returns
  have hts := atoms_spec (ws := w_M_upFrom) B.pre
  have hG : ∀ w ∈ gM, w.before _ s = true := fun w h => hts w (List.mem_cons_of_mem _ h)
  have hown : s.vm.findClass R_M = some m.cls := findClass_of_methodNamed B.named
  have hlocks := B.notSynchronized
  have hl := lv_entry ([.long (p1), .long (p2), .long (p3)]) (n := 13) (Nat.le_of_ble_eq_true rfl)
  rw [lg_entry_eq]
  generalize (lg_sl ([.long (p1), .long (p2), .long (p3)]) ++ List.replicate (13 - (lg_sl ([.long (p1), .long (p2), .long (p3)])).length) Slot.unset).toArray = ls at hl ⊢
  have hl : lv_has ls 13 [(0, .long (p1)), (2, .long (p2)), (4, .long (p3))] := hl
  have K10 : ∀ (n10 : Nat) (x10_10 : Int32) (x10_8 : Int64) (x10_6 : Int64) (hm10 : (x10_10.toInt + 1).toNat < n10) (hj : f_M_upFrom p1 p2 p3 = f_M_upFrom_10 p1 p2 p3 n10 x10_10 x10_8 x10_6) (ls : Array Slot) (hl : lv_has ls 13 [(10, .int (x10_10)), (8, .long (x10_8)), (6, .long (x10_6)), (4, .long (p3))]), W p l e (headSpec w_M_upFrom ({ frames := 1, cells := 0, slots := 0, locals := 23 } : Room)).room s m ([.long (p1), .long (p2), .long (p3)] : List Value).toArray below meth c s.heap [] 0 0 (MQ below (vp_Sl (fun r => r = (f_M_upFrom p1 p2 p3))) ([.long (p1), .long (p2), .long (p3)] : List Value).toArray s 0 0 (fun _ => False)) (F0 m 10 ls []) := by
    intro n10
    induction n10 with
    | zero => intro x10_10 x10_8 x10_6 hm10 hj ls hl; exact absurd hm10 (Nat.not_lt_zero _)
    | succ n10 ih10 =>
      intro x10_10 x10_8 x10_6 hm10 hj ls hl
      have K67 : ∀ (x67_8 : Int64) (x67_6 : Int64) (hj : f_M_upFrom p1 p2 p3 = f_M_upFrom_67 p1 p2 p3 x10_10 x10_8 x10_6 (fun y0 y1 y2 => f_M_upFrom_10 p1 p2 p3 n10 y0 y1 y2) x67_8 x67_6) (hf0 : ¬ x10_10 < 0) (ls : Array Slot) (hl : lv_has ls 13 [(10, .int (x10_10)), (8, .long (x67_8)), (6, .long (x67_6)), (4, .long (p3))]), W p l e (headSpec w_M_upFrom ({ frames := 1, cells := 0, slots := 0, locals := 23 } : Room)).room s m ([.long (p1), .long (p2), .long (p3)] : List Value).toArray below meth c s.heap [] 0 0 (MQ below (vp_Sl (fun r => r = (f_M_upFrom p1 p2 p3))) ([.long (p1), .long (p2), .long (p3)] : List Value).toArray s 0 0 (fun _ => False)) (F0 m 67 ls []) := by
        intro x67_8 x67_6 hj hf0 ls hl
        refine lv_iinc (v := x10_10 + (-1)) (lv' := [(10, .int (x10_10 + (-1))), (8, .long (x67_8)), (6, .long (x67_6)), (4, .long (p3))]) hx hb d_M_upFrom_67 hl (k := 0) rfl rfl (by decide) rfl (fun ls hl => ?_)
        refine lv_goto (tgt := 10) hx hb d_M_upFrom_70 (by decide) ?_
        exact ih10 (x10_10 + (-1)) x67_8 x67_6 (dn_step hf0 hm10) (hj.trans rfl) ls (lv_sub hl [0, 1, 2, 3] rfl)
      have K65 : ∀ (v40 : Int64) (s65_0 : Int64) (hj : f_M_upFrom p1 p2 p3 = f_M_upFrom_65 p1 p2 p3 x10_10 x10_8 x10_6 (fun y0 y1 y2 => f_M_upFrom_10 p1 p2 p3 n10 y0 y1 y2) v40 s65_0) (hf0 : ¬ x10_10 < 0) (ls : Array Slot) (hl : lv_has ls 13 [(8, .long (v40)), (10, .int (x10_10)), (4, .long (p3))]), W p l e (headSpec w_M_upFrom ({ frames := 1, cells := 0, slots := 0, locals := 23 } : Room)).room s m ([.long (p1), .long (p2), .long (p3)] : List Value).toArray below meth c s.heap [] 0 0 (MQ below (vp_Sl (fun r => r = (f_M_upFrom p1 p2 p3))) ([.long (p1), .long (p2), .long (p3)] : List Value).toArray s 0 0 (fun _ => False)) (F0 m 65 ls [.long (s65_0)]) := by
        intro v40 s65_0 hj hf0 ls hl
        refine lv_lstore (lv' := [(6, .long (s65_0)), (8, .long (v40)), (10, .int (x10_10)), (4, .long (p3))]) hx hb d_M_upFrom_65 hl (by decide) rfl (fun ls hl => ?_)
        exact K67 v40 s65_0 (hj.trans rfl) hf0 ls (lv_sub hl [2, 1, 0, 3] rfl)
      have K40v : ∀ (v40 : Int64) (v19 : Int64) (hj : f_M_upFrom p1 p2 p3 = f_M_upFrom_40v p1 p2 p3 x10_10 x10_8 x10_6 (fun y0 y1 y2 => f_M_upFrom_10 p1 p2 p3 n10 y0 y1 y2) v40 v19) (hf0 : ¬ x10_10 < 0) (ls : Array Slot) (hl : lv_has ls 13 [(8, .long (v40)), (11, .long (v19)), (10, .int (x10_10)), (6, .long (x10_6)), (4, .long (p3))]), W p l e (headSpec w_M_upFrom ({ frames := 1, cells := 0, slots := 0, locals := 23 } : Room)).room s m ([.long (p1), .long (p2), .long (p3)] : List Value).toArray below meth c s.heap [] 0 0 (MQ below (vp_Sl (fun r => r = (f_M_upFrom p1 p2 p3))) ([.long (p1), .long (p2), .long (p3)] : List Value).toArray s 0 0 (fun _ => False)) (F0 m 42 ls []) := by
        intro v40 v19 hj hf0 ls hl
        refine lv_lload hx hb d_M_upFrom_42 (lv_at hl 3 rfl) ?_
        refine lv_lload hx hb d_M_upFrom_44 (lv_at hl 0 rfl) ?_
        refine lv_lor hx hb d_M_upFrom_46 ?_
        refine lv_lload hx hb d_M_upFrom_47 (lv_at hl 4 rfl) ?_
        refine rc_i (W.runS (As := [.long (x10_6 ||| v40), .long (p3)]) (rest := []) ⟨hx, hb, hml, hown, hts⟩ (c_M_below l (x10_6 ||| v40) p3) (va_cwS 2 hts (gxS gx57 gx58 gx0 gx59) rfl rfl rfl (by decide +kernel) ⟨(Nat.le_of_ble_eq_true rfl), (Nat.le_of_ble_eq_true rfl)⟩) ⟨bl0, fun U hU hW => ⟨rfl, trivial⟩⟩ rfl rfl hl.1 rfl (lv_room (Nat.le_of_ble_eq_true rfl)) d_M_upFrom_49 ⟨Nat.zero_le _, Nat.zero_le _⟩) ?_
        refine wz_eq (tgt := 63) hx hb d_M_upFrom_52 (by decide) (fun e1_63 => ?_) (fun e1_63 => ?_)
        · refine lv_lload hx hb d_M_upFrom_63 (lv_at hl 3 rfl) ?_
          exact K65 v40 x10_6 (hj.trans (by unfold f_M_upFrom_40v; first | with_reducible exact if_neg e1_63 | exact if_neg e1_63)) hf0 ls (lv_sub hl [0, 2, 4] rfl)
        · refine lv_lload hx hb d_M_upFrom_55 (lv_at hl 3 rfl) ?_
          refine lv_lload hx hb d_M_upFrom_57 (lv_at hl 1 rfl) ?_
          refine lv_lor hx hb d_M_upFrom_59 ?_
          refine lv_goto (tgt := 65) hx hb d_M_upFrom_60 (by decide) ?_
          exact K65 v40 (x10_6 ||| v19) (hj.trans (by unfold f_M_upFrom_40v; first | with_reducible exact if_pos e1_63 | exact if_pos e1_63)) hf0 ls (lv_sub hl [0, 2, 4] rfl)
      have K19v : ∀ (v19 : Int64) (hj : f_M_upFrom p1 p2 p3 = f_M_upFrom_19v p1 p2 p3 x10_10 x10_8 x10_6 (fun y0 y1 y2 => f_M_upFrom_10 p1 p2 p3 n10 y0 y1 y2) v19) (hf0 : ¬ x10_10 < 0) (ls : Array Slot) (hl : lv_has ls 13 [(11, .long (v19)), (10, .int (x10_10)), (8, .long (x10_8)), (6, .long (x10_6)), (4, .long (p3))]), W p l e (headSpec w_M_upFrom ({ frames := 1, cells := 0, slots := 0, locals := 23 } : Room)).room s m ([.long (p1), .long (p2), .long (p3)] : List Value).toArray below meth c s.heap [] 0 0 (MQ below (vp_Sl (fun r => r = (f_M_upFrom p1 p2 p3))) ([.long (p1), .long (p2), .long (p3)] : List Value).toArray s 0 0 (fun _ => False)) (F0 m 21 ls []) := by
        intro v19 hj hf0 ls hl
        refine lv_lload hx hb d_M_upFrom_21 (lv_at hl 2 rfl) ?_
        refine lv_lload hx hb d_M_upFrom_23 (lv_at hl 0 rfl) ?_
        refine lv_land hx hb d_M_upFrom_25 ?_
        refine lv_lconst (v := 0) hx hb d_M_upFrom_26 (by decide) ?_
        refine wl_eq (tgt := 67) hx hb d_M_upFrom_27 d_M_upFrom_28 (by decide) (fun e1_67 => ?_) (fun e1_67 => ?_)
        · exact K67 x10_8 x10_6 (hj.trans (by unfold f_M_upFrom_19v; first | with_reducible exact if_pos e1_67 | exact if_pos e1_67)) hf0 ls (lv_sub hl [1, 2, 3, 4] rfl)
        · refine lv_lload hx hb d_M_upFrom_31 (lv_at hl 2 rfl) ?_
          refine lv_lload hx hb d_M_upFrom_33 (lv_at hl 0 rfl) ?_
          refine lv_ldc2 (v := -1) hx hb hown (hG (.constantLong R_M 49 (-1)) gx42) d_M_upFrom_35 ?_
          refine lv_lxor hx hb d_M_upFrom_38 ?_
          refine lv_land hx hb d_M_upFrom_39 ?_
          refine lv_topl (fun v40 ev40 => ?_)
          refine lv_lstore (lv' := [(8, .long (v40)), (11, .long (v19)), (10, .int (x10_10)), (6, .long (x10_6)), (4, .long (p3))]) hx hb d_M_upFrom_40 hl (by decide) rfl (fun ls hl => ?_)
          exact K40v v40 v19 (Eq.trans (hj.trans (by unfold f_M_upFrom_19v; first | with_reducible exact if_neg e1_67 | exact if_neg e1_67)) (congrArg (fun v40 => f_M_upFrom_40v p1 p2 p3 x10_10 x10_8 x10_6 (fun y0 y1 y2 => f_M_upFrom_10 p1 p2 p3 n10 y0 y1 y2) v40 v19) ev40.symm)) hf0 ls (lv_sub hl [0, 1, 2, 3, 4] rfl)
      refine lv_iload hx hb d_M_upFrom_10 (lv_at hl 0 rfl) ?_
      refine lv_if_lt (tgt := 73) hx hb d_M_upFrom_12 (by decide) (fun e1_73 => ?_) (fun e1_73 => ?_)
      · refine lv_lload hx hb d_M_upFrom_73 (lv_at hl 2 rfl) ?_
        have fe : f_M_upFrom p1 p2 p3 = x10_6 := hj.trans ((f_M_upFrom_10.eq_2 p1 p2 p3 _ _ _ _).trans (by first | with_reducible exact if_pos e1_73 | exact if_pos e1_73))
        exact W.lret (v := x10_6) hx hb hr (fun t ht hW => ⟨_, rfl, by rw [fe], ht⟩) t_nil d_M_upFrom_75
      · refine lv_lconst (v := 1) hx hb d_M_upFrom_15 (by decide) ?_
        refine lv_iload hx hb d_M_upFrom_16 (lv_at hl 0 rfl) ?_
        refine lv_lshl (v := (1 : Int64) <<< (x10_10.toInt64 &&& 63)) hx hb d_M_upFrom_18 rfl ?_
        refine lv_topl (fun v19 ev19 => ?_)
        refine lv_lstore (lv' := [(11, .long (v19)), (10, .int (x10_10)), (8, .long (x10_8)), (6, .long (x10_6)), (4, .long (p3))]) hx hb d_M_upFrom_19 hl (by decide) rfl (fun ls hl => ?_)
        exact K19v v19 (Eq.trans (hj.trans ((f_M_upFrom_10.eq_2 p1 p2 p3 _ _ _ _).trans (by first | with_reducible exact if_neg e1_73 | exact if_neg e1_73))) (congrArg (fun v19 => f_M_upFrom_19v p1 p2 p3 x10_10 x10_8 x10_6 (fun y0 y1 y2 => f_M_upFrom_10 p1 p2 p3 n10 y0 y1 y2) v19) ev19.symm)) e1_73 ls (lv_sub hl [0, 1, 2, 3, 4] rfl)
  refine lv_lload_n hx hb d_M_upFrom_0 rfl (lv_at hl 0 rfl) ?_
  refine lv_lstore (lv' := [(6, .long (p1)), (0, .long (p1)), (2, .long (p2)), (4, .long (p3))]) hx hb d_M_upFrom_1 hl (by decide) rfl (fun ls hl => ?_)
  refine lv_lload_n hx hb d_M_upFrom_3 rfl (lv_at hl 2 rfl) ?_
  refine lv_lstore (lv' := [(8, .long (p2)), (6, .long (p1)), (0, .long (p1)), (2, .long (p2)), (4, .long (p3))]) hx hb d_M_upFrom_4 hl (by decide) rfl (fun ls hl => ?_)
  refine lv_bipush (v := 63) hx hb d_M_upFrom_6 (by decide) ?_
  refine lv_istore (lv' := [(10, .int (63)), (8, .long (p2)), (6, .long (p1)), (0, .long (p1)), (2, .long (p2)), (4, .long (p3))]) hx hb d_M_upFrom_8 hl (by decide) rfl (fun ls hl => ?_)
  exact K10 65 63 p2 p1 (by decide) (rfl) ls (lv_sub hl [0, 1, 2, 5] rfl)
-- downFrom
theorem d_M_downFrom_0 : decode b_M_downFrom 0 = .ok (.lload_n 0, 1) := by decide +kernel
theorem d_M_downFrom_1 : decode b_M_downFrom 1 = .ok (.lload_n 2, 1) := by decide +kernel
theorem d_M_downFrom_2 : decode b_M_downFrom 2 = .ok (.lor, 1) := by decide +kernel
theorem d_M_downFrom_3 : decode b_M_downFrom 3 = .ok (.lstore 6, 2) := by decide +kernel
theorem d_M_downFrom_5 : decode b_M_downFrom 5 = .ok (.lload_n 2, 1) := by decide +kernel
theorem d_M_downFrom_6 : decode b_M_downFrom 6 = .ok (.lstore 8, 2) := by decide +kernel
theorem d_M_downFrom_8 : decode b_M_downFrom 8 = .ok (.bipush 63, 2) := by decide +kernel
theorem d_M_downFrom_10 : decode b_M_downFrom 10 = .ok (.istore 10, 2) := by decide +kernel
theorem d_M_downFrom_12 : decode b_M_downFrom 12 = .ok (.iload 10, 2) := by decide +kernel
theorem d_M_downFrom_14 : decode b_M_downFrom 14 = .ok (.ifCond .lt 69, 3) := by decide +kernel
theorem d_M_downFrom_17 : decode b_M_downFrom 17 = .ok (.lconst 1, 1) := by decide +kernel
theorem d_M_downFrom_18 : decode b_M_downFrom 18 = .ok (.iload 10, 2) := by decide +kernel
theorem d_M_downFrom_20 : decode b_M_downFrom 20 = .ok (.lshl, 1) := by decide +kernel
theorem d_M_downFrom_21 : decode b_M_downFrom 21 = .ok (.lstore 11, 2) := by decide +kernel
theorem d_M_downFrom_23 : decode b_M_downFrom 23 = .ok (.lload 8, 2) := by decide +kernel
theorem d_M_downFrom_25 : decode b_M_downFrom 25 = .ok (.lload 11, 2) := by decide +kernel
theorem d_M_downFrom_27 : decode b_M_downFrom 27 = .ok (.land, 1) := by decide +kernel
theorem d_M_downFrom_28 : decode b_M_downFrom 28 = .ok (.lconst 0, 1) := by decide +kernel
theorem d_M_downFrom_29 : decode b_M_downFrom 29 = .ok (.lcmp, 1) := by decide +kernel
theorem d_M_downFrom_30 : decode b_M_downFrom 30 = .ok (.ifCond .eq 47, 3) := by decide +kernel
theorem d_M_downFrom_33 : decode b_M_downFrom 33 = .ok (.lload 8, 2) := by decide +kernel
theorem d_M_downFrom_35 : decode b_M_downFrom 35 = .ok (.lload 11, 2) := by decide +kernel
theorem d_M_downFrom_37 : decode b_M_downFrom 37 = .ok (.ldc2_w 49, 3) := by decide +kernel
theorem d_M_downFrom_40 : decode b_M_downFrom 40 = .ok (.lxor, 1) := by decide +kernel
theorem d_M_downFrom_41 : decode b_M_downFrom 41 = .ok (.land, 1) := by decide +kernel
theorem d_M_downFrom_42 : decode b_M_downFrom 42 = .ok (.lstore 8, 2) := by decide +kernel
theorem d_M_downFrom_44 : decode b_M_downFrom 44 = .ok (.lload 4, 2) := by decide +kernel
theorem d_M_downFrom_46 : decode b_M_downFrom 46 = .ok (.lload 6, 2) := by decide +kernel
theorem d_M_downFrom_48 : decode b_M_downFrom 48 = .ok (.lload 8, 2) := by decide +kernel
theorem d_M_downFrom_50 : decode b_M_downFrom 50 = .ok (.ldc2_w 49, 3) := by decide +kernel
theorem d_M_downFrom_53 : decode b_M_downFrom 53 = .ok (.lxor, 1) := by decide +kernel
theorem d_M_downFrom_54 : decode b_M_downFrom 54 = .ok (.land, 1) := by decide +kernel
theorem d_M_downFrom_55 : decode b_M_downFrom 55 = .ok (.invokestatic 39, 3) := by decide +kernel
theorem d_M_downFrom_58 : decode b_M_downFrom 58 = .ok (.ifCond .eq 15, 3) := by decide +kernel
theorem d_M_downFrom_61 : decode b_M_downFrom 61 = .ok (.lload 6, 2) := by decide +kernel
theorem d_M_downFrom_63 : decode b_M_downFrom 63 = .ok (.lload 11, 2) := by decide +kernel
theorem d_M_downFrom_65 : decode b_M_downFrom 65 = .ok (.ldc2_w 49, 3) := by decide +kernel
theorem d_M_downFrom_68 : decode b_M_downFrom 68 = .ok (.lxor, 1) := by decide +kernel
theorem d_M_downFrom_69 : decode b_M_downFrom 69 = .ok (.land, 1) := by decide +kernel
theorem d_M_downFrom_70 : decode b_M_downFrom 70 = .ok (.goto 5, 3) := by decide +kernel
theorem d_M_downFrom_73 : decode b_M_downFrom 73 = .ok (.lload 6, 2) := by decide +kernel
theorem d_M_downFrom_75 : decode b_M_downFrom 75 = .ok (.lstore 6, 2) := by decide +kernel
theorem d_M_downFrom_77 : decode b_M_downFrom 77 = .ok (.iinc 10 (-1), 3) := by decide +kernel
theorem d_M_downFrom_80 : decode b_M_downFrom 80 = .ok (.goto (-68), 3) := by decide +kernel
theorem d_M_downFrom_83 : decode b_M_downFrom 83 = .ok (.lload 6, 2) := by decide +kernel
theorem d_M_downFrom_85 : decode b_M_downFrom 85 = .ok (.lreturn, 1) := by decide +kernel
def f_M_downFrom_77 (p1 : Int64) (p2 : Int64) (p3 : Int64) (x12_10 : Int32) (x12_8 : Int64) (x12_6 : Int64) (k12 : Int32 → Int64 → Int64 → Int64) (x77_8 : Int64) (x77_6 : Int64) : Int64 := k12 (x12_10 + (-1)) x77_8 x77_6
def f_M_downFrom_75 (p1 : Int64) (p2 : Int64) (p3 : Int64) (x12_10 : Int32) (x12_8 : Int64) (x12_6 : Int64) (k12 : Int32 → Int64 → Int64 → Int64) (v42 : Int64) (s75_0 : Int64) : Int64 := f_M_downFrom_77 p1 p2 p3 x12_10 x12_8 x12_6 k12 v42 s75_0
def f_M_downFrom_42v (p1 : Int64) (p2 : Int64) (p3 : Int64) (x12_10 : Int32) (x12_8 : Int64) (x12_6 : Int64) (k12 : Int32 → Int64 → Int64 → Int64) (v42 : Int64) (v21 : Int64) : Int64 := (if (f_M_below p3 (x12_6 &&& (v42 ^^^ (-1 : Int64)))) = true then f_M_downFrom_75 p1 p2 p3 x12_10 x12_8 x12_6 k12 v42 (x12_6 &&& (v21 ^^^ (-1 : Int64))) else f_M_downFrom_75 p1 p2 p3 x12_10 x12_8 x12_6 k12 v42 x12_6)
def f_M_downFrom_21v (p1 : Int64) (p2 : Int64) (p3 : Int64) (x12_10 : Int32) (x12_8 : Int64) (x12_6 : Int64) (k12 : Int32 → Int64 → Int64 → Int64) (v21 : Int64) : Int64 := (if (x12_8 &&& v21) = 0 then f_M_downFrom_77 p1 p2 p3 x12_10 x12_8 x12_6 k12 x12_8 x12_6 else f_M_downFrom_42v p1 p2 p3 x12_10 x12_8 x12_6 k12 (x12_8 &&& (v21 ^^^ (-1 : Int64))) v21)
def f_M_downFrom_12 (p1 : Int64) (p2 : Int64) (p3 : Int64) : Nat → Int32 → Int64 → Int64 → Int64
  | 0, _, _, _ => default
  | n12 + 1, x12_10, x12_8, x12_6 => (if x12_10 < 0 then x12_6 else f_M_downFrom_21v p1 p2 p3 x12_10 x12_8 x12_6 (fun y0 y1 y2 => f_M_downFrom_12 p1 p2 p3 n12 y0 y1 y2) ((1 : Int64) <<< (x12_10.toInt64 &&& 63)))
def f_M_downFrom_3v (p1 : Int64) (p2 : Int64) (p3 : Int64) (v3 : Int64) : Int64 := f_M_downFrom_12 p1 p2 p3 65 63 p2 v3
def f_M_downFrom (p1 : Int64) (p2 : Int64) (p3 : Int64) : Int64 := f_M_downFrom_3v p1 p2 p3 (p1 ||| p2)
set_option maxRecDepth 100000 in
set_option maxHeartbeats 4000000 in
theorem c_M_downFrom (l : Launch) (p1 : Int64) (p2 : Int64) (p3 : Int64) : Met l y_M_downFrom w_M_downFrom ({ frames := 1, cells := 0, slots := 0, locals := 23 } : Room) (va_Pc [.long (p1), .long (p2), .long (p3)] (fun _ => True)) (vp_Sl (fun r => r = (f_M_downFrom p1 p2 p3))) 0 0 (fun _ => False) := by
  refine Met.ofW (cc := b_M_downFrom) (maxL := 13) (ret := (some .long)) (by decide) rfl ?_
  intro p e s m args below meth c s₁ B hml hv
  obtain ⟨rfl, -⟩ := hv
  have hx := B.exec
  have hb := B.bytes
  have hr := B.returns
  have hts := atoms_spec (ws := w_M_downFrom) B.pre
  have hG : ∀ w ∈ gM, w.before _ s = true := fun w h => hts w (List.mem_cons_of_mem _ h)
  have hown : s.vm.findClass R_M = some m.cls := findClass_of_methodNamed B.named
  have hlocks := B.notSynchronized
  have hl := lv_entry ([.long (p1), .long (p2), .long (p3)]) (n := 13) (Nat.le_of_ble_eq_true rfl)
  rw [lg_entry_eq]
  generalize (lg_sl ([.long (p1), .long (p2), .long (p3)]) ++ List.replicate (13 - (lg_sl ([.long (p1), .long (p2), .long (p3)])).length) Slot.unset).toArray = ls at hl ⊢
  have hl : lv_has ls 13 [(0, .long (p1)), (2, .long (p2)), (4, .long (p3))] := hl
  have K12 : ∀ (n12 : Nat) (x12_10 : Int32) (x12_8 : Int64) (x12_6 : Int64) (hm12 : (x12_10.toInt + 1).toNat < n12) (hj : f_M_downFrom p1 p2 p3 = f_M_downFrom_12 p1 p2 p3 n12 x12_10 x12_8 x12_6) (ls : Array Slot) (hl : lv_has ls 13 [(10, .int (x12_10)), (8, .long (x12_8)), (6, .long (x12_6)), (4, .long (p3))]), W p l e (headSpec w_M_downFrom ({ frames := 1, cells := 0, slots := 0, locals := 23 } : Room)).room s m ([.long (p1), .long (p2), .long (p3)] : List Value).toArray below meth c s.heap [] 0 0 (MQ below (vp_Sl (fun r => r = (f_M_downFrom p1 p2 p3))) ([.long (p1), .long (p2), .long (p3)] : List Value).toArray s 0 0 (fun _ => False)) (F0 m 12 ls []) := by
    intro n12
    induction n12 with
    | zero => intro x12_10 x12_8 x12_6 hm12 hj ls hl; exact absurd hm12 (Nat.not_lt_zero _)
    | succ n12 ih12 =>
      intro x12_10 x12_8 x12_6 hm12 hj ls hl
      have K77 : ∀ (x77_8 : Int64) (x77_6 : Int64) (hj : f_M_downFrom p1 p2 p3 = f_M_downFrom_77 p1 p2 p3 x12_10 x12_8 x12_6 (fun y0 y1 y2 => f_M_downFrom_12 p1 p2 p3 n12 y0 y1 y2) x77_8 x77_6) (hf0 : ¬ x12_10 < 0) (ls : Array Slot) (hl : lv_has ls 13 [(10, .int (x12_10)), (8, .long (x77_8)), (6, .long (x77_6)), (4, .long (p3))]), W p l e (headSpec w_M_downFrom ({ frames := 1, cells := 0, slots := 0, locals := 23 } : Room)).room s m ([.long (p1), .long (p2), .long (p3)] : List Value).toArray below meth c s.heap [] 0 0 (MQ below (vp_Sl (fun r => r = (f_M_downFrom p1 p2 p3))) ([.long (p1), .long (p2), .long (p3)] : List Value).toArray s 0 0 (fun _ => False)) (F0 m 77 ls []) := by
        intro x77_8 x77_6 hj hf0 ls hl
        refine lv_iinc (v := x12_10 + (-1)) (lv' := [(10, .int (x12_10 + (-1))), (8, .long (x77_8)), (6, .long (x77_6)), (4, .long (p3))]) hx hb d_M_downFrom_77 hl (k := 0) rfl rfl (by decide) rfl (fun ls hl => ?_)
        refine lv_goto (tgt := 12) hx hb d_M_downFrom_80 (by decide) ?_
        exact ih12 (x12_10 + (-1)) x77_8 x77_6 (dn_step hf0 hm12) (hj.trans rfl) ls (lv_sub hl [0, 1, 2, 3] rfl)
      have K75 : ∀ (v42 : Int64) (s75_0 : Int64) (hj : f_M_downFrom p1 p2 p3 = f_M_downFrom_75 p1 p2 p3 x12_10 x12_8 x12_6 (fun y0 y1 y2 => f_M_downFrom_12 p1 p2 p3 n12 y0 y1 y2) v42 s75_0) (hf0 : ¬ x12_10 < 0) (ls : Array Slot) (hl : lv_has ls 13 [(8, .long (v42)), (10, .int (x12_10)), (4, .long (p3))]), W p l e (headSpec w_M_downFrom ({ frames := 1, cells := 0, slots := 0, locals := 23 } : Room)).room s m ([.long (p1), .long (p2), .long (p3)] : List Value).toArray below meth c s.heap [] 0 0 (MQ below (vp_Sl (fun r => r = (f_M_downFrom p1 p2 p3))) ([.long (p1), .long (p2), .long (p3)] : List Value).toArray s 0 0 (fun _ => False)) (F0 m 75 ls [.long (s75_0)]) := by
        intro v42 s75_0 hj hf0 ls hl
        refine lv_lstore (lv' := [(6, .long (s75_0)), (8, .long (v42)), (10, .int (x12_10)), (4, .long (p3))]) hx hb d_M_downFrom_75 hl (by decide) rfl (fun ls hl => ?_)
        exact K77 v42 s75_0 (hj.trans rfl) hf0 ls (lv_sub hl [2, 1, 0, 3] rfl)
      have K42v : ∀ (v42 : Int64) (v21 : Int64) (hj : f_M_downFrom p1 p2 p3 = f_M_downFrom_42v p1 p2 p3 x12_10 x12_8 x12_6 (fun y0 y1 y2 => f_M_downFrom_12 p1 p2 p3 n12 y0 y1 y2) v42 v21) (hf0 : ¬ x12_10 < 0) (ls : Array Slot) (hl : lv_has ls 13 [(8, .long (v42)), (11, .long (v21)), (10, .int (x12_10)), (6, .long (x12_6)), (4, .long (p3))]), W p l e (headSpec w_M_downFrom ({ frames := 1, cells := 0, slots := 0, locals := 23 } : Room)).room s m ([.long (p1), .long (p2), .long (p3)] : List Value).toArray below meth c s.heap [] 0 0 (MQ below (vp_Sl (fun r => r = (f_M_downFrom p1 p2 p3))) ([.long (p1), .long (p2), .long (p3)] : List Value).toArray s 0 0 (fun _ => False)) (F0 m 44 ls []) := by
        intro v42 v21 hj hf0 ls hl
        refine lv_lload hx hb d_M_downFrom_44 (lv_at hl 4 rfl) ?_
        refine lv_lload hx hb d_M_downFrom_46 (lv_at hl 3 rfl) ?_
        refine lv_lload hx hb d_M_downFrom_48 (lv_at hl 0 rfl) ?_
        refine lv_ldc2 (v := -1) hx hb hown (hG (.constantLong R_M 49 (-1)) gx42) d_M_downFrom_50 ?_
        refine lv_lxor hx hb d_M_downFrom_53 ?_
        refine lv_land hx hb d_M_downFrom_54 ?_
        refine rc_i (W.runS (As := [.long (p3), .long (x12_6 &&& (v42 ^^^ (-1 : Int64)))]) (rest := []) ⟨hx, hb, hml, hown, hts⟩ (c_M_below l p3 (x12_6 &&& (v42 ^^^ (-1 : Int64)))) (va_cwS 2 hts (gxS gx57 gx58 gx0 gx59) rfl rfl rfl (by decide +kernel) ⟨(Nat.le_of_ble_eq_true rfl), (Nat.le_of_ble_eq_true rfl)⟩) ⟨bl0, fun U hU hW => ⟨rfl, trivial⟩⟩ rfl rfl hl.1 rfl (lv_room (Nat.le_of_ble_eq_true rfl)) d_M_downFrom_55 ⟨Nat.zero_le _, Nat.zero_le _⟩) ?_
        refine wz_eq (tgt := 73) hx hb d_M_downFrom_58 (by decide) (fun e1_73 => ?_) (fun e1_73 => ?_)
        · refine lv_lload hx hb d_M_downFrom_73 (lv_at hl 3 rfl) ?_
          exact K75 v42 x12_6 (hj.trans (by unfold f_M_downFrom_42v; first | with_reducible exact if_neg e1_73 | exact if_neg e1_73)) hf0 ls (lv_sub hl [0, 2, 4] rfl)
        · refine lv_lload hx hb d_M_downFrom_61 (lv_at hl 3 rfl) ?_
          refine lv_lload hx hb d_M_downFrom_63 (lv_at hl 1 rfl) ?_
          refine lv_ldc2 (v := -1) hx hb hown (hG (.constantLong R_M 49 (-1)) gx42) d_M_downFrom_65 ?_
          refine lv_lxor hx hb d_M_downFrom_68 ?_
          refine lv_land hx hb d_M_downFrom_69 ?_
          refine lv_goto (tgt := 75) hx hb d_M_downFrom_70 (by decide) ?_
          exact K75 v42 (x12_6 &&& (v21 ^^^ (-1 : Int64))) (hj.trans (by unfold f_M_downFrom_42v; first | with_reducible exact if_pos e1_73 | exact if_pos e1_73)) hf0 ls (lv_sub hl [0, 2, 4] rfl)
      have K21v : ∀ (v21 : Int64) (hj : f_M_downFrom p1 p2 p3 = f_M_downFrom_21v p1 p2 p3 x12_10 x12_8 x12_6 (fun y0 y1 y2 => f_M_downFrom_12 p1 p2 p3 n12 y0 y1 y2) v21) (hf0 : ¬ x12_10 < 0) (ls : Array Slot) (hl : lv_has ls 13 [(11, .long (v21)), (10, .int (x12_10)), (8, .long (x12_8)), (6, .long (x12_6)), (4, .long (p3))]), W p l e (headSpec w_M_downFrom ({ frames := 1, cells := 0, slots := 0, locals := 23 } : Room)).room s m ([.long (p1), .long (p2), .long (p3)] : List Value).toArray below meth c s.heap [] 0 0 (MQ below (vp_Sl (fun r => r = (f_M_downFrom p1 p2 p3))) ([.long (p1), .long (p2), .long (p3)] : List Value).toArray s 0 0 (fun _ => False)) (F0 m 23 ls []) := by
        intro v21 hj hf0 ls hl
        refine lv_lload hx hb d_M_downFrom_23 (lv_at hl 2 rfl) ?_
        refine lv_lload hx hb d_M_downFrom_25 (lv_at hl 0 rfl) ?_
        refine lv_land hx hb d_M_downFrom_27 ?_
        refine lv_lconst (v := 0) hx hb d_M_downFrom_28 (by decide) ?_
        refine wl_eq (tgt := 77) hx hb d_M_downFrom_29 d_M_downFrom_30 (by decide) (fun e1_77 => ?_) (fun e1_77 => ?_)
        · exact K77 x12_8 x12_6 (hj.trans (by unfold f_M_downFrom_21v; first | with_reducible exact if_pos e1_77 | exact if_pos e1_77)) hf0 ls (lv_sub hl [1, 2, 3, 4] rfl)
        · refine lv_lload hx hb d_M_downFrom_33 (lv_at hl 2 rfl) ?_
          refine lv_lload hx hb d_M_downFrom_35 (lv_at hl 0 rfl) ?_
          refine lv_ldc2 (v := -1) hx hb hown (hG (.constantLong R_M 49 (-1)) gx42) d_M_downFrom_37 ?_
          refine lv_lxor hx hb d_M_downFrom_40 ?_
          refine lv_land hx hb d_M_downFrom_41 ?_
          refine lv_topl (fun v42 ev42 => ?_)
          refine lv_lstore (lv' := [(8, .long (v42)), (11, .long (v21)), (10, .int (x12_10)), (6, .long (x12_6)), (4, .long (p3))]) hx hb d_M_downFrom_42 hl (by decide) rfl (fun ls hl => ?_)
          exact K42v v42 v21 (Eq.trans (hj.trans (by unfold f_M_downFrom_21v; first | with_reducible exact if_neg e1_77 | exact if_neg e1_77)) (congrArg (fun v42 => f_M_downFrom_42v p1 p2 p3 x12_10 x12_8 x12_6 (fun y0 y1 y2 => f_M_downFrom_12 p1 p2 p3 n12 y0 y1 y2) v42 v21) ev42.symm)) hf0 ls (lv_sub hl [0, 1, 2, 3, 4] rfl)
      refine lv_iload hx hb d_M_downFrom_12 (lv_at hl 0 rfl) ?_
      refine lv_if_lt (tgt := 83) hx hb d_M_downFrom_14 (by decide) (fun e1_83 => ?_) (fun e1_83 => ?_)
      · refine lv_lload hx hb d_M_downFrom_83 (lv_at hl 2 rfl) ?_
        have fe : f_M_downFrom p1 p2 p3 = x12_6 := hj.trans ((f_M_downFrom_12.eq_2 p1 p2 p3 _ _ _ _).trans (by first | with_reducible exact if_pos e1_83 | exact if_pos e1_83))
        exact W.lret (v := x12_6) hx hb hr (fun t ht hW => ⟨_, rfl, by rw [fe], ht⟩) t_nil d_M_downFrom_85
      · refine lv_lconst (v := 1) hx hb d_M_downFrom_17 (by decide) ?_
        refine lv_iload hx hb d_M_downFrom_18 (lv_at hl 0 rfl) ?_
        refine lv_lshl (v := (1 : Int64) <<< (x12_10.toInt64 &&& 63)) hx hb d_M_downFrom_20 rfl ?_
        refine lv_topl (fun v21 ev21 => ?_)
        refine lv_lstore (lv' := [(11, .long (v21)), (10, .int (x12_10)), (8, .long (x12_8)), (6, .long (x12_6)), (4, .long (p3))]) hx hb d_M_downFrom_21 hl (by decide) rfl (fun ls hl => ?_)
        exact K21v v21 (Eq.trans (hj.trans ((f_M_downFrom_12.eq_2 p1 p2 p3 _ _ _ _).trans (by first | with_reducible exact if_neg e1_83 | exact if_neg e1_83))) (congrArg (fun v21 => f_M_downFrom_21v p1 p2 p3 x12_10 x12_8 x12_6 (fun y0 y1 y2 => f_M_downFrom_12 p1 p2 p3 n12 y0 y1 y2) v21) ev21.symm)) e1_83 ls (lv_sub hl [0, 1, 2, 3, 4] rfl)
  have K3v : ∀ (v3 : Int64) (hj : f_M_downFrom p1 p2 p3 = f_M_downFrom_3v p1 p2 p3 v3) (ls : Array Slot) (hl : lv_has ls 13 [(6, .long (v3)), (2, .long (p2)), (4, .long (p3))]), W p l e (headSpec w_M_downFrom ({ frames := 1, cells := 0, slots := 0, locals := 23 } : Room)).room s m ([.long (p1), .long (p2), .long (p3)] : List Value).toArray below meth c s.heap [] 0 0 (MQ below (vp_Sl (fun r => r = (f_M_downFrom p1 p2 p3))) ([.long (p1), .long (p2), .long (p3)] : List Value).toArray s 0 0 (fun _ => False)) (F0 m 5 ls []) := by
    intro v3 hj ls hl
    refine lv_lload_n hx hb d_M_downFrom_5 rfl (lv_at hl 1 rfl) ?_
    refine lv_lstore (lv' := [(8, .long (p2)), (6, .long (v3)), (2, .long (p2)), (4, .long (p3))]) hx hb d_M_downFrom_6 hl (by decide) rfl (fun ls hl => ?_)
    refine lv_bipush (v := 63) hx hb d_M_downFrom_8 (by decide) ?_
    refine lv_istore (lv' := [(10, .int (63)), (8, .long (p2)), (6, .long (v3)), (2, .long (p2)), (4, .long (p3))]) hx hb d_M_downFrom_10 hl (by decide) rfl (fun ls hl => ?_)
    exact K12 65 63 p2 v3 (by decide) (hj.trans rfl) ls (lv_sub hl [0, 1, 2, 4] rfl)
  refine lv_lload_n hx hb d_M_downFrom_0 rfl (lv_at hl 0 rfl) ?_
  refine lv_lload_n hx hb d_M_downFrom_1 rfl (lv_at hl 1 rfl) ?_
  refine lv_lor hx hb d_M_downFrom_2 ?_
  refine lv_topl (fun v3 ev3 => ?_)
  refine lv_lstore (lv' := [(6, .long (v3)), (0, .long (p1)), (2, .long (p2)), (4, .long (p3))]) hx hb d_M_downFrom_3 hl (by decide) rfl (fun ls hl => ?_)
  exact K3v v3 (Eq.trans (rfl) (congrArg (fun v3 => f_M_downFrom_3v p1 p2 p3 v3) ev3.symm)) ls (lv_sub hl [0, 2, 3] rfl)
-- mask
theorem d_M_mask_0 : decode b_M_mask 0 = .ok (.iload_n 0, 1) := by decide +kernel
theorem d_M_mask_1 : decode b_M_mask 1 = .ok (.bipush 64, 2) := by decide +kernel
theorem d_M_mask_3 : decode b_M_mask 3 = .ok (.if_icmp .ne 9, 3) := by decide +kernel
theorem d_M_mask_6 : decode b_M_mask 6 = .ok (.ldc2_w 49, 3) := by decide +kernel
theorem d_M_mask_9 : decode b_M_mask 9 = .ok (.goto 8, 3) := by decide +kernel
theorem d_M_mask_12 : decode b_M_mask 12 = .ok (.lconst 1, 1) := by decide +kernel
theorem d_M_mask_13 : decode b_M_mask 13 = .ok (.iload_n 0, 1) := by decide +kernel
theorem d_M_mask_14 : decode b_M_mask 14 = .ok (.lshl, 1) := by decide +kernel
theorem d_M_mask_15 : decode b_M_mask 15 = .ok (.lconst 1, 1) := by decide +kernel
theorem d_M_mask_16 : decode b_M_mask 16 = .ok (.lsub, 1) := by decide +kernel
theorem d_M_mask_17 : decode b_M_mask 17 = .ok (.lreturn, 1) := by decide +kernel
def f_M_mask (p1 : Int32) : Int64 := (if p1 = 64 then (-1) else (((1 : Int64) <<< (p1.toInt64 &&& 63)) - (1 : Int64)))
set_option maxRecDepth 100000 in
set_option maxHeartbeats 4000000 in
theorem c_M_mask (l : Launch) (p1 : Int32) : Met l y_M_mask w_M_mask ({ frames := 0, cells := 0, slots := 0, locals := 0 } : Room) (va_Pc [.int (p1)] (fun _ => True)) (vp_Sl (fun r => r = (f_M_mask p1))) 0 0 (fun _ => False) := by
  refine Met.ofW (cc := b_M_mask) (maxL := 1) (ret := (some .long)) (by decide) rfl ?_
  intro p e s m args below meth c s₁ B hml hv
  obtain ⟨rfl, -⟩ := hv
  have hx := B.exec
  have hb := B.bytes
  have hr := B.returns
  have hts := atoms_spec (ws := w_M_mask) B.pre
  have hG : ∀ w ∈ gM, w.before _ s = true := fun w h => hts w (List.mem_cons_of_mem _ h)
  have hown : s.vm.findClass R_M = some m.cls := findClass_of_methodNamed B.named
  have hlocks := B.notSynchronized
  have hl := lv_entry ([.int (p1)]) (n := 1) (Nat.le_of_ble_eq_true rfl)
  rw [lg_entry_eq]
  generalize (lg_sl ([.int (p1)]) ++ List.replicate (1 - (lg_sl ([.int (p1)])).length) Slot.unset).toArray = ls at hl ⊢
  have hl : lv_has ls 1 [(0, .int (p1))] := hl
  refine lv_iload_n hx hb d_M_mask_0 rfl (lv_at hl 0 rfl) ?_
  refine lv_bipush (v := 64) hx hb d_M_mask_1 (by decide) ?_
  refine lv_icmp_ne (tgt := 12) hx hb d_M_mask_3 (by decide) (fun e1_12 => ?_) (fun e1_12 => ?_)
  · refine lv_lconst (v := 1) hx hb d_M_mask_12 (by decide) ?_
    refine lv_iload_n hx hb d_M_mask_13 rfl (lv_at hl 0 rfl) ?_
    refine lv_lshl (v := (1 : Int64) <<< (p1.toInt64 &&& 63)) hx hb d_M_mask_14 rfl ?_
    refine lv_lconst (v := 1) hx hb d_M_mask_15 (by decide) ?_
    refine lv_lsub hx hb d_M_mask_16 ?_
    have fe : f_M_mask p1 = (((1 : Int64) <<< (p1.toInt64 &&& 63)) - (1 : Int64)) := by unfold f_M_mask; first | with_reducible exact if_neg e1_12 | exact if_neg e1_12
    exact W.lret (v := ((1 : Int64) <<< (p1.toInt64 &&& 63)) - (1 : Int64)) hx hb hr (fun t ht hW => ⟨_, rfl, by rw [fe], ht⟩) t_nil d_M_mask_17
  · refine lv_ldc2 (v := -1) hx hb hown (hG (.constantLong R_M 49 (-1)) gx42) d_M_mask_6 ?_
    refine lv_goto (tgt := 17) hx hb d_M_mask_9 (by decide) ?_
    have fe : f_M_mask p1 = (-1) := by unfold f_M_mask; first | with_reducible exact if_pos e1_12 | exact if_pos e1_12
    exact W.lret (v := -1) hx hb hr (fun t ht hW => ⟨_, rfl, by rw [fe], ht⟩) t_nil d_M_mask_17
-- reckon
theorem d_M_reckon_0 : decode b_M_reckon 0 = .ok (.lload_n 3, 1) := by decide +kernel
theorem d_M_reckon_1 : decode b_M_reckon 1 = .ok (.l2i, 1) := by decide +kernel
theorem d_M_reckon_2 : decode b_M_reckon 2 = .ok (.iload 5, 2) := by decide +kernel
theorem d_M_reckon_4 : decode b_M_reckon 4 = .ok (.iand, 1) := by decide +kernel
theorem d_M_reckon_5 : decode b_M_reckon 5 = .ok (.istore 6, 2) := by decide +kernel
theorem d_M_reckon_7 : decode b_M_reckon 7 = .ok (.iload_n 0, 1) := by decide +kernel
theorem d_M_reckon_8 : decode b_M_reckon 8 = .ok (.tableswitch 111 0 10 #[60, 64, 68, 72, 78, 84, 88, 92, 96, 101, 106], 60) := by decide +kernel
theorem d_M_reckon_68 : decode b_M_reckon 68 = .ok (.lload_n 1, 1) := by decide +kernel
theorem d_M_reckon_69 : decode b_M_reckon 69 = .ok (.lload_n 3, 1) := by decide +kernel
theorem d_M_reckon_70 : decode b_M_reckon 70 = .ok (.ladd, 1) := by decide +kernel
theorem d_M_reckon_71 : decode b_M_reckon 71 = .ok (.lreturn, 1) := by decide +kernel
theorem d_M_reckon_72 : decode b_M_reckon 72 = .ok (.lload_n 1, 1) := by decide +kernel
theorem d_M_reckon_73 : decode b_M_reckon 73 = .ok (.lload_n 3, 1) := by decide +kernel
theorem d_M_reckon_74 : decode b_M_reckon 74 = .ok (.lsub, 1) := by decide +kernel
theorem d_M_reckon_75 : decode b_M_reckon 75 = .ok (.lreturn, 1) := by decide +kernel
theorem d_M_reckon_76 : decode b_M_reckon 76 = .ok (.lload_n 1, 1) := by decide +kernel
theorem d_M_reckon_77 : decode b_M_reckon 77 = .ok (.lload_n 3, 1) := by decide +kernel
theorem d_M_reckon_78 : decode b_M_reckon 78 = .ok (.lmul, 1) := by decide +kernel
theorem d_M_reckon_79 : decode b_M_reckon 79 = .ok (.lreturn, 1) := by decide +kernel
theorem d_M_reckon_80 : decode b_M_reckon 80 = .ok (.lload_n 1, 1) := by decide +kernel
theorem d_M_reckon_81 : decode b_M_reckon 81 = .ok (.lload_n 3, 1) := by decide +kernel
theorem d_M_reckon_82 : decode b_M_reckon 82 = .ok (.invokestatic 45, 3) := by decide +kernel
theorem d_M_reckon_85 : decode b_M_reckon 85 = .ok (.lreturn, 1) := by decide +kernel
theorem d_M_reckon_86 : decode b_M_reckon 86 = .ok (.lload_n 1, 1) := by decide +kernel
theorem d_M_reckon_87 : decode b_M_reckon 87 = .ok (.lload_n 3, 1) := by decide +kernel
theorem d_M_reckon_88 : decode b_M_reckon 88 = .ok (.invokestatic 196, 3) := by decide +kernel
theorem d_M_reckon_91 : decode b_M_reckon 91 = .ok (.lreturn, 1) := by decide +kernel
theorem d_M_reckon_92 : decode b_M_reckon 92 = .ok (.lload_n 1, 1) := by decide +kernel
theorem d_M_reckon_93 : decode b_M_reckon 93 = .ok (.lload_n 3, 1) := by decide +kernel
theorem d_M_reckon_94 : decode b_M_reckon 94 = .ok (.land, 1) := by decide +kernel
theorem d_M_reckon_95 : decode b_M_reckon 95 = .ok (.lreturn, 1) := by decide +kernel
theorem d_M_reckon_96 : decode b_M_reckon 96 = .ok (.lload_n 1, 1) := by decide +kernel
theorem d_M_reckon_97 : decode b_M_reckon 97 = .ok (.lload_n 3, 1) := by decide +kernel
theorem d_M_reckon_98 : decode b_M_reckon 98 = .ok (.lor, 1) := by decide +kernel
theorem d_M_reckon_99 : decode b_M_reckon 99 = .ok (.lreturn, 1) := by decide +kernel
theorem d_M_reckon_100 : decode b_M_reckon 100 = .ok (.lload_n 1, 1) := by decide +kernel
theorem d_M_reckon_101 : decode b_M_reckon 101 = .ok (.lload_n 3, 1) := by decide +kernel
theorem d_M_reckon_102 : decode b_M_reckon 102 = .ok (.lxor, 1) := by decide +kernel
theorem d_M_reckon_103 : decode b_M_reckon 103 = .ok (.lreturn, 1) := by decide +kernel
theorem d_M_reckon_104 : decode b_M_reckon 104 = .ok (.lload_n 1, 1) := by decide +kernel
theorem d_M_reckon_105 : decode b_M_reckon 105 = .ok (.iload 6, 2) := by decide +kernel
theorem d_M_reckon_107 : decode b_M_reckon 107 = .ok (.lshl, 1) := by decide +kernel
theorem d_M_reckon_108 : decode b_M_reckon 108 = .ok (.lreturn, 1) := by decide +kernel
theorem d_M_reckon_109 : decode b_M_reckon 109 = .ok (.lload_n 1, 1) := by decide +kernel
theorem d_M_reckon_110 : decode b_M_reckon 110 = .ok (.iload 6, 2) := by decide +kernel
theorem d_M_reckon_112 : decode b_M_reckon 112 = .ok (.lushr, 1) := by decide +kernel
theorem d_M_reckon_113 : decode b_M_reckon 113 = .ok (.lreturn, 1) := by decide +kernel
theorem d_M_reckon_114 : decode b_M_reckon 114 = .ok (.lload_n 1, 1) := by decide +kernel
theorem d_M_reckon_115 : decode b_M_reckon 115 = .ok (.iload 6, 2) := by decide +kernel
theorem d_M_reckon_117 : decode b_M_reckon 117 = .ok (.lshr, 1) := by decide +kernel
theorem d_M_reckon_118 : decode b_M_reckon 118 = .ok (.lreturn, 1) := by decide +kernel
theorem d_M_reckon_119 : decode b_M_reckon 119 = .ok (.lload_n 3, 1) := by decide +kernel
theorem d_M_reckon_120 : decode b_M_reckon 120 = .ok (.lreturn, 1) := by decide +kernel
def f_M_reckon_5v (p1 : Int32) (p2 : Int64) (p3 : Int64) (p4 : Int32) (v5 : Int32) : Int64 := (if p1 = 0 then (p2 + p3) else (if p1 = 1 then (p2 - p3) else (if p1 = 2 then (p2 * p3) else (if p1 = 3 then (f_M_quotient p2 p3) else (if p1 = 4 then (f_M_rest p2 p3) else (if p1 = 5 then (p2 &&& p3) else (if p1 = 6 then (p2 ||| p3) else (if p1 = 7 then (p2 ^^^ p3) else (if p1 = 8 then (p2 <<< (v5.toInt64 &&& 63)) else (if p1 = 9 then ((p2.toUInt64 >>> (v5.toInt64.toUInt64 &&& Int64.toUInt64 63)).toInt64) else (if p1 = 10 then (p2 >>> (v5.toInt64 &&& 63)) else p3)))))))))))
def f_M_reckon (p1 : Int32) (p2 : Int64) (p3 : Int64) (p4 : Int32) : Int64 := f_M_reckon_5v p1 p2 p3 p4 (p3.toInt32 &&& p4)
set_option maxRecDepth 100000 in
set_option maxHeartbeats 4000000 in
theorem c_M_reckon (l : Launch) (p1 : Int32) (p2 : Int64) (p3 : Int64) (p4 : Int32) : Met l y_M_reckon w_M_reckon ({ frames := 3, cells := 0, slots := 0, locals := 75 } : Room) (va_Pc [.int (p1), .long (p2), .long (p3), .int (p4)] (fun _ => True)) (vp_Sl (fun r => r = (f_M_reckon p1 p2 p3 p4))) 0 0 (fun _ => False) := by
  refine Met.ofW (cc := b_M_reckon) (maxL := 7) (ret := (some .long)) (by decide) rfl ?_
  intro p e s m args below meth c s₁ B hml hv
  obtain ⟨rfl, -⟩ := hv
  have hx := B.exec
  have hb := B.bytes
  have hr := B.returns
  have hts := atoms_spec (ws := w_M_reckon) B.pre
  have hG : ∀ w ∈ gM, w.before _ s = true := fun w h => hts w (List.mem_cons_of_mem _ h)
  have hown : s.vm.findClass R_M = some m.cls := findClass_of_methodNamed B.named
  have hlocks := B.notSynchronized
  have hl := lv_entry ([.int (p1), .long (p2), .long (p3), .int (p4)]) (n := 7) (Nat.le_of_ble_eq_true rfl)
  rw [lg_entry_eq]
  generalize (lg_sl ([.int (p1), .long (p2), .long (p3), .int (p4)]) ++ List.replicate (7 - (lg_sl ([.int (p1), .long (p2), .long (p3), .int (p4)])).length) Slot.unset).toArray = ls at hl ⊢
  have hl : lv_has ls 7 [(0, .int (p1)), (1, .long (p2)), (3, .long (p3)), (5, .int (p4))] := hl
  have K5v : ∀ (v5 : Int32) (hj : f_M_reckon p1 p2 p3 p4 = f_M_reckon_5v p1 p2 p3 p4 v5) (ls : Array Slot) (hl : lv_has ls 7 [(6, .int (v5)), (0, .int (p1)), (1, .long (p2)), (3, .long (p3))]), W p l e (headSpec w_M_reckon ({ frames := 3, cells := 0, slots := 0, locals := 75 } : Room)).room s m ([.int (p1), .long (p2), .long (p3), .int (p4)] : List Value).toArray below meth c s.heap [] 0 0 (MQ below (vp_Sl (fun r => r = (f_M_reckon p1 p2 p3 p4))) ([.int (p1), .long (p2), .long (p3), .int (p4)] : List Value).toArray s 0 0 (fun _ => False)) (F0 m 7 ls []) := by
    intro v5 hj ls hl
    refine lv_iload_n hx hb d_M_reckon_7 rfl (lv_at hl 1 rfl) ?_
    by_cases e1_68 : p1 = 0
    · refine lv_tableIn (off := 60) (tgt := 68) hx hb d_M_reckon_8 (by rw [e1_68]; decide) (by rw [e1_68]; decide) (by rw [e1_68]; rfl) (by decide) ?_
      refine lv_lload_n hx hb d_M_reckon_68 rfl (lv_at hl 2 rfl) ?_
      refine lv_lload_n hx hb d_M_reckon_69 rfl (lv_at hl 3 rfl) ?_
      refine lv_ladd hx hb d_M_reckon_70 ?_
      have fe : f_M_reckon p1 p2 p3 p4 = (p2 + p3) := hj.trans (by unfold f_M_reckon_5v; first | with_reducible exact if_pos e1_68 | exact if_pos e1_68)
      exact W.lret (v := p2 + p3) hx hb hr (fun t ht hW => ⟨_, rfl, by rw [fe], ht⟩) t_nil d_M_reckon_71
    by_cases e2_72 : p1 = 1
    · refine lv_tableIn (off := 64) (tgt := 72) hx hb d_M_reckon_8 (by rw [e2_72]; decide) (by rw [e2_72]; decide) (by rw [e2_72]; rfl) (by decide) ?_
      refine lv_lload_n hx hb d_M_reckon_72 rfl (lv_at hl 2 rfl) ?_
      refine lv_lload_n hx hb d_M_reckon_73 rfl (lv_at hl 3 rfl) ?_
      refine lv_lsub hx hb d_M_reckon_74 ?_
      have fe : f_M_reckon p1 p2 p3 p4 = (p2 - p3) := hj.trans (by unfold f_M_reckon_5v; first | with_reducible exact (if_neg e1_68).trans (if_pos e2_72) | exact (if_neg e1_68).trans (if_pos e2_72))
      exact W.lret (v := p2 - p3) hx hb hr (fun t ht hW => ⟨_, rfl, by rw [fe], ht⟩) t_nil d_M_reckon_75
    by_cases e3_76 : p1 = 2
    · refine lv_tableIn (off := 68) (tgt := 76) hx hb d_M_reckon_8 (by rw [e3_76]; decide) (by rw [e3_76]; decide) (by rw [e3_76]; rfl) (by decide) ?_
      refine lv_lload_n hx hb d_M_reckon_76 rfl (lv_at hl 2 rfl) ?_
      refine lv_lload_n hx hb d_M_reckon_77 rfl (lv_at hl 3 rfl) ?_
      refine lv_lmul hx hb d_M_reckon_78 ?_
      have fe : f_M_reckon p1 p2 p3 p4 = (p2 * p3) := hj.trans (by unfold f_M_reckon_5v; first | with_reducible exact (if_neg e1_68).trans ((if_neg e2_72).trans (if_pos e3_76)) | exact (if_neg e1_68).trans ((if_neg e2_72).trans (if_pos e3_76)))
      exact W.lret (v := p2 * p3) hx hb hr (fun t ht hW => ⟨_, rfl, by rw [fe], ht⟩) t_nil d_M_reckon_79
    by_cases e4_80 : p1 = 3
    · refine lv_tableIn (off := 72) (tgt := 80) hx hb d_M_reckon_8 (by rw [e4_80]; decide) (by rw [e4_80]; decide) (by rw [e4_80]; rfl) (by decide) ?_
      refine lv_lload_n hx hb d_M_reckon_80 rfl (lv_at hl 2 rfl) ?_
      refine lv_lload_n hx hb d_M_reckon_81 rfl (lv_at hl 3 rfl) ?_
      refine rc_l (W.runS (As := [.long (p2), .long (p3)]) (rest := []) ⟨hx, hb, hml, hown, hts⟩ (c_M_quotient l p2 p3) (va_cwS 2 hts (gxS gx157 gx158 gx0 gx159) rfl rfl rfl (by decide +kernel) ⟨(Nat.le_of_ble_eq_true rfl), (Nat.le_of_ble_eq_true rfl)⟩) ⟨bl0, fun U hU hW => ⟨rfl, trivial⟩⟩ rfl rfl hl.1 rfl (lv_room (Nat.le_of_ble_eq_true rfl)) d_M_reckon_82 ⟨Nat.zero_le _, Nat.zero_le _⟩) ?_
      have fe : f_M_reckon p1 p2 p3 p4 = (f_M_quotient p2 p3) := hj.trans (by unfold f_M_reckon_5v; first | with_reducible exact (if_neg e1_68).trans ((if_neg e2_72).trans ((if_neg e3_76).trans (if_pos e4_80))) | exact (if_neg e1_68).trans ((if_neg e2_72).trans ((if_neg e3_76).trans (if_pos e4_80))))
      exact W.lret (v := f_M_quotient p2 p3) hx hb hr (fun t ht hW => ⟨_, rfl, by rw [fe], ht⟩) t_nil d_M_reckon_85
    by_cases e5_86 : p1 = 4
    · refine lv_tableIn (off := 78) (tgt := 86) hx hb d_M_reckon_8 (by rw [e5_86]; decide) (by rw [e5_86]; decide) (by rw [e5_86]; rfl) (by decide) ?_
      refine lv_lload_n hx hb d_M_reckon_86 rfl (lv_at hl 2 rfl) ?_
      refine lv_lload_n hx hb d_M_reckon_87 rfl (lv_at hl 3 rfl) ?_
      refine rc_l (W.runS (As := [.long (p2), .long (p3)]) (rest := []) ⟨hx, hb, hml, hown, hts⟩ (c_M_rest l p2 p3) (va_cwS 2 hts (gxS gx194 gx195 gx0 gx196) rfl rfl rfl (by decide +kernel) ⟨(Nat.le_of_ble_eq_true rfl), (Nat.le_of_ble_eq_true rfl)⟩) ⟨bl0, fun U hU hW => ⟨rfl, trivial⟩⟩ rfl rfl hl.1 rfl (lv_room (Nat.le_of_ble_eq_true rfl)) d_M_reckon_88 ⟨Nat.zero_le _, Nat.zero_le _⟩) ?_
      have fe : f_M_reckon p1 p2 p3 p4 = (f_M_rest p2 p3) := hj.trans (by unfold f_M_reckon_5v; first | with_reducible exact (if_neg e1_68).trans ((if_neg e2_72).trans ((if_neg e3_76).trans ((if_neg e4_80).trans (if_pos e5_86)))) | exact (if_neg e1_68).trans ((if_neg e2_72).trans ((if_neg e3_76).trans ((if_neg e4_80).trans (if_pos e5_86)))))
      exact W.lret (v := f_M_rest p2 p3) hx hb hr (fun t ht hW => ⟨_, rfl, by rw [fe], ht⟩) t_nil d_M_reckon_91
    by_cases e6_92 : p1 = 5
    · refine lv_tableIn (off := 84) (tgt := 92) hx hb d_M_reckon_8 (by rw [e6_92]; decide) (by rw [e6_92]; decide) (by rw [e6_92]; rfl) (by decide) ?_
      refine lv_lload_n hx hb d_M_reckon_92 rfl (lv_at hl 2 rfl) ?_
      refine lv_lload_n hx hb d_M_reckon_93 rfl (lv_at hl 3 rfl) ?_
      refine lv_land hx hb d_M_reckon_94 ?_
      have fe : f_M_reckon p1 p2 p3 p4 = (p2 &&& p3) := hj.trans (by unfold f_M_reckon_5v; first | with_reducible exact (if_neg e1_68).trans ((if_neg e2_72).trans ((if_neg e3_76).trans ((if_neg e4_80).trans ((if_neg e5_86).trans (if_pos e6_92))))) | exact (if_neg e1_68).trans ((if_neg e2_72).trans ((if_neg e3_76).trans ((if_neg e4_80).trans ((if_neg e5_86).trans (if_pos e6_92))))))
      exact W.lret (v := p2 &&& p3) hx hb hr (fun t ht hW => ⟨_, rfl, by rw [fe], ht⟩) t_nil d_M_reckon_95
    by_cases e7_96 : p1 = 6
    · refine lv_tableIn (off := 88) (tgt := 96) hx hb d_M_reckon_8 (by rw [e7_96]; decide) (by rw [e7_96]; decide) (by rw [e7_96]; rfl) (by decide) ?_
      refine lv_lload_n hx hb d_M_reckon_96 rfl (lv_at hl 2 rfl) ?_
      refine lv_lload_n hx hb d_M_reckon_97 rfl (lv_at hl 3 rfl) ?_
      refine lv_lor hx hb d_M_reckon_98 ?_
      have fe : f_M_reckon p1 p2 p3 p4 = (p2 ||| p3) := hj.trans (by unfold f_M_reckon_5v; first | with_reducible exact (if_neg e1_68).trans ((if_neg e2_72).trans ((if_neg e3_76).trans ((if_neg e4_80).trans ((if_neg e5_86).trans ((if_neg e6_92).trans (if_pos e7_96)))))) | exact (if_neg e1_68).trans ((if_neg e2_72).trans ((if_neg e3_76).trans ((if_neg e4_80).trans ((if_neg e5_86).trans ((if_neg e6_92).trans (if_pos e7_96)))))))
      exact W.lret (v := p2 ||| p3) hx hb hr (fun t ht hW => ⟨_, rfl, by rw [fe], ht⟩) t_nil d_M_reckon_99
    by_cases e8_100 : p1 = 7
    · refine lv_tableIn (off := 92) (tgt := 100) hx hb d_M_reckon_8 (by rw [e8_100]; decide) (by rw [e8_100]; decide) (by rw [e8_100]; rfl) (by decide) ?_
      refine lv_lload_n hx hb d_M_reckon_100 rfl (lv_at hl 2 rfl) ?_
      refine lv_lload_n hx hb d_M_reckon_101 rfl (lv_at hl 3 rfl) ?_
      refine lv_lxor hx hb d_M_reckon_102 ?_
      have fe : f_M_reckon p1 p2 p3 p4 = (p2 ^^^ p3) := hj.trans (by unfold f_M_reckon_5v; first | with_reducible exact (if_neg e1_68).trans ((if_neg e2_72).trans ((if_neg e3_76).trans ((if_neg e4_80).trans ((if_neg e5_86).trans ((if_neg e6_92).trans ((if_neg e7_96).trans (if_pos e8_100))))))) | exact (if_neg e1_68).trans ((if_neg e2_72).trans ((if_neg e3_76).trans ((if_neg e4_80).trans ((if_neg e5_86).trans ((if_neg e6_92).trans ((if_neg e7_96).trans (if_pos e8_100))))))))
      exact W.lret (v := p2 ^^^ p3) hx hb hr (fun t ht hW => ⟨_, rfl, by rw [fe], ht⟩) t_nil d_M_reckon_103
    by_cases e9_104 : p1 = 8
    · refine lv_tableIn (off := 96) (tgt := 104) hx hb d_M_reckon_8 (by rw [e9_104]; decide) (by rw [e9_104]; decide) (by rw [e9_104]; rfl) (by decide) ?_
      refine lv_lload_n hx hb d_M_reckon_104 rfl (lv_at hl 2 rfl) ?_
      refine lv_iload hx hb d_M_reckon_105 (lv_at hl 0 rfl) ?_
      refine lv_lshl (v := p2 <<< (v5.toInt64 &&& 63)) hx hb d_M_reckon_107 rfl ?_
      have fe : f_M_reckon p1 p2 p3 p4 = (p2 <<< (v5.toInt64 &&& 63)) := hj.trans (by unfold f_M_reckon_5v; first | with_reducible exact (if_neg e1_68).trans ((if_neg e2_72).trans ((if_neg e3_76).trans ((if_neg e4_80).trans ((if_neg e5_86).trans ((if_neg e6_92).trans ((if_neg e7_96).trans ((if_neg e8_100).trans (if_pos e9_104)))))))) | exact (if_neg e1_68).trans ((if_neg e2_72).trans ((if_neg e3_76).trans ((if_neg e4_80).trans ((if_neg e5_86).trans ((if_neg e6_92).trans ((if_neg e7_96).trans ((if_neg e8_100).trans (if_pos e9_104)))))))))
      exact W.lret (v := p2 <<< (v5.toInt64 &&& 63)) hx hb hr (fun t ht hW => ⟨_, rfl, by rw [fe], ht⟩) t_nil d_M_reckon_108
    by_cases e10_109 : p1 = 9
    · refine lv_tableIn (off := 101) (tgt := 109) hx hb d_M_reckon_8 (by rw [e10_109]; decide) (by rw [e10_109]; decide) (by rw [e10_109]; rfl) (by decide) ?_
      refine lv_lload_n hx hb d_M_reckon_109 rfl (lv_at hl 2 rfl) ?_
      refine lv_iload hx hb d_M_reckon_110 (lv_at hl 0 rfl) ?_
      refine lv_lushr (v := (p2.toUInt64 >>> (v5.toInt64.toUInt64 &&& Int64.toUInt64 63)).toInt64) hx hb d_M_reckon_112 rfl ?_
      have fe : f_M_reckon p1 p2 p3 p4 = ((p2.toUInt64 >>> (v5.toInt64.toUInt64 &&& Int64.toUInt64 63)).toInt64) := hj.trans (by unfold f_M_reckon_5v; first | with_reducible exact (if_neg e1_68).trans ((if_neg e2_72).trans ((if_neg e3_76).trans ((if_neg e4_80).trans ((if_neg e5_86).trans ((if_neg e6_92).trans ((if_neg e7_96).trans ((if_neg e8_100).trans ((if_neg e9_104).trans (if_pos e10_109))))))))) | exact (if_neg e1_68).trans ((if_neg e2_72).trans ((if_neg e3_76).trans ((if_neg e4_80).trans ((if_neg e5_86).trans ((if_neg e6_92).trans ((if_neg e7_96).trans ((if_neg e8_100).trans ((if_neg e9_104).trans (if_pos e10_109))))))))))
      exact W.lret (v := (p2.toUInt64 >>> (v5.toInt64.toUInt64 &&& Int64.toUInt64 63)).toInt64) hx hb hr (fun t ht hW => ⟨_, rfl, by rw [fe], ht⟩) t_nil d_M_reckon_113
    by_cases e11_114 : p1 = 10
    · refine lv_tableIn (off := 106) (tgt := 114) hx hb d_M_reckon_8 (by rw [e11_114]; decide) (by rw [e11_114]; decide) (by rw [e11_114]; rfl) (by decide) ?_
      refine lv_lload_n hx hb d_M_reckon_114 rfl (lv_at hl 2 rfl) ?_
      refine lv_iload hx hb d_M_reckon_115 (lv_at hl 0 rfl) ?_
      refine lv_lshr (v := p2 >>> (v5.toInt64 &&& 63)) hx hb d_M_reckon_117 rfl ?_
      have fe : f_M_reckon p1 p2 p3 p4 = (p2 >>> (v5.toInt64 &&& 63)) := hj.trans (by unfold f_M_reckon_5v; first | with_reducible exact (if_neg e1_68).trans ((if_neg e2_72).trans ((if_neg e3_76).trans ((if_neg e4_80).trans ((if_neg e5_86).trans ((if_neg e6_92).trans ((if_neg e7_96).trans ((if_neg e8_100).trans ((if_neg e9_104).trans ((if_neg e10_109).trans (if_pos e11_114)))))))))) | exact (if_neg e1_68).trans ((if_neg e2_72).trans ((if_neg e3_76).trans ((if_neg e4_80).trans ((if_neg e5_86).trans ((if_neg e6_92).trans ((if_neg e7_96).trans ((if_neg e8_100).trans ((if_neg e9_104).trans ((if_neg e10_109).trans (if_pos e11_114)))))))))))
      exact W.lret (v := p2 >>> (v5.toInt64 &&& 63)) hx hb hr (fun t ht hW => ⟨_, rfl, by rw [fe], ht⟩) t_nil d_M_reckon_118
    refine lv_tableOut (tgt := 119) hx hb d_M_reckon_8 (by have n0 := lv_neT (a := 0) e1_68 (by decide); have n1 := lv_neT (a := 1) e2_72 (by decide); have n2 := lv_neT (a := 2) e3_76 (by decide); have n3 := lv_neT (a := 3) e4_80 (by decide); have n4 := lv_neT (a := 4) e5_86 (by decide); have n5 := lv_neT (a := 5) e6_92 (by decide); have n6 := lv_neT (a := 6) e7_96 (by decide); have n7 := lv_neT (a := 7) e8_100 (by decide); have n8 := lv_neT (a := 8) e9_104 (by decide); have n9 := lv_neT (a := 9) e10_109 (by decide); have n10 := lv_neT (a := 10) e11_114 (by decide); omega) (by decide) ?_
    refine lv_lload_n hx hb d_M_reckon_119 rfl (lv_at hl 3 rfl) ?_
    have fe : f_M_reckon p1 p2 p3 p4 = p3 := hj.trans (by unfold f_M_reckon_5v; first | with_reducible exact (if_neg e1_68).trans ((if_neg e2_72).trans ((if_neg e3_76).trans ((if_neg e4_80).trans ((if_neg e5_86).trans ((if_neg e6_92).trans ((if_neg e7_96).trans ((if_neg e8_100).trans ((if_neg e9_104).trans ((if_neg e10_109).trans (if_neg e11_114)))))))))) | exact (if_neg e1_68).trans ((if_neg e2_72).trans ((if_neg e3_76).trans ((if_neg e4_80).trans ((if_neg e5_86).trans ((if_neg e6_92).trans ((if_neg e7_96).trans ((if_neg e8_100).trans ((if_neg e9_104).trans ((if_neg e10_109).trans (if_neg e11_114)))))))))))
    exact W.lret (v := p3) hx hb hr (fun t ht hW => ⟨_, rfl, by rw [fe], ht⟩) t_nil d_M_reckon_120
  refine lv_lload_n hx hb d_M_reckon_0 rfl (lv_at hl 2 rfl) ?_
  refine lv_l2i (v := p3.toInt32) hx hb d_M_reckon_1 rfl ?_
  refine lv_iload hx hb d_M_reckon_2 (lv_at hl 3 rfl) ?_
  refine lv_iand hx hb d_M_reckon_4 ?_
  refine lv_topi (fun v5 ev5 => ?_)
  refine lv_istore (lv' := [(6, .int (v5)), (0, .int (p1)), (1, .long (p2)), (3, .long (p3)), (5, .int (p4))]) hx hb d_M_reckon_5 hl (by decide) rfl (fun ls hl => ?_)
  exact K5v v5 (Eq.trans (rfl) (congrArg (fun v5 => f_M_reckon_5v p1 p2 p3 p4 v5) ev5.symm)) ls (lv_sub hl [0, 1, 2, 3] rfl)
-- isSo
theorem d_M_isSo_0 : decode b_M_isSo 0 = .ok (.iload_n 0, 1) := by decide +kernel
theorem d_M_isSo_1 : decode b_M_isSo 1 = .ok (.tableswitch 185 0 10 #[59, 71, 83, 89, 103, 109, 123, 135, 147, 159, 171], 59) := by decide +kernel
theorem d_M_isSo_60 : decode b_M_isSo 60 = .ok (.lload_n 1, 1) := by decide +kernel
theorem d_M_isSo_61 : decode b_M_isSo 61 = .ok (.lload_n 3, 1) := by decide +kernel
theorem d_M_isSo_62 : decode b_M_isSo 62 = .ok (.lcmp, 1) := by decide +kernel
theorem d_M_isSo_63 : decode b_M_isSo 63 = .ok (.ifCond .ne 7, 3) := by decide +kernel
theorem d_M_isSo_66 : decode b_M_isSo 66 = .ok (.iconst 1, 1) := by decide +kernel
theorem d_M_isSo_67 : decode b_M_isSo 67 = .ok (.goto 4, 3) := by decide +kernel
theorem d_M_isSo_70 : decode b_M_isSo 70 = .ok (.iconst 0, 1) := by decide +kernel
theorem d_M_isSo_71 : decode b_M_isSo 71 = .ok (.ireturn, 1) := by decide +kernel
theorem d_M_isSo_72 : decode b_M_isSo 72 = .ok (.lload_n 1, 1) := by decide +kernel
theorem d_M_isSo_73 : decode b_M_isSo 73 = .ok (.lload_n 3, 1) := by decide +kernel
theorem d_M_isSo_74 : decode b_M_isSo 74 = .ok (.lcmp, 1) := by decide +kernel
theorem d_M_isSo_75 : decode b_M_isSo 75 = .ok (.ifCond .eq 7, 3) := by decide +kernel
theorem d_M_isSo_78 : decode b_M_isSo 78 = .ok (.iconst 1, 1) := by decide +kernel
theorem d_M_isSo_79 : decode b_M_isSo 79 = .ok (.goto 4, 3) := by decide +kernel
theorem d_M_isSo_82 : decode b_M_isSo 82 = .ok (.iconst 0, 1) := by decide +kernel
theorem d_M_isSo_83 : decode b_M_isSo 83 = .ok (.ireturn, 1) := by decide +kernel
theorem d_M_isSo_84 : decode b_M_isSo 84 = .ok (.lload_n 1, 1) := by decide +kernel
theorem d_M_isSo_85 : decode b_M_isSo 85 = .ok (.lload_n 3, 1) := by decide +kernel
theorem d_M_isSo_86 : decode b_M_isSo 86 = .ok (.invokestatic 39, 3) := by decide +kernel
theorem d_M_isSo_89 : decode b_M_isSo 89 = .ok (.ireturn, 1) := by decide +kernel
theorem d_M_isSo_90 : decode b_M_isSo 90 = .ok (.lload_n 3, 1) := by decide +kernel
theorem d_M_isSo_91 : decode b_M_isSo 91 = .ok (.lload_n 1, 1) := by decide +kernel
theorem d_M_isSo_92 : decode b_M_isSo 92 = .ok (.invokestatic 39, 3) := by decide +kernel
theorem d_M_isSo_95 : decode b_M_isSo 95 = .ok (.ifCond .ne 7, 3) := by decide +kernel
theorem d_M_isSo_98 : decode b_M_isSo 98 = .ok (.iconst 1, 1) := by decide +kernel
theorem d_M_isSo_99 : decode b_M_isSo 99 = .ok (.goto 4, 3) := by decide +kernel
theorem d_M_isSo_102 : decode b_M_isSo 102 = .ok (.iconst 0, 1) := by decide +kernel
theorem d_M_isSo_103 : decode b_M_isSo 103 = .ok (.ireturn, 1) := by decide +kernel
theorem d_M_isSo_104 : decode b_M_isSo 104 = .ok (.lload_n 3, 1) := by decide +kernel
theorem d_M_isSo_105 : decode b_M_isSo 105 = .ok (.lload_n 1, 1) := by decide +kernel
theorem d_M_isSo_106 : decode b_M_isSo 106 = .ok (.invokestatic 39, 3) := by decide +kernel
theorem d_M_isSo_109 : decode b_M_isSo 109 = .ok (.ireturn, 1) := by decide +kernel
theorem d_M_isSo_110 : decode b_M_isSo 110 = .ok (.lload_n 1, 1) := by decide +kernel
theorem d_M_isSo_111 : decode b_M_isSo 111 = .ok (.lload_n 3, 1) := by decide +kernel
theorem d_M_isSo_112 : decode b_M_isSo 112 = .ok (.invokestatic 39, 3) := by decide +kernel
theorem d_M_isSo_115 : decode b_M_isSo 115 = .ok (.ifCond .ne 7, 3) := by decide +kernel
theorem d_M_isSo_118 : decode b_M_isSo 118 = .ok (.iconst 1, 1) := by decide +kernel
theorem d_M_isSo_119 : decode b_M_isSo 119 = .ok (.goto 4, 3) := by decide +kernel
theorem d_M_isSo_122 : decode b_M_isSo 122 = .ok (.iconst 0, 1) := by decide +kernel
theorem d_M_isSo_123 : decode b_M_isSo 123 = .ok (.ireturn, 1) := by decide +kernel
theorem d_M_isSo_124 : decode b_M_isSo 124 = .ok (.lload_n 1, 1) := by decide +kernel
theorem d_M_isSo_125 : decode b_M_isSo 125 = .ok (.lload_n 3, 1) := by decide +kernel
theorem d_M_isSo_126 : decode b_M_isSo 126 = .ok (.lcmp, 1) := by decide +kernel
theorem d_M_isSo_127 : decode b_M_isSo 127 = .ok (.ifCond .ge 7, 3) := by decide +kernel
theorem d_M_isSo_130 : decode b_M_isSo 130 = .ok (.iconst 1, 1) := by decide +kernel
theorem d_M_isSo_131 : decode b_M_isSo 131 = .ok (.goto 4, 3) := by decide +kernel
theorem d_M_isSo_134 : decode b_M_isSo 134 = .ok (.iconst 0, 1) := by decide +kernel
theorem d_M_isSo_135 : decode b_M_isSo 135 = .ok (.ireturn, 1) := by decide +kernel
theorem d_M_isSo_136 : decode b_M_isSo 136 = .ok (.lload_n 1, 1) := by decide +kernel
theorem d_M_isSo_137 : decode b_M_isSo 137 = .ok (.lload_n 3, 1) := by decide +kernel
theorem d_M_isSo_138 : decode b_M_isSo 138 = .ok (.lcmp, 1) := by decide +kernel
theorem d_M_isSo_139 : decode b_M_isSo 139 = .ok (.ifCond .gt 7, 3) := by decide +kernel
theorem d_M_isSo_142 : decode b_M_isSo 142 = .ok (.iconst 1, 1) := by decide +kernel
theorem d_M_isSo_143 : decode b_M_isSo 143 = .ok (.goto 4, 3) := by decide +kernel
theorem d_M_isSo_146 : decode b_M_isSo 146 = .ok (.iconst 0, 1) := by decide +kernel
theorem d_M_isSo_147 : decode b_M_isSo 147 = .ok (.ireturn, 1) := by decide +kernel
theorem d_M_isSo_148 : decode b_M_isSo 148 = .ok (.lload_n 1, 1) := by decide +kernel
theorem d_M_isSo_149 : decode b_M_isSo 149 = .ok (.lload_n 3, 1) := by decide +kernel
theorem d_M_isSo_150 : decode b_M_isSo 150 = .ok (.lcmp, 1) := by decide +kernel
theorem d_M_isSo_151 : decode b_M_isSo 151 = .ok (.ifCond .le 7, 3) := by decide +kernel
theorem d_M_isSo_154 : decode b_M_isSo 154 = .ok (.iconst 1, 1) := by decide +kernel
theorem d_M_isSo_155 : decode b_M_isSo 155 = .ok (.goto 4, 3) := by decide +kernel
theorem d_M_isSo_158 : decode b_M_isSo 158 = .ok (.iconst 0, 1) := by decide +kernel
theorem d_M_isSo_159 : decode b_M_isSo 159 = .ok (.ireturn, 1) := by decide +kernel
theorem d_M_isSo_160 : decode b_M_isSo 160 = .ok (.lload_n 1, 1) := by decide +kernel
theorem d_M_isSo_161 : decode b_M_isSo 161 = .ok (.lload_n 3, 1) := by decide +kernel
theorem d_M_isSo_162 : decode b_M_isSo 162 = .ok (.lcmp, 1) := by decide +kernel
theorem d_M_isSo_163 : decode b_M_isSo 163 = .ok (.ifCond .lt 7, 3) := by decide +kernel
theorem d_M_isSo_166 : decode b_M_isSo 166 = .ok (.iconst 1, 1) := by decide +kernel
theorem d_M_isSo_167 : decode b_M_isSo 167 = .ok (.goto 4, 3) := by decide +kernel
theorem d_M_isSo_170 : decode b_M_isSo 170 = .ok (.iconst 0, 1) := by decide +kernel
theorem d_M_isSo_171 : decode b_M_isSo 171 = .ok (.ireturn, 1) := by decide +kernel
theorem d_M_isSo_172 : decode b_M_isSo 172 = .ok (.lload_n 1, 1) := by decide +kernel
theorem d_M_isSo_173 : decode b_M_isSo 173 = .ok (.lload_n 3, 1) := by decide +kernel
theorem d_M_isSo_174 : decode b_M_isSo 174 = .ok (.land, 1) := by decide +kernel
theorem d_M_isSo_175 : decode b_M_isSo 175 = .ok (.lconst 0, 1) := by decide +kernel
theorem d_M_isSo_176 : decode b_M_isSo 176 = .ok (.lcmp, 1) := by decide +kernel
theorem d_M_isSo_177 : decode b_M_isSo 177 = .ok (.ifCond .eq 7, 3) := by decide +kernel
theorem d_M_isSo_180 : decode b_M_isSo 180 = .ok (.iconst 1, 1) := by decide +kernel
theorem d_M_isSo_181 : decode b_M_isSo 181 = .ok (.goto 4, 3) := by decide +kernel
theorem d_M_isSo_184 : decode b_M_isSo 184 = .ok (.iconst 0, 1) := by decide +kernel
theorem d_M_isSo_185 : decode b_M_isSo 185 = .ok (.ireturn, 1) := by decide +kernel
theorem d_M_isSo_186 : decode b_M_isSo 186 = .ok (.lload_n 1, 1) := by decide +kernel
theorem d_M_isSo_187 : decode b_M_isSo 187 = .ok (.lload_n 3, 1) := by decide +kernel
theorem d_M_isSo_188 : decode b_M_isSo 188 = .ok (.land, 1) := by decide +kernel
theorem d_M_isSo_189 : decode b_M_isSo 189 = .ok (.lconst 0, 1) := by decide +kernel
theorem d_M_isSo_190 : decode b_M_isSo 190 = .ok (.lcmp, 1) := by decide +kernel
theorem d_M_isSo_191 : decode b_M_isSo 191 = .ok (.ifCond .ne 7, 3) := by decide +kernel
theorem d_M_isSo_194 : decode b_M_isSo 194 = .ok (.iconst 1, 1) := by decide +kernel
theorem d_M_isSo_195 : decode b_M_isSo 195 = .ok (.goto 4, 3) := by decide +kernel
theorem d_M_isSo_198 : decode b_M_isSo 198 = .ok (.iconst 0, 1) := by decide +kernel
theorem d_M_isSo_199 : decode b_M_isSo 199 = .ok (.ireturn, 1) := by decide +kernel
def f_M_isSo (p1 : Int32) (p2 : Int64) (p3 : Int64) : Bool := (if p1 = 0 then (if p2 = p3 then true else false) else (if p1 = 1 then (if p2 = p3 then false else true) else (if p1 = 2 then (f_M_below p2 p3) else (if p1 = 3 then (if (f_M_below p3 p2) = true then false else true) else (if p1 = 4 then (f_M_below p3 p2) else (if p1 = 5 then (if (f_M_below p2 p3) = true then false else true) else (if p1 = 6 then (if p2 < p3 then true else false) else (if p1 = 7 then (if p3 < p2 then false else true) else (if p1 = 8 then (if p3 < p2 then true else false) else (if p1 = 9 then (if p2 < p3 then false else true) else (if p1 = 10 then (if (p2 &&& p3) = 0 then false else true) else (if (p2 &&& p3) = 0 then true else false))))))))))))
set_option maxRecDepth 100000 in
set_option maxHeartbeats 4000000 in
theorem c_M_isSo (l : Launch) (p1 : Int32) (p2 : Int64) (p3 : Int64) : Met l y_M_isSo w_M_isSo ({ frames := 1, cells := 0, slots := 0, locals := 23 } : Room) (va_Pc [.int (p1), .long (p2), .long (p3)] (fun _ => True)) (vp_Si (fun r => r = bI (f_M_isSo p1 p2 p3))) 0 0 (fun _ => False) := by
  refine Met.ofW (cc := b_M_isSo) (maxL := 5) (ret := (some .boolean)) (by decide) rfl ?_
  intro p e s m args below meth c s₁ B hml hv
  obtain ⟨rfl, -⟩ := hv
  have hx := B.exec
  have hb := B.bytes
  have hr := B.returns
  have hts := atoms_spec (ws := w_M_isSo) B.pre
  have hG : ∀ w ∈ gM, w.before _ s = true := fun w h => hts w (List.mem_cons_of_mem _ h)
  have hown : s.vm.findClass R_M = some m.cls := findClass_of_methodNamed B.named
  have hlocks := B.notSynchronized
  have hl := lv_entry ([.int (p1), .long (p2), .long (p3)]) (n := 5) (Nat.le_of_ble_eq_true rfl)
  rw [lg_entry_eq]
  generalize (lg_sl ([.int (p1), .long (p2), .long (p3)]) ++ List.replicate (5 - (lg_sl ([.int (p1), .long (p2), .long (p3)])).length) Slot.unset).toArray = ls at hl ⊢
  have hl : lv_has ls 5 [(0, .int (p1)), (1, .long (p2)), (3, .long (p3))] := hl
  refine lv_iload_n hx hb d_M_isSo_0 rfl (lv_at hl 0 rfl) ?_
  by_cases e1_60 : p1 = 0
  · refine lv_tableIn (off := 59) (tgt := 60) hx hb d_M_isSo_1 (by rw [e1_60]; decide) (by rw [e1_60]; decide) (by rw [e1_60]; rfl) (by decide) ?_
    refine lv_lload_n hx hb d_M_isSo_60 rfl (lv_at hl 1 rfl) ?_
    refine lv_lload_n hx hb d_M_isSo_61 rfl (lv_at hl 2 rfl) ?_
    refine wl_ne (tgt := 70) hx hb d_M_isSo_62 d_M_isSo_63 (by decide) (fun e2_70 => ?_) (fun e2_70 => ?_)
    · refine lv_iconst (v := 0) hx hb d_M_isSo_70 (by decide) ?_
      have fe : f_M_isSo p1 p2 p3 = false := by unfold f_M_isSo; first | with_reducible exact (if_pos e1_60).trans (if_neg e2_70) | exact (if_pos e1_60).trans (if_neg e2_70)
      exact W.zret (v := bI false) hx hb hr (bI_n false) (fun t ht hW => ⟨_, rfl, by rw [fe], ht⟩) t_nil d_M_isSo_71
    · refine lv_iconst (v := 1) hx hb d_M_isSo_66 (by decide) ?_
      refine lv_goto (tgt := 71) hx hb d_M_isSo_67 (by decide) ?_
      have fe : f_M_isSo p1 p2 p3 = true := by unfold f_M_isSo; first | with_reducible exact (if_pos e1_60).trans (if_pos e2_70) | exact (if_pos e1_60).trans (if_pos e2_70)
      exact W.zret (v := bI true) hx hb hr (bI_n true) (fun t ht hW => ⟨_, rfl, by rw [fe], ht⟩) t_nil d_M_isSo_71
  by_cases e3_72 : p1 = 1
  · refine lv_tableIn (off := 71) (tgt := 72) hx hb d_M_isSo_1 (by rw [e3_72]; decide) (by rw [e3_72]; decide) (by rw [e3_72]; rfl) (by decide) ?_
    refine lv_lload_n hx hb d_M_isSo_72 rfl (lv_at hl 1 rfl) ?_
    refine lv_lload_n hx hb d_M_isSo_73 rfl (lv_at hl 2 rfl) ?_
    refine wl_eq (tgt := 82) hx hb d_M_isSo_74 d_M_isSo_75 (by decide) (fun e4_82 => ?_) (fun e4_82 => ?_)
    · refine lv_iconst (v := 0) hx hb d_M_isSo_82 (by decide) ?_
      have fe : f_M_isSo p1 p2 p3 = false := by unfold f_M_isSo; first | with_reducible exact (if_neg e1_60).trans ((if_pos e3_72).trans (if_pos e4_82)) | exact (if_neg e1_60).trans ((if_pos e3_72).trans (if_pos e4_82))
      exact W.zret (v := bI false) hx hb hr (bI_n false) (fun t ht hW => ⟨_, rfl, by rw [fe], ht⟩) t_nil d_M_isSo_83
    · refine lv_iconst (v := 1) hx hb d_M_isSo_78 (by decide) ?_
      refine lv_goto (tgt := 83) hx hb d_M_isSo_79 (by decide) ?_
      have fe : f_M_isSo p1 p2 p3 = true := by unfold f_M_isSo; first | with_reducible exact (if_neg e1_60).trans ((if_pos e3_72).trans (if_neg e4_82)) | exact (if_neg e1_60).trans ((if_pos e3_72).trans (if_neg e4_82))
      exact W.zret (v := bI true) hx hb hr (bI_n true) (fun t ht hW => ⟨_, rfl, by rw [fe], ht⟩) t_nil d_M_isSo_83
  by_cases e5_84 : p1 = 2
  · refine lv_tableIn (off := 83) (tgt := 84) hx hb d_M_isSo_1 (by rw [e5_84]; decide) (by rw [e5_84]; decide) (by rw [e5_84]; rfl) (by decide) ?_
    refine lv_lload_n hx hb d_M_isSo_84 rfl (lv_at hl 1 rfl) ?_
    refine lv_lload_n hx hb d_M_isSo_85 rfl (lv_at hl 2 rfl) ?_
    refine rc_i (W.runS (As := [.long (p2), .long (p3)]) (rest := []) ⟨hx, hb, hml, hown, hts⟩ (c_M_below l p2 p3) (va_cwS 2 hts (gxS gx57 gx58 gx0 gx59) rfl rfl rfl (by decide +kernel) ⟨(Nat.le_of_ble_eq_true rfl), (Nat.le_of_ble_eq_true rfl)⟩) ⟨bl0, fun U hU hW => ⟨rfl, trivial⟩⟩ rfl rfl hl.1 rfl (lv_room (Nat.le_of_ble_eq_true rfl)) d_M_isSo_86 ⟨Nat.zero_le _, Nat.zero_le _⟩) ?_
    have fe : f_M_isSo p1 p2 p3 = (f_M_below p2 p3) := by unfold f_M_isSo; first | with_reducible exact (if_neg e1_60).trans ((if_neg e3_72).trans (if_pos e5_84)) | exact (if_neg e1_60).trans ((if_neg e3_72).trans (if_pos e5_84))
    exact W.zret (v := bI (f_M_below p2 p3)) hx hb hr (bI_n (f_M_below p2 p3)) (fun t ht hW => ⟨_, rfl, by rw [fe], ht⟩) t_nil d_M_isSo_89
  by_cases e6_90 : p1 = 3
  · refine lv_tableIn (off := 89) (tgt := 90) hx hb d_M_isSo_1 (by rw [e6_90]; decide) (by rw [e6_90]; decide) (by rw [e6_90]; rfl) (by decide) ?_
    refine lv_lload_n hx hb d_M_isSo_90 rfl (lv_at hl 2 rfl) ?_
    refine lv_lload_n hx hb d_M_isSo_91 rfl (lv_at hl 1 rfl) ?_
    refine rc_i (W.runS (As := [.long (p3), .long (p2)]) (rest := []) ⟨hx, hb, hml, hown, hts⟩ (c_M_below l p3 p2) (va_cwS 2 hts (gxS gx57 gx58 gx0 gx59) rfl rfl rfl (by decide +kernel) ⟨(Nat.le_of_ble_eq_true rfl), (Nat.le_of_ble_eq_true rfl)⟩) ⟨bl0, fun U hU hW => ⟨rfl, trivial⟩⟩ rfl rfl hl.1 rfl (lv_room (Nat.le_of_ble_eq_true rfl)) d_M_isSo_92 ⟨Nat.zero_le _, Nat.zero_le _⟩) ?_
    refine wz_ne (tgt := 102) hx hb d_M_isSo_95 (by decide) (fun e7_102 => ?_) (fun e7_102 => ?_)
    · refine lv_iconst (v := 0) hx hb d_M_isSo_102 (by decide) ?_
      have fe : f_M_isSo p1 p2 p3 = false := by unfold f_M_isSo; first | with_reducible exact (if_neg e1_60).trans ((if_neg e3_72).trans ((if_neg e5_84).trans ((if_pos e6_90).trans (if_pos e7_102)))) | exact (if_neg e1_60).trans ((if_neg e3_72).trans ((if_neg e5_84).trans ((if_pos e6_90).trans (if_pos e7_102))))
      exact W.zret (v := bI false) hx hb hr (bI_n false) (fun t ht hW => ⟨_, rfl, by rw [fe], ht⟩) t_nil d_M_isSo_103
    · refine lv_iconst (v := 1) hx hb d_M_isSo_98 (by decide) ?_
      refine lv_goto (tgt := 103) hx hb d_M_isSo_99 (by decide) ?_
      have fe : f_M_isSo p1 p2 p3 = true := by unfold f_M_isSo; first | with_reducible exact (if_neg e1_60).trans ((if_neg e3_72).trans ((if_neg e5_84).trans ((if_pos e6_90).trans (if_neg e7_102)))) | exact (if_neg e1_60).trans ((if_neg e3_72).trans ((if_neg e5_84).trans ((if_pos e6_90).trans (if_neg e7_102))))
      exact W.zret (v := bI true) hx hb hr (bI_n true) (fun t ht hW => ⟨_, rfl, by rw [fe], ht⟩) t_nil d_M_isSo_103
  by_cases e8_104 : p1 = 4
  · refine lv_tableIn (off := 103) (tgt := 104) hx hb d_M_isSo_1 (by rw [e8_104]; decide) (by rw [e8_104]; decide) (by rw [e8_104]; rfl) (by decide) ?_
    refine lv_lload_n hx hb d_M_isSo_104 rfl (lv_at hl 2 rfl) ?_
    refine lv_lload_n hx hb d_M_isSo_105 rfl (lv_at hl 1 rfl) ?_
    refine rc_i (W.runS (As := [.long (p3), .long (p2)]) (rest := []) ⟨hx, hb, hml, hown, hts⟩ (c_M_below l p3 p2) (va_cwS 2 hts (gxS gx57 gx58 gx0 gx59) rfl rfl rfl (by decide +kernel) ⟨(Nat.le_of_ble_eq_true rfl), (Nat.le_of_ble_eq_true rfl)⟩) ⟨bl0, fun U hU hW => ⟨rfl, trivial⟩⟩ rfl rfl hl.1 rfl (lv_room (Nat.le_of_ble_eq_true rfl)) d_M_isSo_106 ⟨Nat.zero_le _, Nat.zero_le _⟩) ?_
    have fe : f_M_isSo p1 p2 p3 = (f_M_below p3 p2) := by unfold f_M_isSo; first | with_reducible exact (if_neg e1_60).trans ((if_neg e3_72).trans ((if_neg e5_84).trans ((if_neg e6_90).trans (if_pos e8_104)))) | exact (if_neg e1_60).trans ((if_neg e3_72).trans ((if_neg e5_84).trans ((if_neg e6_90).trans (if_pos e8_104))))
    exact W.zret (v := bI (f_M_below p3 p2)) hx hb hr (bI_n (f_M_below p3 p2)) (fun t ht hW => ⟨_, rfl, by rw [fe], ht⟩) t_nil d_M_isSo_109
  by_cases e9_110 : p1 = 5
  · refine lv_tableIn (off := 109) (tgt := 110) hx hb d_M_isSo_1 (by rw [e9_110]; decide) (by rw [e9_110]; decide) (by rw [e9_110]; rfl) (by decide) ?_
    refine lv_lload_n hx hb d_M_isSo_110 rfl (lv_at hl 1 rfl) ?_
    refine lv_lload_n hx hb d_M_isSo_111 rfl (lv_at hl 2 rfl) ?_
    refine rc_i (W.runS (As := [.long (p2), .long (p3)]) (rest := []) ⟨hx, hb, hml, hown, hts⟩ (c_M_below l p2 p3) (va_cwS 2 hts (gxS gx57 gx58 gx0 gx59) rfl rfl rfl (by decide +kernel) ⟨(Nat.le_of_ble_eq_true rfl), (Nat.le_of_ble_eq_true rfl)⟩) ⟨bl0, fun U hU hW => ⟨rfl, trivial⟩⟩ rfl rfl hl.1 rfl (lv_room (Nat.le_of_ble_eq_true rfl)) d_M_isSo_112 ⟨Nat.zero_le _, Nat.zero_le _⟩) ?_
    refine wz_ne (tgt := 122) hx hb d_M_isSo_115 (by decide) (fun e10_122 => ?_) (fun e10_122 => ?_)
    · refine lv_iconst (v := 0) hx hb d_M_isSo_122 (by decide) ?_
      have fe : f_M_isSo p1 p2 p3 = false := by unfold f_M_isSo; first | with_reducible exact (if_neg e1_60).trans ((if_neg e3_72).trans ((if_neg e5_84).trans ((if_neg e6_90).trans ((if_neg e8_104).trans ((if_pos e9_110).trans (if_pos e10_122)))))) | exact (if_neg e1_60).trans ((if_neg e3_72).trans ((if_neg e5_84).trans ((if_neg e6_90).trans ((if_neg e8_104).trans ((if_pos e9_110).trans (if_pos e10_122))))))
      exact W.zret (v := bI false) hx hb hr (bI_n false) (fun t ht hW => ⟨_, rfl, by rw [fe], ht⟩) t_nil d_M_isSo_123
    · refine lv_iconst (v := 1) hx hb d_M_isSo_118 (by decide) ?_
      refine lv_goto (tgt := 123) hx hb d_M_isSo_119 (by decide) ?_
      have fe : f_M_isSo p1 p2 p3 = true := by unfold f_M_isSo; first | with_reducible exact (if_neg e1_60).trans ((if_neg e3_72).trans ((if_neg e5_84).trans ((if_neg e6_90).trans ((if_neg e8_104).trans ((if_pos e9_110).trans (if_neg e10_122)))))) | exact (if_neg e1_60).trans ((if_neg e3_72).trans ((if_neg e5_84).trans ((if_neg e6_90).trans ((if_neg e8_104).trans ((if_pos e9_110).trans (if_neg e10_122))))))
      exact W.zret (v := bI true) hx hb hr (bI_n true) (fun t ht hW => ⟨_, rfl, by rw [fe], ht⟩) t_nil d_M_isSo_123
  by_cases e11_124 : p1 = 6
  · refine lv_tableIn (off := 123) (tgt := 124) hx hb d_M_isSo_1 (by rw [e11_124]; decide) (by rw [e11_124]; decide) (by rw [e11_124]; rfl) (by decide) ?_
    refine lv_lload_n hx hb d_M_isSo_124 rfl (lv_at hl 1 rfl) ?_
    refine lv_lload_n hx hb d_M_isSo_125 rfl (lv_at hl 2 rfl) ?_
    refine wl_ge (tgt := 134) hx hb d_M_isSo_126 d_M_isSo_127 (by decide) (fun e12_134 => ?_) (fun e12_134 => ?_)
    · refine lv_iconst (v := 0) hx hb d_M_isSo_134 (by decide) ?_
      have fe : f_M_isSo p1 p2 p3 = false := by unfold f_M_isSo; first | with_reducible exact (if_neg e1_60).trans ((if_neg e3_72).trans ((if_neg e5_84).trans ((if_neg e6_90).trans ((if_neg e8_104).trans ((if_neg e9_110).trans ((if_pos e11_124).trans (if_neg e12_134))))))) | exact (if_neg e1_60).trans ((if_neg e3_72).trans ((if_neg e5_84).trans ((if_neg e6_90).trans ((if_neg e8_104).trans ((if_neg e9_110).trans ((if_pos e11_124).trans (if_neg e12_134)))))))
      exact W.zret (v := bI false) hx hb hr (bI_n false) (fun t ht hW => ⟨_, rfl, by rw [fe], ht⟩) t_nil d_M_isSo_135
    · refine lv_iconst (v := 1) hx hb d_M_isSo_130 (by decide) ?_
      refine lv_goto (tgt := 135) hx hb d_M_isSo_131 (by decide) ?_
      have fe : f_M_isSo p1 p2 p3 = true := by unfold f_M_isSo; first | with_reducible exact (if_neg e1_60).trans ((if_neg e3_72).trans ((if_neg e5_84).trans ((if_neg e6_90).trans ((if_neg e8_104).trans ((if_neg e9_110).trans ((if_pos e11_124).trans (if_pos e12_134))))))) | exact (if_neg e1_60).trans ((if_neg e3_72).trans ((if_neg e5_84).trans ((if_neg e6_90).trans ((if_neg e8_104).trans ((if_neg e9_110).trans ((if_pos e11_124).trans (if_pos e12_134)))))))
      exact W.zret (v := bI true) hx hb hr (bI_n true) (fun t ht hW => ⟨_, rfl, by rw [fe], ht⟩) t_nil d_M_isSo_135
  by_cases e13_136 : p1 = 7
  · refine lv_tableIn (off := 135) (tgt := 136) hx hb d_M_isSo_1 (by rw [e13_136]; decide) (by rw [e13_136]; decide) (by rw [e13_136]; rfl) (by decide) ?_
    refine lv_lload_n hx hb d_M_isSo_136 rfl (lv_at hl 1 rfl) ?_
    refine lv_lload_n hx hb d_M_isSo_137 rfl (lv_at hl 2 rfl) ?_
    refine wl_gt (tgt := 146) hx hb d_M_isSo_138 d_M_isSo_139 (by decide) (fun e14_146 => ?_) (fun e14_146 => ?_)
    · refine lv_iconst (v := 0) hx hb d_M_isSo_146 (by decide) ?_
      have fe : f_M_isSo p1 p2 p3 = false := by unfold f_M_isSo; first | with_reducible exact (if_neg e1_60).trans ((if_neg e3_72).trans ((if_neg e5_84).trans ((if_neg e6_90).trans ((if_neg e8_104).trans ((if_neg e9_110).trans ((if_neg e11_124).trans ((if_pos e13_136).trans (if_pos e14_146)))))))) | exact (if_neg e1_60).trans ((if_neg e3_72).trans ((if_neg e5_84).trans ((if_neg e6_90).trans ((if_neg e8_104).trans ((if_neg e9_110).trans ((if_neg e11_124).trans ((if_pos e13_136).trans (if_pos e14_146))))))))
      exact W.zret (v := bI false) hx hb hr (bI_n false) (fun t ht hW => ⟨_, rfl, by rw [fe], ht⟩) t_nil d_M_isSo_147
    · refine lv_iconst (v := 1) hx hb d_M_isSo_142 (by decide) ?_
      refine lv_goto (tgt := 147) hx hb d_M_isSo_143 (by decide) ?_
      have fe : f_M_isSo p1 p2 p3 = true := by unfold f_M_isSo; first | with_reducible exact (if_neg e1_60).trans ((if_neg e3_72).trans ((if_neg e5_84).trans ((if_neg e6_90).trans ((if_neg e8_104).trans ((if_neg e9_110).trans ((if_neg e11_124).trans ((if_pos e13_136).trans (if_neg e14_146)))))))) | exact (if_neg e1_60).trans ((if_neg e3_72).trans ((if_neg e5_84).trans ((if_neg e6_90).trans ((if_neg e8_104).trans ((if_neg e9_110).trans ((if_neg e11_124).trans ((if_pos e13_136).trans (if_neg e14_146))))))))
      exact W.zret (v := bI true) hx hb hr (bI_n true) (fun t ht hW => ⟨_, rfl, by rw [fe], ht⟩) t_nil d_M_isSo_147
  by_cases e15_148 : p1 = 8
  · refine lv_tableIn (off := 147) (tgt := 148) hx hb d_M_isSo_1 (by rw [e15_148]; decide) (by rw [e15_148]; decide) (by rw [e15_148]; rfl) (by decide) ?_
    refine lv_lload_n hx hb d_M_isSo_148 rfl (lv_at hl 1 rfl) ?_
    refine lv_lload_n hx hb d_M_isSo_149 rfl (lv_at hl 2 rfl) ?_
    refine wl_le (tgt := 158) hx hb d_M_isSo_150 d_M_isSo_151 (by decide) (fun e16_158 => ?_) (fun e16_158 => ?_)
    · refine lv_iconst (v := 0) hx hb d_M_isSo_158 (by decide) ?_
      have fe : f_M_isSo p1 p2 p3 = false := by unfold f_M_isSo; first | with_reducible exact (if_neg e1_60).trans ((if_neg e3_72).trans ((if_neg e5_84).trans ((if_neg e6_90).trans ((if_neg e8_104).trans ((if_neg e9_110).trans ((if_neg e11_124).trans ((if_neg e13_136).trans ((if_pos e15_148).trans (if_neg e16_158))))))))) | exact (if_neg e1_60).trans ((if_neg e3_72).trans ((if_neg e5_84).trans ((if_neg e6_90).trans ((if_neg e8_104).trans ((if_neg e9_110).trans ((if_neg e11_124).trans ((if_neg e13_136).trans ((if_pos e15_148).trans (if_neg e16_158)))))))))
      exact W.zret (v := bI false) hx hb hr (bI_n false) (fun t ht hW => ⟨_, rfl, by rw [fe], ht⟩) t_nil d_M_isSo_159
    · refine lv_iconst (v := 1) hx hb d_M_isSo_154 (by decide) ?_
      refine lv_goto (tgt := 159) hx hb d_M_isSo_155 (by decide) ?_
      have fe : f_M_isSo p1 p2 p3 = true := by unfold f_M_isSo; first | with_reducible exact (if_neg e1_60).trans ((if_neg e3_72).trans ((if_neg e5_84).trans ((if_neg e6_90).trans ((if_neg e8_104).trans ((if_neg e9_110).trans ((if_neg e11_124).trans ((if_neg e13_136).trans ((if_pos e15_148).trans (if_pos e16_158))))))))) | exact (if_neg e1_60).trans ((if_neg e3_72).trans ((if_neg e5_84).trans ((if_neg e6_90).trans ((if_neg e8_104).trans ((if_neg e9_110).trans ((if_neg e11_124).trans ((if_neg e13_136).trans ((if_pos e15_148).trans (if_pos e16_158)))))))))
      exact W.zret (v := bI true) hx hb hr (bI_n true) (fun t ht hW => ⟨_, rfl, by rw [fe], ht⟩) t_nil d_M_isSo_159
  by_cases e17_160 : p1 = 9
  · refine lv_tableIn (off := 159) (tgt := 160) hx hb d_M_isSo_1 (by rw [e17_160]; decide) (by rw [e17_160]; decide) (by rw [e17_160]; rfl) (by decide) ?_
    refine lv_lload_n hx hb d_M_isSo_160 rfl (lv_at hl 1 rfl) ?_
    refine lv_lload_n hx hb d_M_isSo_161 rfl (lv_at hl 2 rfl) ?_
    refine wl_lt (tgt := 170) hx hb d_M_isSo_162 d_M_isSo_163 (by decide) (fun e18_170 => ?_) (fun e18_170 => ?_)
    · refine lv_iconst (v := 0) hx hb d_M_isSo_170 (by decide) ?_
      have fe : f_M_isSo p1 p2 p3 = false := by unfold f_M_isSo; first | with_reducible exact (if_neg e1_60).trans ((if_neg e3_72).trans ((if_neg e5_84).trans ((if_neg e6_90).trans ((if_neg e8_104).trans ((if_neg e9_110).trans ((if_neg e11_124).trans ((if_neg e13_136).trans ((if_neg e15_148).trans ((if_pos e17_160).trans (if_pos e18_170)))))))))) | exact (if_neg e1_60).trans ((if_neg e3_72).trans ((if_neg e5_84).trans ((if_neg e6_90).trans ((if_neg e8_104).trans ((if_neg e9_110).trans ((if_neg e11_124).trans ((if_neg e13_136).trans ((if_neg e15_148).trans ((if_pos e17_160).trans (if_pos e18_170))))))))))
      exact W.zret (v := bI false) hx hb hr (bI_n false) (fun t ht hW => ⟨_, rfl, by rw [fe], ht⟩) t_nil d_M_isSo_171
    · refine lv_iconst (v := 1) hx hb d_M_isSo_166 (by decide) ?_
      refine lv_goto (tgt := 171) hx hb d_M_isSo_167 (by decide) ?_
      have fe : f_M_isSo p1 p2 p3 = true := by unfold f_M_isSo; first | with_reducible exact (if_neg e1_60).trans ((if_neg e3_72).trans ((if_neg e5_84).trans ((if_neg e6_90).trans ((if_neg e8_104).trans ((if_neg e9_110).trans ((if_neg e11_124).trans ((if_neg e13_136).trans ((if_neg e15_148).trans ((if_pos e17_160).trans (if_neg e18_170)))))))))) | exact (if_neg e1_60).trans ((if_neg e3_72).trans ((if_neg e5_84).trans ((if_neg e6_90).trans ((if_neg e8_104).trans ((if_neg e9_110).trans ((if_neg e11_124).trans ((if_neg e13_136).trans ((if_neg e15_148).trans ((if_pos e17_160).trans (if_neg e18_170))))))))))
      exact W.zret (v := bI true) hx hb hr (bI_n true) (fun t ht hW => ⟨_, rfl, by rw [fe], ht⟩) t_nil d_M_isSo_171
  by_cases e19_172 : p1 = 10
  · refine lv_tableIn (off := 171) (tgt := 172) hx hb d_M_isSo_1 (by rw [e19_172]; decide) (by rw [e19_172]; decide) (by rw [e19_172]; rfl) (by decide) ?_
    refine lv_lload_n hx hb d_M_isSo_172 rfl (lv_at hl 1 rfl) ?_
    refine lv_lload_n hx hb d_M_isSo_173 rfl (lv_at hl 2 rfl) ?_
    refine lv_land hx hb d_M_isSo_174 ?_
    refine lv_lconst (v := 0) hx hb d_M_isSo_175 (by decide) ?_
    refine wl_eq (tgt := 184) hx hb d_M_isSo_176 d_M_isSo_177 (by decide) (fun e20_184 => ?_) (fun e20_184 => ?_)
    · refine lv_iconst (v := 0) hx hb d_M_isSo_184 (by decide) ?_
      have fe : f_M_isSo p1 p2 p3 = false := by unfold f_M_isSo; first | with_reducible exact (if_neg e1_60).trans ((if_neg e3_72).trans ((if_neg e5_84).trans ((if_neg e6_90).trans ((if_neg e8_104).trans ((if_neg e9_110).trans ((if_neg e11_124).trans ((if_neg e13_136).trans ((if_neg e15_148).trans ((if_neg e17_160).trans ((if_pos e19_172).trans (if_pos e20_184))))))))))) | exact (if_neg e1_60).trans ((if_neg e3_72).trans ((if_neg e5_84).trans ((if_neg e6_90).trans ((if_neg e8_104).trans ((if_neg e9_110).trans ((if_neg e11_124).trans ((if_neg e13_136).trans ((if_neg e15_148).trans ((if_neg e17_160).trans ((if_pos e19_172).trans (if_pos e20_184)))))))))))
      exact W.zret (v := bI false) hx hb hr (bI_n false) (fun t ht hW => ⟨_, rfl, by rw [fe], ht⟩) t_nil d_M_isSo_185
    · refine lv_iconst (v := 1) hx hb d_M_isSo_180 (by decide) ?_
      refine lv_goto (tgt := 185) hx hb d_M_isSo_181 (by decide) ?_
      have fe : f_M_isSo p1 p2 p3 = true := by unfold f_M_isSo; first | with_reducible exact (if_neg e1_60).trans ((if_neg e3_72).trans ((if_neg e5_84).trans ((if_neg e6_90).trans ((if_neg e8_104).trans ((if_neg e9_110).trans ((if_neg e11_124).trans ((if_neg e13_136).trans ((if_neg e15_148).trans ((if_neg e17_160).trans ((if_pos e19_172).trans (if_neg e20_184))))))))))) | exact (if_neg e1_60).trans ((if_neg e3_72).trans ((if_neg e5_84).trans ((if_neg e6_90).trans ((if_neg e8_104).trans ((if_neg e9_110).trans ((if_neg e11_124).trans ((if_neg e13_136).trans ((if_neg e15_148).trans ((if_neg e17_160).trans ((if_pos e19_172).trans (if_neg e20_184)))))))))))
      exact W.zret (v := bI true) hx hb hr (bI_n true) (fun t ht hW => ⟨_, rfl, by rw [fe], ht⟩) t_nil d_M_isSo_185
  refine lv_tableOut (tgt := 186) hx hb d_M_isSo_1 (by have n0 := lv_neT (a := 0) e1_60 (by decide); have n1 := lv_neT (a := 1) e3_72 (by decide); have n2 := lv_neT (a := 2) e5_84 (by decide); have n3 := lv_neT (a := 3) e6_90 (by decide); have n4 := lv_neT (a := 4) e8_104 (by decide); have n5 := lv_neT (a := 5) e9_110 (by decide); have n6 := lv_neT (a := 6) e11_124 (by decide); have n7 := lv_neT (a := 7) e13_136 (by decide); have n8 := lv_neT (a := 8) e15_148 (by decide); have n9 := lv_neT (a := 9) e17_160 (by decide); have n10 := lv_neT (a := 10) e19_172 (by decide); omega) (by decide) ?_
  refine lv_lload_n hx hb d_M_isSo_186 rfl (lv_at hl 1 rfl) ?_
  refine lv_lload_n hx hb d_M_isSo_187 rfl (lv_at hl 2 rfl) ?_
  refine lv_land hx hb d_M_isSo_188 ?_
  refine lv_lconst (v := 0) hx hb d_M_isSo_189 (by decide) ?_
  refine wl_ne (tgt := 198) hx hb d_M_isSo_190 d_M_isSo_191 (by decide) (fun e21_198 => ?_) (fun e21_198 => ?_)
  · refine lv_iconst (v := 0) hx hb d_M_isSo_198 (by decide) ?_
    have fe : f_M_isSo p1 p2 p3 = false := by unfold f_M_isSo; first | with_reducible exact (if_neg e1_60).trans ((if_neg e3_72).trans ((if_neg e5_84).trans ((if_neg e6_90).trans ((if_neg e8_104).trans ((if_neg e9_110).trans ((if_neg e11_124).trans ((if_neg e13_136).trans ((if_neg e15_148).trans ((if_neg e17_160).trans ((if_neg e19_172).trans (if_neg e21_198))))))))))) | exact (if_neg e1_60).trans ((if_neg e3_72).trans ((if_neg e5_84).trans ((if_neg e6_90).trans ((if_neg e8_104).trans ((if_neg e9_110).trans ((if_neg e11_124).trans ((if_neg e13_136).trans ((if_neg e15_148).trans ((if_neg e17_160).trans ((if_neg e19_172).trans (if_neg e21_198)))))))))))
    exact W.zret (v := bI false) hx hb hr (bI_n false) (fun t ht hW => ⟨_, rfl, by rw [fe], ht⟩) t_nil d_M_isSo_199
  · refine lv_iconst (v := 1) hx hb d_M_isSo_194 (by decide) ?_
    refine lv_goto (tgt := 199) hx hb d_M_isSo_195 (by decide) ?_
    have fe : f_M_isSo p1 p2 p3 = true := by unfold f_M_isSo; first | with_reducible exact (if_neg e1_60).trans ((if_neg e3_72).trans ((if_neg e5_84).trans ((if_neg e6_90).trans ((if_neg e8_104).trans ((if_neg e9_110).trans ((if_neg e11_124).trans ((if_neg e13_136).trans ((if_neg e15_148).trans ((if_neg e17_160).trans ((if_neg e19_172).trans (if_pos e21_198))))))))))) | exact (if_neg e1_60).trans ((if_neg e3_72).trans ((if_neg e5_84).trans ((if_neg e6_90).trans ((if_neg e8_104).trans ((if_neg e9_110).trans ((if_neg e11_124).trans ((if_neg e13_136).trans ((if_neg e15_148).trans ((if_neg e17_160).trans ((if_neg e19_172).trans (if_pos e21_198)))))))))))
    exact W.zret (v := bI true) hx hb hr (bI_n true) (fun t ht hW => ⟨_, rfl, by rw [fe], ht⟩) t_nil d_M_isSo_199
-- opposite
theorem d_M_opposite_0 : decode b_M_opposite 0 = .ok (.iload_n 0, 1) := by decide +kernel
theorem d_M_opposite_1 : decode b_M_opposite 1 = .ok (.tableswitch 86 0 10 #[59, 61, 63, 65, 67, 69, 71, 74, 77, 80, 83], 59) := by decide +kernel
theorem d_M_opposite_60 : decode b_M_opposite 60 = .ok (.iconst 1, 1) := by decide +kernel
theorem d_M_opposite_61 : decode b_M_opposite 61 = .ok (.ireturn, 1) := by decide +kernel
theorem d_M_opposite_62 : decode b_M_opposite 62 = .ok (.iconst 0, 1) := by decide +kernel
theorem d_M_opposite_63 : decode b_M_opposite 63 = .ok (.ireturn, 1) := by decide +kernel
theorem d_M_opposite_64 : decode b_M_opposite 64 = .ok (.iconst 5, 1) := by decide +kernel
theorem d_M_opposite_65 : decode b_M_opposite 65 = .ok (.ireturn, 1) := by decide +kernel
theorem d_M_opposite_66 : decode b_M_opposite 66 = .ok (.iconst 4, 1) := by decide +kernel
theorem d_M_opposite_67 : decode b_M_opposite 67 = .ok (.ireturn, 1) := by decide +kernel
theorem d_M_opposite_68 : decode b_M_opposite 68 = .ok (.iconst 3, 1) := by decide +kernel
theorem d_M_opposite_69 : decode b_M_opposite 69 = .ok (.ireturn, 1) := by decide +kernel
theorem d_M_opposite_70 : decode b_M_opposite 70 = .ok (.iconst 2, 1) := by decide +kernel
theorem d_M_opposite_71 : decode b_M_opposite 71 = .ok (.ireturn, 1) := by decide +kernel
theorem d_M_opposite_72 : decode b_M_opposite 72 = .ok (.bipush 9, 2) := by decide +kernel
theorem d_M_opposite_74 : decode b_M_opposite 74 = .ok (.ireturn, 1) := by decide +kernel
theorem d_M_opposite_75 : decode b_M_opposite 75 = .ok (.bipush 8, 2) := by decide +kernel
theorem d_M_opposite_77 : decode b_M_opposite 77 = .ok (.ireturn, 1) := by decide +kernel
theorem d_M_opposite_78 : decode b_M_opposite 78 = .ok (.bipush 7, 2) := by decide +kernel
theorem d_M_opposite_80 : decode b_M_opposite 80 = .ok (.ireturn, 1) := by decide +kernel
theorem d_M_opposite_81 : decode b_M_opposite 81 = .ok (.bipush 6, 2) := by decide +kernel
theorem d_M_opposite_83 : decode b_M_opposite 83 = .ok (.ireturn, 1) := by decide +kernel
theorem d_M_opposite_84 : decode b_M_opposite 84 = .ok (.bipush 11, 2) := by decide +kernel
theorem d_M_opposite_86 : decode b_M_opposite 86 = .ok (.ireturn, 1) := by decide +kernel
theorem d_M_opposite_87 : decode b_M_opposite 87 = .ok (.bipush 10, 2) := by decide +kernel
theorem d_M_opposite_89 : decode b_M_opposite 89 = .ok (.ireturn, 1) := by decide +kernel
def f_M_opposite (p1 : Int32) : Int32 := (if p1 = 0 then 1 else (if p1 = 1 then 0 else (if p1 = 2 then 5 else (if p1 = 3 then 4 else (if p1 = 4 then 3 else (if p1 = 5 then 2 else (if p1 = 6 then 9 else (if p1 = 7 then 8 else (if p1 = 8 then 7 else (if p1 = 9 then 6 else (if p1 = 10 then 11 else 10)))))))))))
set_option maxRecDepth 100000 in
set_option maxHeartbeats 4000000 in
theorem c_M_opposite (l : Launch) (p1 : Int32) : Met l y_M_opposite w_M_opposite ({ frames := 0, cells := 0, slots := 0, locals := 0 } : Room) (va_Pc [.int (p1)] (fun _ => True)) (vp_Si (fun r => r = (f_M_opposite p1))) 0 0 (fun _ => False) := by
  refine Met.ofW (cc := b_M_opposite) (maxL := 1) (ret := (some .int)) (by decide) rfl ?_
  intro p e s m args below meth c s₁ B hml hv
  obtain ⟨rfl, -⟩ := hv
  have hx := B.exec
  have hb := B.bytes
  have hr := B.returns
  have hts := atoms_spec (ws := w_M_opposite) B.pre
  have hG : ∀ w ∈ gM, w.before _ s = true := fun w h => hts w (List.mem_cons_of_mem _ h)
  have hown : s.vm.findClass R_M = some m.cls := findClass_of_methodNamed B.named
  have hlocks := B.notSynchronized
  have hl := lv_entry ([.int (p1)]) (n := 1) (Nat.le_of_ble_eq_true rfl)
  rw [lg_entry_eq]
  generalize (lg_sl ([.int (p1)]) ++ List.replicate (1 - (lg_sl ([.int (p1)])).length) Slot.unset).toArray = ls at hl ⊢
  have hl : lv_has ls 1 [(0, .int (p1))] := hl
  refine lv_iload_n hx hb d_M_opposite_0 rfl (lv_at hl 0 rfl) ?_
  by_cases e1_60 : p1 = 0
  · refine lv_tableIn (off := 59) (tgt := 60) hx hb d_M_opposite_1 (by rw [e1_60]; decide) (by rw [e1_60]; decide) (by rw [e1_60]; rfl) (by decide) ?_
    refine lv_iconst (v := 1) hx hb d_M_opposite_60 (by decide) ?_
    have fe : f_M_opposite p1 = 1 := by unfold f_M_opposite; first | with_reducible exact if_pos e1_60 | exact if_pos e1_60
    exact W.iret (v := 1) hx hb hr (fun t ht hW => ⟨_, rfl, by rw [fe], ht⟩) t_nil d_M_opposite_61
  by_cases e2_62 : p1 = 1
  · refine lv_tableIn (off := 61) (tgt := 62) hx hb d_M_opposite_1 (by rw [e2_62]; decide) (by rw [e2_62]; decide) (by rw [e2_62]; rfl) (by decide) ?_
    refine lv_iconst (v := 0) hx hb d_M_opposite_62 (by decide) ?_
    have fe : f_M_opposite p1 = 0 := by unfold f_M_opposite; first | with_reducible exact (if_neg e1_60).trans (if_pos e2_62) | exact (if_neg e1_60).trans (if_pos e2_62)
    exact W.iret (v := 0) hx hb hr (fun t ht hW => ⟨_, rfl, by rw [fe], ht⟩) t_nil d_M_opposite_63
  by_cases e3_64 : p1 = 2
  · refine lv_tableIn (off := 63) (tgt := 64) hx hb d_M_opposite_1 (by rw [e3_64]; decide) (by rw [e3_64]; decide) (by rw [e3_64]; rfl) (by decide) ?_
    refine lv_iconst (v := 5) hx hb d_M_opposite_64 (by decide) ?_
    have fe : f_M_opposite p1 = 5 := by unfold f_M_opposite; first | with_reducible exact (if_neg e1_60).trans ((if_neg e2_62).trans (if_pos e3_64)) | exact (if_neg e1_60).trans ((if_neg e2_62).trans (if_pos e3_64))
    exact W.iret (v := 5) hx hb hr (fun t ht hW => ⟨_, rfl, by rw [fe], ht⟩) t_nil d_M_opposite_65
  by_cases e4_66 : p1 = 3
  · refine lv_tableIn (off := 65) (tgt := 66) hx hb d_M_opposite_1 (by rw [e4_66]; decide) (by rw [e4_66]; decide) (by rw [e4_66]; rfl) (by decide) ?_
    refine lv_iconst (v := 4) hx hb d_M_opposite_66 (by decide) ?_
    have fe : f_M_opposite p1 = 4 := by unfold f_M_opposite; first | with_reducible exact (if_neg e1_60).trans ((if_neg e2_62).trans ((if_neg e3_64).trans (if_pos e4_66))) | exact (if_neg e1_60).trans ((if_neg e2_62).trans ((if_neg e3_64).trans (if_pos e4_66)))
    exact W.iret (v := 4) hx hb hr (fun t ht hW => ⟨_, rfl, by rw [fe], ht⟩) t_nil d_M_opposite_67
  by_cases e5_68 : p1 = 4
  · refine lv_tableIn (off := 67) (tgt := 68) hx hb d_M_opposite_1 (by rw [e5_68]; decide) (by rw [e5_68]; decide) (by rw [e5_68]; rfl) (by decide) ?_
    refine lv_iconst (v := 3) hx hb d_M_opposite_68 (by decide) ?_
    have fe : f_M_opposite p1 = 3 := by unfold f_M_opposite; first | with_reducible exact (if_neg e1_60).trans ((if_neg e2_62).trans ((if_neg e3_64).trans ((if_neg e4_66).trans (if_pos e5_68)))) | exact (if_neg e1_60).trans ((if_neg e2_62).trans ((if_neg e3_64).trans ((if_neg e4_66).trans (if_pos e5_68))))
    exact W.iret (v := 3) hx hb hr (fun t ht hW => ⟨_, rfl, by rw [fe], ht⟩) t_nil d_M_opposite_69
  by_cases e6_70 : p1 = 5
  · refine lv_tableIn (off := 69) (tgt := 70) hx hb d_M_opposite_1 (by rw [e6_70]; decide) (by rw [e6_70]; decide) (by rw [e6_70]; rfl) (by decide) ?_
    refine lv_iconst (v := 2) hx hb d_M_opposite_70 (by decide) ?_
    have fe : f_M_opposite p1 = 2 := by unfold f_M_opposite; first | with_reducible exact (if_neg e1_60).trans ((if_neg e2_62).trans ((if_neg e3_64).trans ((if_neg e4_66).trans ((if_neg e5_68).trans (if_pos e6_70))))) | exact (if_neg e1_60).trans ((if_neg e2_62).trans ((if_neg e3_64).trans ((if_neg e4_66).trans ((if_neg e5_68).trans (if_pos e6_70)))))
    exact W.iret (v := 2) hx hb hr (fun t ht hW => ⟨_, rfl, by rw [fe], ht⟩) t_nil d_M_opposite_71
  by_cases e7_72 : p1 = 6
  · refine lv_tableIn (off := 71) (tgt := 72) hx hb d_M_opposite_1 (by rw [e7_72]; decide) (by rw [e7_72]; decide) (by rw [e7_72]; rfl) (by decide) ?_
    refine lv_bipush (v := 9) hx hb d_M_opposite_72 (by decide) ?_
    have fe : f_M_opposite p1 = 9 := by unfold f_M_opposite; first | with_reducible exact (if_neg e1_60).trans ((if_neg e2_62).trans ((if_neg e3_64).trans ((if_neg e4_66).trans ((if_neg e5_68).trans ((if_neg e6_70).trans (if_pos e7_72)))))) | exact (if_neg e1_60).trans ((if_neg e2_62).trans ((if_neg e3_64).trans ((if_neg e4_66).trans ((if_neg e5_68).trans ((if_neg e6_70).trans (if_pos e7_72))))))
    exact W.iret (v := 9) hx hb hr (fun t ht hW => ⟨_, rfl, by rw [fe], ht⟩) t_nil d_M_opposite_74
  by_cases e8_75 : p1 = 7
  · refine lv_tableIn (off := 74) (tgt := 75) hx hb d_M_opposite_1 (by rw [e8_75]; decide) (by rw [e8_75]; decide) (by rw [e8_75]; rfl) (by decide) ?_
    refine lv_bipush (v := 8) hx hb d_M_opposite_75 (by decide) ?_
    have fe : f_M_opposite p1 = 8 := by unfold f_M_opposite; first | with_reducible exact (if_neg e1_60).trans ((if_neg e2_62).trans ((if_neg e3_64).trans ((if_neg e4_66).trans ((if_neg e5_68).trans ((if_neg e6_70).trans ((if_neg e7_72).trans (if_pos e8_75))))))) | exact (if_neg e1_60).trans ((if_neg e2_62).trans ((if_neg e3_64).trans ((if_neg e4_66).trans ((if_neg e5_68).trans ((if_neg e6_70).trans ((if_neg e7_72).trans (if_pos e8_75)))))))
    exact W.iret (v := 8) hx hb hr (fun t ht hW => ⟨_, rfl, by rw [fe], ht⟩) t_nil d_M_opposite_77
  by_cases e9_78 : p1 = 8
  · refine lv_tableIn (off := 77) (tgt := 78) hx hb d_M_opposite_1 (by rw [e9_78]; decide) (by rw [e9_78]; decide) (by rw [e9_78]; rfl) (by decide) ?_
    refine lv_bipush (v := 7) hx hb d_M_opposite_78 (by decide) ?_
    have fe : f_M_opposite p1 = 7 := by unfold f_M_opposite; first | with_reducible exact (if_neg e1_60).trans ((if_neg e2_62).trans ((if_neg e3_64).trans ((if_neg e4_66).trans ((if_neg e5_68).trans ((if_neg e6_70).trans ((if_neg e7_72).trans ((if_neg e8_75).trans (if_pos e9_78)))))))) | exact (if_neg e1_60).trans ((if_neg e2_62).trans ((if_neg e3_64).trans ((if_neg e4_66).trans ((if_neg e5_68).trans ((if_neg e6_70).trans ((if_neg e7_72).trans ((if_neg e8_75).trans (if_pos e9_78))))))))
    exact W.iret (v := 7) hx hb hr (fun t ht hW => ⟨_, rfl, by rw [fe], ht⟩) t_nil d_M_opposite_80
  by_cases e10_81 : p1 = 9
  · refine lv_tableIn (off := 80) (tgt := 81) hx hb d_M_opposite_1 (by rw [e10_81]; decide) (by rw [e10_81]; decide) (by rw [e10_81]; rfl) (by decide) ?_
    refine lv_bipush (v := 6) hx hb d_M_opposite_81 (by decide) ?_
    have fe : f_M_opposite p1 = 6 := by unfold f_M_opposite; first | with_reducible exact (if_neg e1_60).trans ((if_neg e2_62).trans ((if_neg e3_64).trans ((if_neg e4_66).trans ((if_neg e5_68).trans ((if_neg e6_70).trans ((if_neg e7_72).trans ((if_neg e8_75).trans ((if_neg e9_78).trans (if_pos e10_81))))))))) | exact (if_neg e1_60).trans ((if_neg e2_62).trans ((if_neg e3_64).trans ((if_neg e4_66).trans ((if_neg e5_68).trans ((if_neg e6_70).trans ((if_neg e7_72).trans ((if_neg e8_75).trans ((if_neg e9_78).trans (if_pos e10_81)))))))))
    exact W.iret (v := 6) hx hb hr (fun t ht hW => ⟨_, rfl, by rw [fe], ht⟩) t_nil d_M_opposite_83
  by_cases e11_84 : p1 = 10
  · refine lv_tableIn (off := 83) (tgt := 84) hx hb d_M_opposite_1 (by rw [e11_84]; decide) (by rw [e11_84]; decide) (by rw [e11_84]; rfl) (by decide) ?_
    refine lv_bipush (v := 11) hx hb d_M_opposite_84 (by decide) ?_
    have fe : f_M_opposite p1 = 11 := by unfold f_M_opposite; first | with_reducible exact (if_neg e1_60).trans ((if_neg e2_62).trans ((if_neg e3_64).trans ((if_neg e4_66).trans ((if_neg e5_68).trans ((if_neg e6_70).trans ((if_neg e7_72).trans ((if_neg e8_75).trans ((if_neg e9_78).trans ((if_neg e10_81).trans (if_pos e11_84)))))))))) | exact (if_neg e1_60).trans ((if_neg e2_62).trans ((if_neg e3_64).trans ((if_neg e4_66).trans ((if_neg e5_68).trans ((if_neg e6_70).trans ((if_neg e7_72).trans ((if_neg e8_75).trans ((if_neg e9_78).trans ((if_neg e10_81).trans (if_pos e11_84))))))))))
    exact W.iret (v := 11) hx hb hr (fun t ht hW => ⟨_, rfl, by rw [fe], ht⟩) t_nil d_M_opposite_86
  refine lv_tableOut (tgt := 87) hx hb d_M_opposite_1 (by have n0 := lv_neT (a := 0) e1_60 (by decide); have n1 := lv_neT (a := 1) e2_62 (by decide); have n2 := lv_neT (a := 2) e3_64 (by decide); have n3 := lv_neT (a := 3) e4_66 (by decide); have n4 := lv_neT (a := 4) e5_68 (by decide); have n5 := lv_neT (a := 5) e6_70 (by decide); have n6 := lv_neT (a := 6) e7_72 (by decide); have n7 := lv_neT (a := 7) e8_75 (by decide); have n8 := lv_neT (a := 8) e9_78 (by decide); have n9 := lv_neT (a := 9) e10_81 (by decide); have n10 := lv_neT (a := 10) e11_84 (by decide); omega) (by decide) ?_
  refine lv_bipush (v := 10) hx hb d_M_opposite_87 (by decide) ?_
  have fe : f_M_opposite p1 = 10 := by unfold f_M_opposite; first | with_reducible exact (if_neg e1_60).trans ((if_neg e2_62).trans ((if_neg e3_64).trans ((if_neg e4_66).trans ((if_neg e5_68).trans ((if_neg e6_70).trans ((if_neg e7_72).trans ((if_neg e8_75).trans ((if_neg e9_78).trans ((if_neg e10_81).trans (if_neg e11_84)))))))))) | exact (if_neg e1_60).trans ((if_neg e2_62).trans ((if_neg e3_64).trans ((if_neg e4_66).trans ((if_neg e5_68).trans ((if_neg e6_70).trans ((if_neg e7_72).trans ((if_neg e8_75).trans ((if_neg e9_78).trans ((if_neg e10_81).trans (if_neg e11_84))))))))))
  exact W.iret (v := 10) hx hb hr (fun t ht hW => ⟨_, rfl, by rw [fe], ht⟩) t_nil d_M_opposite_89
-- isOneBit
theorem d_M_isOneBit_0 : decode b_M_isOneBit 0 = .ok (.lload_n 0, 1) := by decide +kernel
theorem d_M_isOneBit_1 : decode b_M_isOneBit 1 = .ok (.lconst 0, 1) := by decide +kernel
theorem d_M_isOneBit_2 : decode b_M_isOneBit 2 = .ok (.lcmp, 1) := by decide +kernel
theorem d_M_isOneBit_3 : decode b_M_isOneBit 3 = .ok (.ifCond .eq 17, 3) := by decide +kernel
theorem d_M_isOneBit_6 : decode b_M_isOneBit 6 = .ok (.lload_n 0, 1) := by decide +kernel
theorem d_M_isOneBit_7 : decode b_M_isOneBit 7 = .ok (.lload_n 0, 1) := by decide +kernel
theorem d_M_isOneBit_8 : decode b_M_isOneBit 8 = .ok (.lconst 1, 1) := by decide +kernel
theorem d_M_isOneBit_9 : decode b_M_isOneBit 9 = .ok (.lsub, 1) := by decide +kernel
theorem d_M_isOneBit_10 : decode b_M_isOneBit 10 = .ok (.land, 1) := by decide +kernel
theorem d_M_isOneBit_11 : decode b_M_isOneBit 11 = .ok (.lconst 0, 1) := by decide +kernel
theorem d_M_isOneBit_12 : decode b_M_isOneBit 12 = .ok (.lcmp, 1) := by decide +kernel
theorem d_M_isOneBit_13 : decode b_M_isOneBit 13 = .ok (.ifCond .ne 7, 3) := by decide +kernel
theorem d_M_isOneBit_16 : decode b_M_isOneBit 16 = .ok (.iconst 1, 1) := by decide +kernel
theorem d_M_isOneBit_17 : decode b_M_isOneBit 17 = .ok (.goto 4, 3) := by decide +kernel
theorem d_M_isOneBit_20 : decode b_M_isOneBit 20 = .ok (.iconst 0, 1) := by decide +kernel
theorem d_M_isOneBit_21 : decode b_M_isOneBit 21 = .ok (.ireturn, 1) := by decide +kernel
def f_M_isOneBit_20 (p1 : Int64) : Bool := false
def f_M_isOneBit (p1 : Int64) : Bool := (if p1 = 0 then f_M_isOneBit_20 p1 else (if (p1 &&& (p1 - (1 : Int64))) = 0 then true else f_M_isOneBit_20 p1))
set_option maxRecDepth 100000 in
set_option maxHeartbeats 4000000 in
theorem c_M_isOneBit (l : Launch) (p1 : Int64) : Met l y_M_isOneBit w_M_isOneBit ({ frames := 0, cells := 0, slots := 0, locals := 0 } : Room) (va_Pc [.long (p1)] (fun _ => True)) (vp_Si (fun r => r = bI (f_M_isOneBit p1))) 0 0 (fun _ => False) := by
  refine Met.ofW (cc := b_M_isOneBit) (maxL := 2) (ret := (some .boolean)) (by decide) rfl ?_
  intro p e s m args below meth c s₁ B hml hv
  obtain ⟨rfl, -⟩ := hv
  have hx := B.exec
  have hb := B.bytes
  have hr := B.returns
  have hts := atoms_spec (ws := w_M_isOneBit) B.pre
  have hG : ∀ w ∈ gM, w.before _ s = true := fun w h => hts w (List.mem_cons_of_mem _ h)
  have hown : s.vm.findClass R_M = some m.cls := findClass_of_methodNamed B.named
  have hlocks := B.notSynchronized
  have hl := lv_entry ([.long (p1)]) (n := 2) (Nat.le_of_ble_eq_true rfl)
  rw [lg_entry_eq]
  generalize (lg_sl ([.long (p1)]) ++ List.replicate (2 - (lg_sl ([.long (p1)])).length) Slot.unset).toArray = ls at hl ⊢
  have hl : lv_has ls 2 [(0, .long (p1))] := hl
  have K20 : ∀ (hj : f_M_isOneBit p1 = f_M_isOneBit_20 p1) (ls : Array Slot) (hl : lv_has ls 2 []), W p l e (headSpec w_M_isOneBit ({ frames := 0, cells := 0, slots := 0, locals := 0 } : Room)).room s m ([.long (p1)] : List Value).toArray below meth c s.heap [] 0 0 (MQ below (vp_Si (fun r => r = bI (f_M_isOneBit p1))) ([.long (p1)] : List Value).toArray s 0 0 (fun _ => False)) (F0 m 20 ls []) := by
    intro hj ls hl
    refine lv_iconst (v := 0) hx hb d_M_isOneBit_20 (by decide) ?_
    have fe : f_M_isOneBit p1 = false := hj.trans rfl
    exact W.zret (v := bI false) hx hb hr (bI_n false) (fun t ht hW => ⟨_, rfl, by rw [fe], ht⟩) t_nil d_M_isOneBit_21
  refine lv_lload_n hx hb d_M_isOneBit_0 rfl (lv_at hl 0 rfl) ?_
  refine lv_lconst (v := 0) hx hb d_M_isOneBit_1 (by decide) ?_
  refine wl_eq (tgt := 20) hx hb d_M_isOneBit_2 d_M_isOneBit_3 (by decide) (fun e1_20 => ?_) (fun e1_20 => ?_)
  · exact K20 (by unfold f_M_isOneBit; first | with_reducible exact if_pos e1_20 | exact if_pos e1_20) ls (lv_sub hl [] rfl)
  · refine lv_lload_n hx hb d_M_isOneBit_6 rfl (lv_at hl 0 rfl) ?_
    refine lv_lload_n hx hb d_M_isOneBit_7 rfl (lv_at hl 0 rfl) ?_
    refine lv_lconst (v := 1) hx hb d_M_isOneBit_8 (by decide) ?_
    refine lv_lsub hx hb d_M_isOneBit_9 ?_
    refine lv_land hx hb d_M_isOneBit_10 ?_
    refine lv_lconst (v := 0) hx hb d_M_isOneBit_11 (by decide) ?_
    refine wl_ne (tgt := 20) hx hb d_M_isOneBit_12 d_M_isOneBit_13 (by decide) (fun e2_20 => ?_) (fun e2_20 => ?_)
    · exact K20 (by unfold f_M_isOneBit; first | with_reducible exact (if_neg e1_20).trans (if_neg e2_20) | exact (if_neg e1_20).trans (if_neg e2_20)) ls (lv_sub hl [] rfl)
    · refine lv_iconst (v := 1) hx hb d_M_isOneBit_16 (by decide) ?_
      refine lv_goto (tgt := 21) hx hb d_M_isOneBit_17 (by decide) ?_
      have fe : f_M_isOneBit p1 = true := by unfold f_M_isOneBit; first | with_reducible exact (if_neg e1_20).trans (if_pos e2_20) | exact (if_neg e1_20).trans (if_pos e2_20)
      exact W.zret (v := bI true) hx hb hr (bI_n true) (fun t ht hW => ⟨_, rfl, by rw [fe], ht⟩) t_nil d_M_isOneBit_21
