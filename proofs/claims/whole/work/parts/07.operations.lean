-- ValueSieve$Operations.knownBelow
theorem d_O_knownBelow_0 : decode b_O_knownBelow 0 = .ok (.aload_n 0, 1) := by decide +kernel
theorem d_O_knownBelow_1 : decode b_O_knownBelow 1 = .ok (.getfield 40, 3) := by decide +kernel
theorem d_O_knownBelow_4 : decode b_O_knownBelow 4 = .ok (.invokestatic 122, 3) := by decide +kernel
theorem d_O_knownBelow_7 : decode b_O_knownBelow 7 = .ok (.ireturn, 1) := by decide +kernel
def f_O_knownBelow (z0 : VV) : Int32 := (f_N_zerosAtEnd z0.2.1)
set_option maxRecDepth 100000 in
set_option maxHeartbeats 4000000 in
theorem c_O_knownBelow (l : Launch) (dC : Nat → ClassId) (dI : Nat → Nat → Nat) (h0 : Nat) (z0 : VV) : Met l y_O_knownBelow w_O_knownBelow ({ frames := 2, cells := 0, slots := 0, locals := 42 } : Room) (va_Pc [.ref h0] (rP (dC, dI) [(h0, vE z0)])) (vp_Si (fun r => r = f_O_knownBelow z0)) 0 0 (fun _ => False) := by
  refine Met.ofW (cc := b_O_knownBelow) (maxL := 1) (ret := (some .int)) (by decide) rfl ?_
  intro p e s m args below meth c s₁ B hml hv
  obtain ⟨rfl, hP, hK⟩ := hv
  have hx := B.exec
  have hb := B.bytes
  have hr := B.returns
  have hts := atoms_spec (ws := w_O_knownBelow) B.pre
  have hG : ∀ w ∈ gG, w.before _ s = true := fun w h => hts w (List.mem_cons_of_mem _ h)
  have hown : s.vm.findClass R_O = some m.cls := findClass_of_methodNamed B.named
  have hlocks := B.notSynchronized
  have hP : va_P (dC, dI) classes [(h0, .inr (0, [.long (z0.1), .long (z0.2.1), .long (z0.2.2.1), .long (z0.2.2.2.1), .long (z0.2.2.2.2.1), .long (z0.2.2.2.2.2.1), .int (bI z0.2.2.2.2.2.2)]))] s.heap := hP
  have hl := lv_entry ([.ref h0]) (n := 1) (Nat.le_of_ble_eq_true rfl)
  rw [lg_entry_eq]
  generalize (lg_sl ([.ref h0]) ++ List.replicate (1 - (lg_sl ([.ref h0])).length) Slot.unset).toArray = ls at hl ⊢
  have hl : lv_has ls 1 [(0, .ref h0)] := hl
  refine lv_aload_n hx hb d_O_knownBelow_0 rfl (lv_at hl 0 rfl) ?_
  refine va_get (D := (dC, dI)) (ci := 0) (v := .long (z0.2.1)) (C := R_V) (T := F_V) (N := 7) hx hb hts (fun w h => List.mem_cons_of_mem _ (uw_V w h)) hown hK hP 0 rfl rfl 1 (by decide) (hG (.fieldLink R_O 40 "ValueSieve$Value" "unknown" "J") gw22) (fun _ h9 => h9) rfl d_O_knownBelow_1 ?_
  refine rc_i (W.runS (As := [.long (z0.2.1)]) (rest := []) ⟨hx, hb, hml, hown, hts⟩ (c_N_zerosAtEnd l z0.2.1) (va_cwS 1 hts (gS gw210 gw211 gw2 gw212) rfl rfl rfl (by decide +kernel) ⟨(Nat.le_of_ble_eq_true rfl), (Nat.le_of_ble_eq_true rfl)⟩) ⟨bl0, fun U hU hW => ⟨rfl, trivial⟩⟩ rfl rfl hl.1 rfl (lv_room (Nat.le_of_ble_eq_true rfl)) d_O_knownBelow_4 ⟨Nat.zero_le _, Nat.zero_le _⟩) ?_
  have fe : f_O_knownBelow z0 = f_N_zerosAtEnd z0.2.1 := rfl
  exact W.iret (v := f_N_zerosAtEnd z0.2.1) hx hb hr (fun t ht hW => ⟨_, rfl, fe.symm, ht⟩) t_nil d_O_knownBelow_7
-- ValueSieve$Operations.zerosBelow
theorem d_O_zerosBelow_0 : decode b_O_zerosBelow 0 = .ok (.aload_n 0, 1) := by decide +kernel
theorem d_O_zerosBelow_1 : decode b_O_zerosBelow 1 = .ok (.getfield 36, 3) := by decide +kernel
theorem d_O_zerosBelow_4 : decode b_O_zerosBelow 4 = .ok (.aload_n 0, 1) := by decide +kernel
theorem d_O_zerosBelow_5 : decode b_O_zerosBelow 5 = .ok (.getfield 40, 3) := by decide +kernel
theorem d_O_zerosBelow_8 : decode b_O_zerosBelow 8 = .ok (.lor, 1) := by decide +kernel
theorem d_O_zerosBelow_9 : decode b_O_zerosBelow 9 = .ok (.invokestatic 122, 3) := by decide +kernel
theorem d_O_zerosBelow_12 : decode b_O_zerosBelow 12 = .ok (.ireturn, 1) := by decide +kernel
def f_O_zerosBelow (z0 : VV) : Int32 := (f_N_zerosAtEnd (z0.1 ||| z0.2.1))
set_option maxRecDepth 100000 in
set_option maxHeartbeats 4000000 in
theorem c_O_zerosBelow (l : Launch) (dC : Nat → ClassId) (dI : Nat → Nat → Nat) (h0 : Nat) (z0 : VV) : Met l y_O_zerosBelow w_O_zerosBelow ({ frames := 2, cells := 0, slots := 0, locals := 42 } : Room) (va_Pc [.ref h0] (rP (dC, dI) [(h0, vE z0)])) (vp_Si (fun r => r = f_O_zerosBelow z0)) 0 0 (fun _ => False) := by
  refine Met.ofW (cc := b_O_zerosBelow) (maxL := 1) (ret := (some .int)) (by decide) rfl ?_
  intro p e s m args below meth c s₁ B hml hv
  obtain ⟨rfl, hP, hK⟩ := hv
  have hx := B.exec
  have hb := B.bytes
  have hr := B.returns
  have hts := atoms_spec (ws := w_O_zerosBelow) B.pre
  have hG : ∀ w ∈ gG, w.before _ s = true := fun w h => hts w (List.mem_cons_of_mem _ h)
  have hown : s.vm.findClass R_O = some m.cls := findClass_of_methodNamed B.named
  have hlocks := B.notSynchronized
  have hP : va_P (dC, dI) classes [(h0, .inr (0, [.long (z0.1), .long (z0.2.1), .long (z0.2.2.1), .long (z0.2.2.2.1), .long (z0.2.2.2.2.1), .long (z0.2.2.2.2.2.1), .int (bI z0.2.2.2.2.2.2)]))] s.heap := hP
  have hl := lv_entry ([.ref h0]) (n := 1) (Nat.le_of_ble_eq_true rfl)
  rw [lg_entry_eq]
  generalize (lg_sl ([.ref h0]) ++ List.replicate (1 - (lg_sl ([.ref h0])).length) Slot.unset).toArray = ls at hl ⊢
  have hl : lv_has ls 1 [(0, .ref h0)] := hl
  refine lv_aload_n hx hb d_O_zerosBelow_0 rfl (lv_at hl 0 rfl) ?_
  refine va_get (D := (dC, dI)) (ci := 0) (v := .long (z0.1)) (C := R_V) (T := F_V) (N := 7) hx hb hts (fun w h => List.mem_cons_of_mem _ (uw_V w h)) hown hK hP 0 rfl rfl 0 (by decide) (hG (.fieldLink R_O 36 "ValueSieve$Value" "bits" "J") gw19) (fun _ h9 => h9) rfl d_O_zerosBelow_1 ?_
  refine lv_aload_n hx hb d_O_zerosBelow_4 rfl (lv_at hl 0 rfl) ?_
  refine va_get (D := (dC, dI)) (ci := 0) (v := .long (z0.2.1)) (C := R_V) (T := F_V) (N := 7) hx hb hts (fun w h => List.mem_cons_of_mem _ (uw_V w h)) hown hK hP 0 rfl rfl 1 (by decide) (hG (.fieldLink R_O 40 "ValueSieve$Value" "unknown" "J") gw22) (fun _ h9 => h9) rfl d_O_zerosBelow_5 ?_
  refine lv_lor hx hb d_O_zerosBelow_8 ?_
  refine rc_i (W.runS (As := [.long (z0.1 ||| z0.2.1)]) (rest := []) ⟨hx, hb, hml, hown, hts⟩ (c_N_zerosAtEnd l (z0.1 ||| z0.2.1)) (va_cwS 1 hts (gS gw210 gw211 gw2 gw212) rfl rfl rfl (by decide +kernel) ⟨(Nat.le_of_ble_eq_true rfl), (Nat.le_of_ble_eq_true rfl)⟩) ⟨bl0, fun U hU hW => ⟨rfl, trivial⟩⟩ rfl rfl hl.1 rfl (lv_room (Nat.le_of_ble_eq_true rfl)) d_O_zerosBelow_9 ⟨Nat.zero_le _, Nat.zero_le _⟩) ?_
  have fe : f_O_zerosBelow z0 = f_N_zerosAtEnd (z0.1 ||| z0.2.1) := rfl
  exact W.iret (v := f_N_zerosAtEnd (z0.1 ||| z0.2.1)) hx hb hr (fun t ht hW => ⟨_, rfl, fe.symm, ht⟩) t_nil d_O_zerosBelow_12
-- ValueSieve$Operations.reckon
theorem d_O_reckon_0 : decode b_O_reckon 0 = .ok (.lload_n 3, 1) := by decide +kernel
theorem d_O_reckon_1 : decode b_O_reckon 1 = .ok (.iload 5, 2) := by decide +kernel
theorem d_O_reckon_3 : decode b_O_reckon 3 = .ok (.i2l, 1) := by decide +kernel
theorem d_O_reckon_4 : decode b_O_reckon 4 = .ok (.land, 1) := by decide +kernel
theorem d_O_reckon_5 : decode b_O_reckon 5 = .ok (.l2i, 1) := by decide +kernel
theorem d_O_reckon_6 : decode b_O_reckon 6 = .ok (.istore 6, 2) := by decide +kernel
theorem d_O_reckon_8 : decode b_O_reckon 8 = .ok (.iload_n 0, 1) := by decide +kernel
theorem d_O_reckon_9 : decode b_O_reckon 9 = .ok (.tableswitch 114 0 10 #[59, 63, 67, 71, 77, 87, 91, 95, 99, 104, 109], 59) := by decide +kernel
theorem d_O_reckon_68 : decode b_O_reckon 68 = .ok (.lload_n 1, 1) := by decide +kernel
theorem d_O_reckon_69 : decode b_O_reckon 69 = .ok (.lload_n 3, 1) := by decide +kernel
theorem d_O_reckon_70 : decode b_O_reckon 70 = .ok (.ladd, 1) := by decide +kernel
theorem d_O_reckon_71 : decode b_O_reckon 71 = .ok (.lreturn, 1) := by decide +kernel
theorem d_O_reckon_72 : decode b_O_reckon 72 = .ok (.lload_n 1, 1) := by decide +kernel
theorem d_O_reckon_73 : decode b_O_reckon 73 = .ok (.lload_n 3, 1) := by decide +kernel
theorem d_O_reckon_74 : decode b_O_reckon 74 = .ok (.lsub, 1) := by decide +kernel
theorem d_O_reckon_75 : decode b_O_reckon 75 = .ok (.lreturn, 1) := by decide +kernel
theorem d_O_reckon_76 : decode b_O_reckon 76 = .ok (.lload_n 1, 1) := by decide +kernel
theorem d_O_reckon_77 : decode b_O_reckon 77 = .ok (.lload_n 3, 1) := by decide +kernel
theorem d_O_reckon_78 : decode b_O_reckon 78 = .ok (.lmul, 1) := by decide +kernel
theorem d_O_reckon_79 : decode b_O_reckon 79 = .ok (.lreturn, 1) := by decide +kernel
theorem d_O_reckon_80 : decode b_O_reckon 80 = .ok (.lload_n 1, 1) := by decide +kernel
theorem d_O_reckon_81 : decode b_O_reckon 81 = .ok (.lload_n 3, 1) := by decide +kernel
theorem d_O_reckon_82 : decode b_O_reckon 82 = .ok (.invokestatic 7, 3) := by decide +kernel
theorem d_O_reckon_85 : decode b_O_reckon 85 = .ok (.lreturn, 1) := by decide +kernel
theorem d_O_reckon_86 : decode b_O_reckon 86 = .ok (.lload_n 1, 1) := by decide +kernel
theorem d_O_reckon_87 : decode b_O_reckon 87 = .ok (.lload_n 1, 1) := by decide +kernel
theorem d_O_reckon_88 : decode b_O_reckon 88 = .ok (.lload_n 3, 1) := by decide +kernel
theorem d_O_reckon_89 : decode b_O_reckon 89 = .ok (.invokestatic 7, 3) := by decide +kernel
theorem d_O_reckon_92 : decode b_O_reckon 92 = .ok (.lload_n 3, 1) := by decide +kernel
theorem d_O_reckon_93 : decode b_O_reckon 93 = .ok (.lmul, 1) := by decide +kernel
theorem d_O_reckon_94 : decode b_O_reckon 94 = .ok (.lsub, 1) := by decide +kernel
theorem d_O_reckon_95 : decode b_O_reckon 95 = .ok (.lreturn, 1) := by decide +kernel
theorem d_O_reckon_96 : decode b_O_reckon 96 = .ok (.lload_n 1, 1) := by decide +kernel
theorem d_O_reckon_97 : decode b_O_reckon 97 = .ok (.lload_n 3, 1) := by decide +kernel
theorem d_O_reckon_98 : decode b_O_reckon 98 = .ok (.land, 1) := by decide +kernel
theorem d_O_reckon_99 : decode b_O_reckon 99 = .ok (.lreturn, 1) := by decide +kernel
theorem d_O_reckon_100 : decode b_O_reckon 100 = .ok (.lload_n 1, 1) := by decide +kernel
theorem d_O_reckon_101 : decode b_O_reckon 101 = .ok (.lload_n 3, 1) := by decide +kernel
theorem d_O_reckon_102 : decode b_O_reckon 102 = .ok (.lor, 1) := by decide +kernel
theorem d_O_reckon_103 : decode b_O_reckon 103 = .ok (.lreturn, 1) := by decide +kernel
theorem d_O_reckon_104 : decode b_O_reckon 104 = .ok (.lload_n 1, 1) := by decide +kernel
theorem d_O_reckon_105 : decode b_O_reckon 105 = .ok (.lload_n 3, 1) := by decide +kernel
theorem d_O_reckon_106 : decode b_O_reckon 106 = .ok (.lxor, 1) := by decide +kernel
theorem d_O_reckon_107 : decode b_O_reckon 107 = .ok (.lreturn, 1) := by decide +kernel
theorem d_O_reckon_108 : decode b_O_reckon 108 = .ok (.lload_n 1, 1) := by decide +kernel
theorem d_O_reckon_109 : decode b_O_reckon 109 = .ok (.iload 6, 2) := by decide +kernel
theorem d_O_reckon_111 : decode b_O_reckon 111 = .ok (.lshl, 1) := by decide +kernel
theorem d_O_reckon_112 : decode b_O_reckon 112 = .ok (.lreturn, 1) := by decide +kernel
theorem d_O_reckon_113 : decode b_O_reckon 113 = .ok (.lload_n 1, 1) := by decide +kernel
theorem d_O_reckon_114 : decode b_O_reckon 114 = .ok (.iload 6, 2) := by decide +kernel
theorem d_O_reckon_116 : decode b_O_reckon 116 = .ok (.lushr, 1) := by decide +kernel
theorem d_O_reckon_117 : decode b_O_reckon 117 = .ok (.lreturn, 1) := by decide +kernel
theorem d_O_reckon_118 : decode b_O_reckon 118 = .ok (.lload_n 1, 1) := by decide +kernel
theorem d_O_reckon_119 : decode b_O_reckon 119 = .ok (.iload 6, 2) := by decide +kernel
theorem d_O_reckon_121 : decode b_O_reckon 121 = .ok (.lshr, 1) := by decide +kernel
theorem d_O_reckon_122 : decode b_O_reckon 122 = .ok (.lreturn, 1) := by decide +kernel
theorem d_O_reckon_123 : decode b_O_reckon 123 = .ok (.lload_n 3, 1) := by decide +kernel
theorem d_O_reckon_124 : decode b_O_reckon 124 = .ok (.lreturn, 1) := by decide +kernel
def f_O_reckon_6v (p0 : Int32) (p1 : Int64) (p2 : Int64) (p3 : Int32) (v6 : Int32) : Int64 := (if p0 = 0 then (p1 + p2) else (if p0 = 1 then (p1 - p2) else (if p0 = 2 then (p1 * p2) else (if p0 = 3 then (f_N_quotient p1 p2) else (if p0 = 4 then (p1 - ((f_N_quotient p1 p2) * p2)) else (if p0 = 5 then (p1 &&& p2) else (if p0 = 6 then (p1 ||| p2) else (if p0 = 7 then (p1 ^^^ p2) else (if p0 = 8 then (p1 <<< (v6.toInt64 &&& 63)) else (if p0 = 9 then ((p1.toUInt64 >>> (v6.toInt64.toUInt64 &&& Int64.toUInt64 63)).toInt64) else (if p0 = 10 then (p1 >>> (v6.toInt64 &&& 63)) else p2)))))))))))
def f_O_reckon (p0 : Int32) (p1 : Int64) (p2 : Int64) (p3 : Int32) : Int64 := f_O_reckon_6v p0 p1 p2 p3 ((p2 &&& p3.toInt64).toInt32)
set_option maxRecDepth 100000 in
set_option maxHeartbeats 4000000 in
theorem c_O_reckon (l : Launch) (p0 : Int32) (p1 : Int64) (p2 : Int64) (p3 : Int32) : Met l y_O_reckon w_O_reckon ({ frames := 2, cells := 0, slots := 0, locals := 48 } : Room) (va_Pc [.int (p0), .long (p1), .long (p2), .int (p3)] (fun _ => True)) (vp_Sl (fun r => r = f_O_reckon p0 p1 p2 p3)) 0 0 (fun _ => False) := by
  refine Met.ofW (cc := b_O_reckon) (maxL := 7) (ret := (some .long)) (by decide) rfl ?_
  intro p e s m args below meth c s₁ B hml hv
  obtain ⟨rfl, -⟩ := hv
  have hx := B.exec
  have hb := B.bytes
  have hr := B.returns
  have hts := atoms_spec (ws := w_O_reckon) B.pre
  have hG : ∀ w ∈ gG, w.before _ s = true := fun w h => hts w (List.mem_cons_of_mem _ h)
  have hown : s.vm.findClass R_O = some m.cls := findClass_of_methodNamed B.named
  have hlocks := B.notSynchronized
  have hl := lv_entry ([.int (p0), .long (p1), .long (p2), .int (p3)]) (n := 7) (Nat.le_of_ble_eq_true rfl)
  rw [lg_entry_eq]
  generalize (lg_sl ([.int (p0), .long (p1), .long (p2), .int (p3)]) ++ List.replicate (7 - (lg_sl ([.int (p0), .long (p1), .long (p2), .int (p3)])).length) Slot.unset).toArray = ls at hl ⊢
  have hl : lv_has ls 7 [(0, .int (p0)), (1, .long (p1)), (3, .long (p2)), (5, .int (p3))] := hl
  have K6v : ∀ (v6 : Int32) (hj : f_O_reckon p0 p1 p2 p3 = f_O_reckon_6v p0 p1 p2 p3 v6) (ls : Array Slot) (hl : lv_has ls 7 [(6, .int (v6)), (0, .int (p0)), (1, .long (p1)), (3, .long (p2))]), W p l e (headSpec w_O_reckon ({ frames := 2, cells := 0, slots := 0, locals := 48 } : Room)).room s m ([.int (p0), .long (p1), .long (p2), .int (p3)] : List Value).toArray below meth c s.heap [] 0 0 (MQ below (vp_Sl (fun r => r = f_O_reckon p0 p1 p2 p3)) ([.int (p0), .long (p1), .long (p2), .int (p3)] : List Value).toArray s 0 0 (fun _ => False)) (F0 m 8 ls []) := by
    intro v6 hj ls hl
    refine lv_iload_n hx hb d_O_reckon_8 rfl (lv_at hl 1 rfl) ?_
    by_cases e1_68 : p0 = 0
    · refine lv_tableIn (off := 59) (tgt := 68) hx hb d_O_reckon_9 (by rw [e1_68]; decide) (by rw [e1_68]; decide) (by rw [e1_68]; rfl) (by decide) ?_
      refine lv_lload_n hx hb d_O_reckon_68 rfl (lv_at hl 2 rfl) ?_
      refine lv_lload_n hx hb d_O_reckon_69 rfl (lv_at hl 3 rfl) ?_
      refine lv_ladd hx hb d_O_reckon_70 ?_
      have fe : f_O_reckon p0 p1 p2 p3 = p1 + p2 := hj.trans (by unfold f_O_reckon_6v; first | with_reducible exact if_pos e1_68 | exact if_pos e1_68)
      exact W.lret (v := p1 + p2) hx hb hr (fun t ht hW => ⟨_, rfl, fe.symm, ht⟩) t_nil d_O_reckon_71
    by_cases e2_72 : p0 = 1
    · refine lv_tableIn (off := 63) (tgt := 72) hx hb d_O_reckon_9 (by rw [e2_72]; decide) (by rw [e2_72]; decide) (by rw [e2_72]; rfl) (by decide) ?_
      refine lv_lload_n hx hb d_O_reckon_72 rfl (lv_at hl 2 rfl) ?_
      refine lv_lload_n hx hb d_O_reckon_73 rfl (lv_at hl 3 rfl) ?_
      refine lv_lsub hx hb d_O_reckon_74 ?_
      have fe : f_O_reckon p0 p1 p2 p3 = p1 - p2 := hj.trans (by unfold f_O_reckon_6v; first | with_reducible exact (if_neg e1_68).trans (if_pos e2_72) | exact (if_neg e1_68).trans (if_pos e2_72))
      exact W.lret (v := p1 - p2) hx hb hr (fun t ht hW => ⟨_, rfl, fe.symm, ht⟩) t_nil d_O_reckon_75
    by_cases e3_76 : p0 = 2
    · refine lv_tableIn (off := 67) (tgt := 76) hx hb d_O_reckon_9 (by rw [e3_76]; decide) (by rw [e3_76]; decide) (by rw [e3_76]; rfl) (by decide) ?_
      refine lv_lload_n hx hb d_O_reckon_76 rfl (lv_at hl 2 rfl) ?_
      refine lv_lload_n hx hb d_O_reckon_77 rfl (lv_at hl 3 rfl) ?_
      refine lv_lmul hx hb d_O_reckon_78 ?_
      have fe : f_O_reckon p0 p1 p2 p3 = p1 * p2 := hj.trans (by unfold f_O_reckon_6v; first | with_reducible exact (if_neg e1_68).trans ((if_neg e2_72).trans (if_pos e3_76)) | exact (if_neg e1_68).trans ((if_neg e2_72).trans (if_pos e3_76)))
      exact W.lret (v := p1 * p2) hx hb hr (fun t ht hW => ⟨_, rfl, fe.symm, ht⟩) t_nil d_O_reckon_79
    by_cases e4_80 : p0 = 3
    · refine lv_tableIn (off := 71) (tgt := 80) hx hb d_O_reckon_9 (by rw [e4_80]; decide) (by rw [e4_80]; decide) (by rw [e4_80]; rfl) (by decide) ?_
      refine lv_lload_n hx hb d_O_reckon_80 rfl (lv_at hl 2 rfl) ?_
      refine lv_lload_n hx hb d_O_reckon_81 rfl (lv_at hl 3 rfl) ?_
      refine rc_l (W.runS (As := [.long (p1), .long (p2)]) (rest := []) ⟨hx, hb, hml, hown, hts⟩ (c_N_quotient l p1 p2) (va_cwS 2 hts (gS gw241 gw231 gw2 gw232) rfl rfl rfl (by decide +kernel) ⟨(Nat.le_of_ble_eq_true rfl), (Nat.le_of_ble_eq_true rfl)⟩) ⟨bl0, fun U hU hW => ⟨rfl, trivial⟩⟩ rfl rfl hl.1 rfl (lv_room (Nat.le_of_ble_eq_true rfl)) d_O_reckon_82 ⟨Nat.zero_le _, Nat.zero_le _⟩) ?_
      have fe : f_O_reckon p0 p1 p2 p3 = f_N_quotient p1 p2 := hj.trans (by unfold f_O_reckon_6v; first | with_reducible exact (if_neg e1_68).trans ((if_neg e2_72).trans ((if_neg e3_76).trans (if_pos e4_80))) | exact (if_neg e1_68).trans ((if_neg e2_72).trans ((if_neg e3_76).trans (if_pos e4_80))))
      exact W.lret (v := f_N_quotient p1 p2) hx hb hr (fun t ht hW => ⟨_, rfl, fe.symm, ht⟩) t_nil d_O_reckon_85
    by_cases e5_86 : p0 = 4
    · refine lv_tableIn (off := 77) (tgt := 86) hx hb d_O_reckon_9 (by rw [e5_86]; decide) (by rw [e5_86]; decide) (by rw [e5_86]; rfl) (by decide) ?_
      refine lv_lload_n hx hb d_O_reckon_86 rfl (lv_at hl 2 rfl) ?_
      refine lv_lload_n hx hb d_O_reckon_87 rfl (lv_at hl 2 rfl) ?_
      refine lv_lload_n hx hb d_O_reckon_88 rfl (lv_at hl 3 rfl) ?_
      refine rc_l (W.runS (As := [.long (p1), .long (p2)]) (rest := [.long (p1)]) ⟨hx, hb, hml, hown, hts⟩ (c_N_quotient l p1 p2) (va_cwS 2 hts (gS gw241 gw231 gw2 gw232) rfl rfl rfl (by decide +kernel) ⟨(Nat.le_of_ble_eq_true rfl), (Nat.le_of_ble_eq_true rfl)⟩) ⟨bl0, fun U hU hW => ⟨rfl, trivial⟩⟩ rfl rfl hl.1 rfl (lv_room (Nat.le_of_ble_eq_true rfl)) d_O_reckon_89 ⟨Nat.zero_le _, Nat.zero_le _⟩) ?_
      refine lv_lload_n hx hb d_O_reckon_92 rfl (lv_at hl 3 rfl) ?_
      refine lv_lmul hx hb d_O_reckon_93 ?_
      refine lv_lsub hx hb d_O_reckon_94 ?_
      have fe : f_O_reckon p0 p1 p2 p3 = p1 - ((f_N_quotient p1 p2) * p2) := hj.trans (by unfold f_O_reckon_6v; first | with_reducible exact (if_neg e1_68).trans ((if_neg e2_72).trans ((if_neg e3_76).trans ((if_neg e4_80).trans (if_pos e5_86)))) | exact (if_neg e1_68).trans ((if_neg e2_72).trans ((if_neg e3_76).trans ((if_neg e4_80).trans (if_pos e5_86)))))
      exact W.lret (v := p1 - ((f_N_quotient p1 p2) * p2)) hx hb hr (fun t ht hW => ⟨_, rfl, fe.symm, ht⟩) t_nil d_O_reckon_95
    by_cases e6_96 : p0 = 5
    · refine lv_tableIn (off := 87) (tgt := 96) hx hb d_O_reckon_9 (by rw [e6_96]; decide) (by rw [e6_96]; decide) (by rw [e6_96]; rfl) (by decide) ?_
      refine lv_lload_n hx hb d_O_reckon_96 rfl (lv_at hl 2 rfl) ?_
      refine lv_lload_n hx hb d_O_reckon_97 rfl (lv_at hl 3 rfl) ?_
      refine lv_land hx hb d_O_reckon_98 ?_
      have fe : f_O_reckon p0 p1 p2 p3 = p1 &&& p2 := hj.trans (by unfold f_O_reckon_6v; first | with_reducible exact (if_neg e1_68).trans ((if_neg e2_72).trans ((if_neg e3_76).trans ((if_neg e4_80).trans ((if_neg e5_86).trans (if_pos e6_96))))) | exact (if_neg e1_68).trans ((if_neg e2_72).trans ((if_neg e3_76).trans ((if_neg e4_80).trans ((if_neg e5_86).trans (if_pos e6_96))))))
      exact W.lret (v := p1 &&& p2) hx hb hr (fun t ht hW => ⟨_, rfl, fe.symm, ht⟩) t_nil d_O_reckon_99
    by_cases e7_100 : p0 = 6
    · refine lv_tableIn (off := 91) (tgt := 100) hx hb d_O_reckon_9 (by rw [e7_100]; decide) (by rw [e7_100]; decide) (by rw [e7_100]; rfl) (by decide) ?_
      refine lv_lload_n hx hb d_O_reckon_100 rfl (lv_at hl 2 rfl) ?_
      refine lv_lload_n hx hb d_O_reckon_101 rfl (lv_at hl 3 rfl) ?_
      refine lv_lor hx hb d_O_reckon_102 ?_
      have fe : f_O_reckon p0 p1 p2 p3 = p1 ||| p2 := hj.trans (by unfold f_O_reckon_6v; first | with_reducible exact (if_neg e1_68).trans ((if_neg e2_72).trans ((if_neg e3_76).trans ((if_neg e4_80).trans ((if_neg e5_86).trans ((if_neg e6_96).trans (if_pos e7_100)))))) | exact (if_neg e1_68).trans ((if_neg e2_72).trans ((if_neg e3_76).trans ((if_neg e4_80).trans ((if_neg e5_86).trans ((if_neg e6_96).trans (if_pos e7_100)))))))
      exact W.lret (v := p1 ||| p2) hx hb hr (fun t ht hW => ⟨_, rfl, fe.symm, ht⟩) t_nil d_O_reckon_103
    by_cases e8_104 : p0 = 7
    · refine lv_tableIn (off := 95) (tgt := 104) hx hb d_O_reckon_9 (by rw [e8_104]; decide) (by rw [e8_104]; decide) (by rw [e8_104]; rfl) (by decide) ?_
      refine lv_lload_n hx hb d_O_reckon_104 rfl (lv_at hl 2 rfl) ?_
      refine lv_lload_n hx hb d_O_reckon_105 rfl (lv_at hl 3 rfl) ?_
      refine lv_lxor hx hb d_O_reckon_106 ?_
      have fe : f_O_reckon p0 p1 p2 p3 = p1 ^^^ p2 := hj.trans (by unfold f_O_reckon_6v; first | with_reducible exact (if_neg e1_68).trans ((if_neg e2_72).trans ((if_neg e3_76).trans ((if_neg e4_80).trans ((if_neg e5_86).trans ((if_neg e6_96).trans ((if_neg e7_100).trans (if_pos e8_104))))))) | exact (if_neg e1_68).trans ((if_neg e2_72).trans ((if_neg e3_76).trans ((if_neg e4_80).trans ((if_neg e5_86).trans ((if_neg e6_96).trans ((if_neg e7_100).trans (if_pos e8_104))))))))
      exact W.lret (v := p1 ^^^ p2) hx hb hr (fun t ht hW => ⟨_, rfl, fe.symm, ht⟩) t_nil d_O_reckon_107
    by_cases e9_108 : p0 = 8
    · refine lv_tableIn (off := 99) (tgt := 108) hx hb d_O_reckon_9 (by rw [e9_108]; decide) (by rw [e9_108]; decide) (by rw [e9_108]; rfl) (by decide) ?_
      refine lv_lload_n hx hb d_O_reckon_108 rfl (lv_at hl 2 rfl) ?_
      refine lv_iload hx hb d_O_reckon_109 (lv_at hl 0 rfl) ?_
      refine lv_lshl (v := p1 <<< (v6.toInt64 &&& 63)) hx hb d_O_reckon_111 rfl ?_
      have fe : f_O_reckon p0 p1 p2 p3 = p1 <<< (v6.toInt64 &&& 63) := hj.trans (by unfold f_O_reckon_6v; first | with_reducible exact (if_neg e1_68).trans ((if_neg e2_72).trans ((if_neg e3_76).trans ((if_neg e4_80).trans ((if_neg e5_86).trans ((if_neg e6_96).trans ((if_neg e7_100).trans ((if_neg e8_104).trans (if_pos e9_108)))))))) | exact (if_neg e1_68).trans ((if_neg e2_72).trans ((if_neg e3_76).trans ((if_neg e4_80).trans ((if_neg e5_86).trans ((if_neg e6_96).trans ((if_neg e7_100).trans ((if_neg e8_104).trans (if_pos e9_108)))))))))
      exact W.lret (v := p1 <<< (v6.toInt64 &&& 63)) hx hb hr (fun t ht hW => ⟨_, rfl, fe.symm, ht⟩) t_nil d_O_reckon_112
    by_cases e10_113 : p0 = 9
    · refine lv_tableIn (off := 104) (tgt := 113) hx hb d_O_reckon_9 (by rw [e10_113]; decide) (by rw [e10_113]; decide) (by rw [e10_113]; rfl) (by decide) ?_
      refine lv_lload_n hx hb d_O_reckon_113 rfl (lv_at hl 2 rfl) ?_
      refine lv_iload hx hb d_O_reckon_114 (lv_at hl 0 rfl) ?_
      refine lv_lushr (v := (p1.toUInt64 >>> (v6.toInt64.toUInt64 &&& Int64.toUInt64 63)).toInt64) hx hb d_O_reckon_116 rfl ?_
      have fe : f_O_reckon p0 p1 p2 p3 = (p1.toUInt64 >>> (v6.toInt64.toUInt64 &&& Int64.toUInt64 63)).toInt64 := hj.trans (by unfold f_O_reckon_6v; first | with_reducible exact (if_neg e1_68).trans ((if_neg e2_72).trans ((if_neg e3_76).trans ((if_neg e4_80).trans ((if_neg e5_86).trans ((if_neg e6_96).trans ((if_neg e7_100).trans ((if_neg e8_104).trans ((if_neg e9_108).trans (if_pos e10_113))))))))) | exact (if_neg e1_68).trans ((if_neg e2_72).trans ((if_neg e3_76).trans ((if_neg e4_80).trans ((if_neg e5_86).trans ((if_neg e6_96).trans ((if_neg e7_100).trans ((if_neg e8_104).trans ((if_neg e9_108).trans (if_pos e10_113))))))))))
      exact W.lret (v := (p1.toUInt64 >>> (v6.toInt64.toUInt64 &&& Int64.toUInt64 63)).toInt64) hx hb hr (fun t ht hW => ⟨_, rfl, fe.symm, ht⟩) t_nil d_O_reckon_117
    by_cases e11_118 : p0 = 10
    · refine lv_tableIn (off := 109) (tgt := 118) hx hb d_O_reckon_9 (by rw [e11_118]; decide) (by rw [e11_118]; decide) (by rw [e11_118]; rfl) (by decide) ?_
      refine lv_lload_n hx hb d_O_reckon_118 rfl (lv_at hl 2 rfl) ?_
      refine lv_iload hx hb d_O_reckon_119 (lv_at hl 0 rfl) ?_
      refine lv_lshr (v := p1 >>> (v6.toInt64 &&& 63)) hx hb d_O_reckon_121 rfl ?_
      have fe : f_O_reckon p0 p1 p2 p3 = p1 >>> (v6.toInt64 &&& 63) := hj.trans (by unfold f_O_reckon_6v; first | with_reducible exact (if_neg e1_68).trans ((if_neg e2_72).trans ((if_neg e3_76).trans ((if_neg e4_80).trans ((if_neg e5_86).trans ((if_neg e6_96).trans ((if_neg e7_100).trans ((if_neg e8_104).trans ((if_neg e9_108).trans ((if_neg e10_113).trans (if_pos e11_118)))))))))) | exact (if_neg e1_68).trans ((if_neg e2_72).trans ((if_neg e3_76).trans ((if_neg e4_80).trans ((if_neg e5_86).trans ((if_neg e6_96).trans ((if_neg e7_100).trans ((if_neg e8_104).trans ((if_neg e9_108).trans ((if_neg e10_113).trans (if_pos e11_118)))))))))))
      exact W.lret (v := p1 >>> (v6.toInt64 &&& 63)) hx hb hr (fun t ht hW => ⟨_, rfl, fe.symm, ht⟩) t_nil d_O_reckon_122
    refine lv_tableOut (tgt := 123) hx hb d_O_reckon_9 (by have n0 := lv_neT (a := 0) e1_68 (by decide); have n1 := lv_neT (a := 1) e2_72 (by decide); have n2 := lv_neT (a := 2) e3_76 (by decide); have n3 := lv_neT (a := 3) e4_80 (by decide); have n4 := lv_neT (a := 4) e5_86 (by decide); have n5 := lv_neT (a := 5) e6_96 (by decide); have n6 := lv_neT (a := 6) e7_100 (by decide); have n7 := lv_neT (a := 7) e8_104 (by decide); have n8 := lv_neT (a := 8) e9_108 (by decide); have n9 := lv_neT (a := 9) e10_113 (by decide); have n10 := lv_neT (a := 10) e11_118 (by decide); omega) (by decide) ?_
    refine lv_lload_n hx hb d_O_reckon_123 rfl (lv_at hl 3 rfl) ?_
    have fe : f_O_reckon p0 p1 p2 p3 = p2 := hj.trans (by unfold f_O_reckon_6v; first | with_reducible exact (if_neg e1_68).trans ((if_neg e2_72).trans ((if_neg e3_76).trans ((if_neg e4_80).trans ((if_neg e5_86).trans ((if_neg e6_96).trans ((if_neg e7_100).trans ((if_neg e8_104).trans ((if_neg e9_108).trans ((if_neg e10_113).trans (if_neg e11_118)))))))))) | exact (if_neg e1_68).trans ((if_neg e2_72).trans ((if_neg e3_76).trans ((if_neg e4_80).trans ((if_neg e5_86).trans ((if_neg e6_96).trans ((if_neg e7_100).trans ((if_neg e8_104).trans ((if_neg e9_108).trans ((if_neg e10_113).trans (if_neg e11_118)))))))))))
    exact W.lret (v := p2) hx hb hr (fun t ht hW => ⟨_, rfl, fe.symm, ht⟩) t_nil d_O_reckon_124
  refine lv_lload_n hx hb d_O_reckon_0 rfl (lv_at hl 2 rfl) ?_
  refine lv_iload hx hb d_O_reckon_1 (lv_at hl 3 rfl) ?_
  refine lv_i2l (v := p3.toInt64) hx hb d_O_reckon_3 rfl ?_
  refine lv_land hx hb d_O_reckon_4 ?_
  refine lv_l2i (v := (p2 &&& p3.toInt64).toInt32) hx hb d_O_reckon_5 rfl ?_
  refine lv_topi (fun v6 ev6 => ?_)
  refine lv_istore (lv' := [(6, .int (v6)), (0, .int (p0)), (1, .long (p1)), (3, .long (p2)), (5, .int (p3))]) hx hb d_O_reckon_6 hl (by decide) rfl (fun ls hl => ?_)
  exact K6v v6 (Eq.trans (rfl) (congrArg (fun v6 => f_O_reckon_6v p0 p1 p2 p3 v6) ev6.symm)) ls (lv_sub hl [0, 1, 2, 3] rfl)
-- ValueSieve$Operations.addition
theorem d_O_addition_0 : decode b_O_addition 0 = .ok (.aload_n 1, 1) := by decide +kernel
theorem d_O_addition_1 : decode b_O_addition 1 = .ok (.getfield 36, 3) := by decide +kernel
theorem d_O_addition_4 : decode b_O_addition 4 = .ok (.aload_n 2, 1) := by decide +kernel
theorem d_O_addition_5 : decode b_O_addition 5 = .ok (.getfield 36, 3) := by decide +kernel
theorem d_O_addition_8 : decode b_O_addition 8 = .ok (.ladd, 1) := by decide +kernel
theorem d_O_addition_9 : decode b_O_addition 9 = .ok (.lstore_n 3, 1) := by decide +kernel
theorem d_O_addition_10 : decode b_O_addition 10 = .ok (.lload_n 3, 1) := by decide +kernel
theorem d_O_addition_11 : decode b_O_addition 11 = .ok (.aload_n 1, 1) := by decide +kernel
theorem d_O_addition_12 : decode b_O_addition 12 = .ok (.getfield 40, 3) := by decide +kernel
theorem d_O_addition_15 : decode b_O_addition 15 = .ok (.ladd, 1) := by decide +kernel
theorem d_O_addition_16 : decode b_O_addition 16 = .ok (.aload_n 2, 1) := by decide +kernel
theorem d_O_addition_17 : decode b_O_addition 17 = .ok (.getfield 40, 3) := by decide +kernel
theorem d_O_addition_20 : decode b_O_addition 20 = .ok (.ladd, 1) := by decide +kernel
theorem d_O_addition_21 : decode b_O_addition 21 = .ok (.lstore 5, 2) := by decide +kernel
theorem d_O_addition_23 : decode b_O_addition 23 = .ok (.aload_n 0, 1) := by decide +kernel
theorem d_O_addition_24 : decode b_O_addition 24 = .ok (.lload_n 3, 1) := by decide +kernel
theorem d_O_addition_25 : decode b_O_addition 25 = .ok (.lload_n 3, 1) := by decide +kernel
theorem d_O_addition_26 : decode b_O_addition 26 = .ok (.lload 5, 2) := by decide +kernel
theorem d_O_addition_28 : decode b_O_addition 28 = .ok (.lxor, 1) := by decide +kernel
theorem d_O_addition_29 : decode b_O_addition 29 = .ok (.aload_n 1, 1) := by decide +kernel
theorem d_O_addition_30 : decode b_O_addition 30 = .ok (.getfield 40, 3) := by decide +kernel
theorem d_O_addition_33 : decode b_O_addition 33 = .ok (.lor, 1) := by decide +kernel
theorem d_O_addition_34 : decode b_O_addition 34 = .ok (.aload_n 2, 1) := by decide +kernel
theorem d_O_addition_35 : decode b_O_addition 35 = .ok (.getfield 40, 3) := by decide +kernel
theorem d_O_addition_38 : decode b_O_addition 38 = .ok (.lor, 1) := by decide +kernel
theorem d_O_addition_39 : decode b_O_addition 39 = .ok (.invokevirtual 45, 3) := by decide +kernel
theorem d_O_addition_42 : decode b_O_addition 42 = .ok (.aload_n 1, 1) := by decide +kernel
theorem d_O_addition_43 : decode b_O_addition 43 = .ok (.getfield 55, 3) := by decide +kernel
theorem d_O_addition_46 : decode b_O_addition 46 = .ok (.aload_n 2, 1) := by decide +kernel
theorem d_O_addition_47 : decode b_O_addition 47 = .ok (.getfield 55, 3) := by decide +kernel
theorem d_O_addition_50 : decode b_O_addition 50 = .ok (.ladd, 1) := by decide +kernel
theorem d_O_addition_51 : decode b_O_addition 51 = .ok (.lstore 7, 2) := by decide +kernel
theorem d_O_addition_53 : decode b_O_addition 53 = .ok (.aload_n 1, 1) := by decide +kernel
theorem d_O_addition_54 : decode b_O_addition 54 = .ok (.getfield 49, 3) := by decide +kernel
theorem d_O_addition_57 : decode b_O_addition 57 = .ok (.aload_n 2, 1) := by decide +kernel
theorem d_O_addition_58 : decode b_O_addition 58 = .ok (.getfield 49, 3) := by decide +kernel
theorem d_O_addition_61 : decode b_O_addition 61 = .ok (.ladd, 1) := by decide +kernel
theorem d_O_addition_62 : decode b_O_addition 62 = .ok (.lstore 9, 2) := by decide +kernel
theorem d_O_addition_64 : decode b_O_addition 64 = .ok (.lload 7, 2) := by decide +kernel
theorem d_O_addition_66 : decode b_O_addition 66 = .ok (.aload_n 1, 1) := by decide +kernel
theorem d_O_addition_67 : decode b_O_addition 67 = .ok (.getfield 55, 3) := by decide +kernel
theorem d_O_addition_70 : decode b_O_addition 70 = .ok (.invokestatic 72, 3) := by decide +kernel
theorem d_O_addition_73 : decode b_O_addition 73 = .ok (.lload 9, 2) := by decide +kernel
theorem d_O_addition_75 : decode b_O_addition 75 = .ok (.aload_n 1, 1) := by decide +kernel
theorem d_O_addition_76 : decode b_O_addition 76 = .ok (.getfield 49, 3) := by decide +kernel
theorem d_O_addition_79 : decode b_O_addition 79 = .ok (.invokestatic 72, 3) := by decide +kernel
theorem d_O_addition_82 : decode b_O_addition 82 = .ok (.if_icmp .ne 11, 3) := by decide +kernel
theorem d_O_addition_85 : decode b_O_addition 85 = .ok (.aload_n 0, 1) := by decide +kernel
theorem d_O_addition_86 : decode b_O_addition 86 = .ok (.lload 7, 2) := by decide +kernel
theorem d_O_addition_88 : decode b_O_addition 88 = .ok (.lload 9, 2) := by decide +kernel
theorem d_O_addition_90 : decode b_O_addition 90 = .ok (.invokevirtual 76, 3) := by decide +kernel
theorem d_O_addition_93 : decode b_O_addition 93 = .ok (.aload_n 1, 1) := by decide +kernel
theorem d_O_addition_94 : decode b_O_addition 94 = .ok (.getfield 79, 3) := by decide +kernel
theorem d_O_addition_97 : decode b_O_addition 97 = .ok (.aload_n 2, 1) := by decide +kernel
theorem d_O_addition_98 : decode b_O_addition 98 = .ok (.getfield 79, 3) := by decide +kernel
theorem d_O_addition_101 : decode b_O_addition 101 = .ok (.invokestatic 82, 3) := by decide +kernel
theorem d_O_addition_104 : decode b_O_addition 104 = .ok (.ifCond .eq 39, 3) := by decide +kernel
theorem d_O_addition_107 : decode b_O_addition 107 = .ok (.aload_n 1, 1) := by decide +kernel
theorem d_O_addition_108 : decode b_O_addition 108 = .ok (.getfield 85, 3) := by decide +kernel
theorem d_O_addition_111 : decode b_O_addition 111 = .ok (.aload_n 2, 1) := by decide +kernel
theorem d_O_addition_112 : decode b_O_addition 112 = .ok (.getfield 85, 3) := by decide +kernel
theorem d_O_addition_115 : decode b_O_addition 115 = .ok (.invokestatic 82, 3) := by decide +kernel
theorem d_O_addition_118 : decode b_O_addition 118 = .ok (.ifCond .eq 25, 3) := by decide +kernel
theorem d_O_addition_121 : decode b_O_addition 121 = .ok (.aload_n 0, 1) := by decide +kernel
theorem d_O_addition_122 : decode b_O_addition 122 = .ok (.aload_n 1, 1) := by decide +kernel
theorem d_O_addition_123 : decode b_O_addition 123 = .ok (.getfield 79, 3) := by decide +kernel
theorem d_O_addition_126 : decode b_O_addition 126 = .ok (.aload_n 2, 1) := by decide +kernel
theorem d_O_addition_127 : decode b_O_addition 127 = .ok (.getfield 79, 3) := by decide +kernel
theorem d_O_addition_130 : decode b_O_addition 130 = .ok (.ladd, 1) := by decide +kernel
theorem d_O_addition_131 : decode b_O_addition 131 = .ok (.aload_n 1, 1) := by decide +kernel
theorem d_O_addition_132 : decode b_O_addition 132 = .ok (.getfield 85, 3) := by decide +kernel
theorem d_O_addition_135 : decode b_O_addition 135 = .ok (.aload_n 2, 1) := by decide +kernel
theorem d_O_addition_136 : decode b_O_addition 136 = .ok (.getfield 85, 3) := by decide +kernel
theorem d_O_addition_139 : decode b_O_addition 139 = .ok (.ladd, 1) := by decide +kernel
theorem d_O_addition_140 : decode b_O_addition 140 = .ok (.invokevirtual 88, 3) := by decide +kernel
theorem d_O_addition_143 : decode b_O_addition 143 = .ok (.return_, 1) := by decide +kernel
def f_O_addition_140g (z0 : VV) (z1 : VV) (z2 : VV) (g140 : VV) : VV := g140
def f_O_addition_93 (z0 : VV) (z1 : VV) (z2 : VV) (w93_0_0 : Int64) (w93_0_1 : Int64) (w93_0_2 : Int64) (w93_0_3 : Int64) (w93_0_4 : Int64) (w93_0_5 : Int64) (w93_0_6 : Bool) : VV := (if (f_N_sumFits z1.2.2.2.2.1 z2.2.2.2.2.1) = 0 then ((w93_0_0, w93_0_1, w93_0_2, w93_0_3, w93_0_4, w93_0_5, w93_0_6)) else (if (f_N_sumFits z1.2.2.2.2.2.1 z2.2.2.2.2.2.1) = 0 then ((w93_0_0, w93_0_1, w93_0_2, w93_0_3, w93_0_4, w93_0_5, w93_0_6)) else f_O_addition_140g z0 z1 z2 (f_V_saySigned ((w93_0_0, w93_0_1, w93_0_2, w93_0_3, w93_0_4, w93_0_5, w93_0_6)) (z1.2.2.2.2.1 + z2.2.2.2.2.1) (z1.2.2.2.2.2.1 + z2.2.2.2.2.2.1))))
def f_O_addition_90g (z0 : VV) (z1 : VV) (z2 : VV) (g90 : VV) : VV := f_O_addition_93 z0 z1 z2 g90.1 g90.2.1 g90.2.2.1 g90.2.2.2.1 g90.2.2.2.2.1 g90.2.2.2.2.2.1 g90.2.2.2.2.2.2
def f_O_addition_62v (z0 : VV) (z1 : VV) (z2 : VV) (v62 : Int64) (v51 : Int64) (g39 : VV) : VV := (if (f_N_below v51 z1.2.2.1) = (f_N_below v62 z1.2.2.2.1) then f_O_addition_90g z0 z1 z2 (f_V_sayUnsigned g39 v51 v62) else f_O_addition_93 z0 z1 z2 g39.1 g39.2.1 g39.2.2.1 g39.2.2.2.1 g39.2.2.2.2.1 g39.2.2.2.2.2.1 g39.2.2.2.2.2.2)
def f_O_addition_51v (z0 : VV) (z1 : VV) (z2 : VV) (v51 : Int64) (g39 : VV) : VV := f_O_addition_62v z0 z1 z2 (z1.2.2.2.1 + z2.2.2.2.1) v51 g39
def f_O_addition_39g (z0 : VV) (z1 : VV) (z2 : VV) (g39 : VV) : VV := f_O_addition_51v z0 z1 z2 (z1.2.2.1 + z2.2.2.1) g39
def f_O_addition_21v (z0 : VV) (z1 : VV) (z2 : VV) (v21 : Int64) (v9 : Int64) : VV := f_O_addition_39g z0 z1 z2 (f_V_sayBits z0 v9 (((v9 ^^^ v21) ||| z1.2.1) ||| z2.2.1))
def f_O_addition_9v (z0 : VV) (z1 : VV) (z2 : VV) (v9 : Int64) : VV := f_O_addition_21v z0 z1 z2 ((v9 + z1.2.1) + z2.2.1) v9
def f_O_addition (z0 : VV) (z1 : VV) (z2 : VV) : VV := f_O_addition_9v z0 z1 z2 (z1.1 + z2.1)
set_option maxRecDepth 100000 in
set_option maxHeartbeats 4000000 in
theorem c_O_addition (l : Launch) (dC : Nat → ClassId) (dI : Nat → Nat → Nat) (h0 : Nat) (h1 : Nat) (h2 : Nat) (sz : Nat) (z0 : VV) (z1 : VV) (z2 : VV) : Met l y_O_addition w_O_addition ({ frames := 1, cells := 0, slots := 0, locals := 25 } : Room) (va_Pc [.ref h0, .ref h1, .ref h2] (mP (dC, dI) [(h0, vE z0), (h1, vE z1), (h2, vE z2)] sz)) (va_Qv (fun _ : Unit => True) (mB (dC, dI) (va_A [(h0, vE z0), (h1, vE z1), (h2, vE z2)] sz) [(h0, vE (f_O_addition z0 z1 z2)), (h1, vE z1), (h2, vE z2)]) (va_A [(h0, vE z0), (h1, vE z1), (h2, vE z2)] sz)) 0 0 (va_A [(h0, vE z0), (h1, vE z1), (h2, vE z2)] sz) := by
  refine Met.ofW (cc := b_O_addition) (maxL := 11) (ret := none) (by decide) rfl ?_
  intro p e s m args below meth c s₁ B hml hv
  obtain ⟨rfl, hsz, hP, hK, hD0⟩ := hv
  have hx := B.exec
  have hb := B.bytes
  have hr := B.returns
  have hts := atoms_spec (ws := w_O_addition) B.pre
  have hG : ∀ w ∈ gG, w.before _ s = true := fun w h => hts w (List.mem_cons_of_mem _ h)
  have hown : s.vm.findClass R_O = some m.cls := findClass_of_methodNamed B.named
  have hlocks := B.notSynchronized
  subst hsz
  have hD := hD0.self (sz := s.heap.size)
  generalize hAe : va_A [(h0, vE z0), (h1, vE z1), (h2, vE z2)] s.heap.size = A at hD ⊢
  have hA : ∀ q : Nat, s.heap.size ≤ q → A q := fun q h => by rw [← hAe]; exact Or.inr h
  have hS : va_S A s.heap s.heap [] := va_S.rf
  have hP : va_P (dC, dI) classes [(h0, .inr (0, [.long (z0.1), .long (z0.2.1), .long (z0.2.2.1), .long (z0.2.2.2.1), .long (z0.2.2.2.2.1), .long (z0.2.2.2.2.2.1), .int (bI z0.2.2.2.2.2.2)])), (h1, .inr (0, [.long (z1.1), .long (z1.2.1), .long (z1.2.2.1), .long (z1.2.2.2.1), .long (z1.2.2.2.2.1), .long (z1.2.2.2.2.2.1), .int (bI z1.2.2.2.2.2.2)])), (h2, .inr (0, [.long (z2.1), .long (z2.2.1), .long (z2.2.2.1), .long (z2.2.2.2.1), .long (z2.2.2.2.2.1), .long (z2.2.2.2.2.2.1), .int (bI z2.2.2.2.2.2.2)]))] s.heap := hP
  have hD : va_D A [(h0, .inr (0, [.long (z0.1), .long (z0.2.1), .long (z0.2.2.1), .long (z0.2.2.2.1), .long (z0.2.2.2.2.1), .long (z0.2.2.2.2.2.1), .int (bI z0.2.2.2.2.2.2)])), (h1, .inr (0, [.long (z1.1), .long (z1.2.1), .long (z1.2.2.1), .long (z1.2.2.2.1), .long (z1.2.2.2.2.1), .long (z1.2.2.2.2.2.1), .int (bI z1.2.2.2.2.2.2)])), (h2, .inr (0, [.long (z2.1), .long (z2.2.1), .long (z2.2.2.1), .long (z2.2.2.2.1), .long (z2.2.2.2.2.1), .long (z2.2.2.2.2.2.1), .int (bI z2.2.2.2.2.2.2)]))] := hD
  have hl := lv_entry ([.ref h0, .ref h1, .ref h2]) (n := 11) (Nat.le_of_ble_eq_true rfl)
  rw [lg_entry_eq]
  generalize (lg_sl ([.ref h0, .ref h1, .ref h2]) ++ List.replicate (11 - (lg_sl ([.ref h0, .ref h1, .ref h2])).length) Slot.unset).toArray = ls at hl ⊢
  have hl : lv_has ls 11 [(0, .ref h0), (1, .ref h1), (2, .ref h2)] := hl
  have K140g : ∀ (g140 : VV) (hj : f_O_addition z0 z1 z2 = f_O_addition_140g z0 z1 z2 g140) (H : Heap) (locs : List Loc) (hP : va_P (dC, dI) classes [(h0, .inr (0, [.long (g140.1), .long (g140.2.1), .long (g140.2.2.1), .long (g140.2.2.2.1), .long (g140.2.2.2.2.1), .long (g140.2.2.2.2.2.1), .int (bI g140.2.2.2.2.2.2)])), (h1, .inr (0, [.long (z1.1), .long (z1.2.1), .long (z1.2.2.1), .long (z1.2.2.2.1), .long (z1.2.2.2.2.1), .long (z1.2.2.2.2.2.1), .int (bI z1.2.2.2.2.2.2)])), (h2, .inr (0, [.long (z2.1), .long (z2.2.1), .long (z2.2.2.1), .long (z2.2.2.2.1), .long (z2.2.2.2.2.1), .long (z2.2.2.2.2.2.1), .int (bI z2.2.2.2.2.2.2)]))] H) (hD : va_D A [(h0, .inr (0, [.long (g140.1), .long (g140.2.1), .long (g140.2.2.1), .long (g140.2.2.2.1), .long (g140.2.2.2.2.1), .long (g140.2.2.2.2.2.1), .int (bI g140.2.2.2.2.2.2)])), (h1, .inr (0, [.long (z1.1), .long (z1.2.1), .long (z1.2.2.1), .long (z1.2.2.2.1), .long (z1.2.2.2.2.1), .long (z1.2.2.2.2.2.1), .int (bI z1.2.2.2.2.2.2)])), (h2, .inr (0, [.long (z2.1), .long (z2.2.1), .long (z2.2.2.1), .long (z2.2.2.2.1), .long (z2.2.2.2.2.1), .long (z2.2.2.2.2.2.1), .int (bI z2.2.2.2.2.2.2)]))]) (hS : va_S A s.heap H locs) (ls : Array Slot) (hl : lv_has ls 11 []), W p l e (headSpec w_O_addition ({ frames := 1, cells := 0, slots := 0, locals := 25 } : Room)).room s m ([.ref h0, .ref h1, .ref h2] : List Value).toArray below meth c H locs 0 0 (MQ below (va_Qv (fun _ : Unit => True) (mB (dC, dI) A [(h0, vE (f_O_addition z0 z1 z2)), (h1, vE z1), (h2, vE z2)]) A) ([.ref h0, .ref h1, .ref h2] : List Value).toArray s 0 0 A) (F0 m 143 ls []) := by
    intro g140 hj H locs hP hD hS ls hl
    have fe : f_O_addition z0 z1 z2 = g140 := hj.trans rfl
    exact W.vret hx hb hr (fun t ht hW => ⟨⟨(), rfl, trivial, by rw [ht, fe]; (try simp only [vE_mk]); exact hP, by rw [fe]; (try simp only [vE_mk]); exact hD⟩, hS.F ht⟩) hS.2.2 d_O_addition_143
  have K93 : ∀ (w93_0_0 : Int64) (w93_0_1 : Int64) (w93_0_2 : Int64) (w93_0_3 : Int64) (w93_0_4 : Int64) (w93_0_5 : Int64) (w93_0_6 : Bool) (hj : f_O_addition z0 z1 z2 = f_O_addition_93 z0 z1 z2 w93_0_0 w93_0_1 w93_0_2 w93_0_3 w93_0_4 w93_0_5 w93_0_6) (H : Heap) (locs : List Loc) (hP : va_P (dC, dI) classes [(h0, .inr (0, [.long (w93_0_0), .long (w93_0_1), .long (w93_0_2), .long (w93_0_3), .long (w93_0_4), .long (w93_0_5), .int (bI w93_0_6)])), (h1, .inr (0, [.long (z1.1), .long (z1.2.1), .long (z1.2.2.1), .long (z1.2.2.2.1), .long (z1.2.2.2.2.1), .long (z1.2.2.2.2.2.1), .int (bI z1.2.2.2.2.2.2)])), (h2, .inr (0, [.long (z2.1), .long (z2.2.1), .long (z2.2.2.1), .long (z2.2.2.2.1), .long (z2.2.2.2.2.1), .long (z2.2.2.2.2.2.1), .int (bI z2.2.2.2.2.2.2)]))] H) (hD : va_D A [(h0, .inr (0, [.long (w93_0_0), .long (w93_0_1), .long (w93_0_2), .long (w93_0_3), .long (w93_0_4), .long (w93_0_5), .int (bI w93_0_6)])), (h1, .inr (0, [.long (z1.1), .long (z1.2.1), .long (z1.2.2.1), .long (z1.2.2.2.1), .long (z1.2.2.2.2.1), .long (z1.2.2.2.2.2.1), .int (bI z1.2.2.2.2.2.2)])), (h2, .inr (0, [.long (z2.1), .long (z2.2.1), .long (z2.2.2.1), .long (z2.2.2.2.1), .long (z2.2.2.2.2.1), .long (z2.2.2.2.2.2.1), .int (bI z2.2.2.2.2.2.2)]))]) (hS : va_S A s.heap H locs) (ls : Array Slot) (hl : lv_has ls 11 [(0, .ref h0), (1, .ref h1), (2, .ref h2)]), W p l e (headSpec w_O_addition ({ frames := 1, cells := 0, slots := 0, locals := 25 } : Room)).room s m ([.ref h0, .ref h1, .ref h2] : List Value).toArray below meth c H locs 0 0 (MQ below (va_Qv (fun _ : Unit => True) (mB (dC, dI) A [(h0, vE (f_O_addition z0 z1 z2)), (h1, vE z1), (h2, vE z2)]) A) ([.ref h0, .ref h1, .ref h2] : List Value).toArray s 0 0 A) (F0 m 93 ls []) := by
    intro w93_0_0 w93_0_1 w93_0_2 w93_0_3 w93_0_4 w93_0_5 w93_0_6 hj H locs hP hD hS ls hl
    refine lv_aload_n hx hb d_O_addition_93 rfl (lv_at hl 1 rfl) ?_
    refine va_get (D := (dC, dI)) (ci := 0) (v := .long (z1.2.2.2.2.1)) (C := R_V) (T := F_V) (N := 7) hx hb hts (fun w h => List.mem_cons_of_mem _ (uw_V w h)) hown hK hP 1 rfl rfl 4 (by decide) (hG (.fieldLink R_O 79 "ValueSieve$Value" "least" "J") gw34) (fun _ h9 => h9) rfl d_O_addition_94 ?_
    refine lv_aload_n hx hb d_O_addition_97 rfl (lv_at hl 2 rfl) ?_
    refine va_get (D := (dC, dI)) (ci := 0) (v := .long (z2.2.2.2.2.1)) (C := R_V) (T := F_V) (N := 7) hx hb hts (fun w h => List.mem_cons_of_mem _ (uw_V w h)) hown hK hP 2 rfl rfl 4 (by decide) (hG (.fieldLink R_O 79 "ValueSieve$Value" "least" "J") gw34) (fun _ h9 => h9) rfl d_O_addition_98 ?_
    refine rc_i (W.runS (As := [.long (z1.2.2.2.2.1), .long (z2.2.2.2.2.1)]) (rest := []) ⟨hx, hb, hml, hown, hts⟩ (c_N_sumFits l z1.2.2.2.2.1 z2.2.2.2.2.1) (va_cwS 2 hts (gS gw194 gw195 gw2 gw196) rfl rfl rfl (by decide +kernel) ⟨(Nat.le_of_ble_eq_true rfl), (Nat.le_of_ble_eq_true rfl)⟩) ⟨bl0, fun U hU hW => ⟨rfl, trivial⟩⟩ rfl rfl hl.1 rfl (lv_room (Nat.le_of_ble_eq_true rfl)) d_O_addition_101 ⟨Nat.zero_le _, Nat.zero_le _⟩) ?_
    refine lv_if_eq (tgt := 143) hx hb d_O_addition_104 (by decide) (fun e1_143 => ?_) (fun e1_143 => ?_)
    · have fe : f_O_addition z0 z1 z2 = ((w93_0_0, w93_0_1, w93_0_2, w93_0_3, w93_0_4, w93_0_5, w93_0_6)) := hj.trans (by unfold f_O_addition_93; first | with_reducible exact if_pos e1_143 | exact if_pos e1_143)
      exact W.vret hx hb hr (fun t ht hW => ⟨⟨(), rfl, trivial, by rw [ht, fe]; (try simp only [vE_mk]); exact hP, by rw [fe]; (try simp only [vE_mk]); exact hD⟩, hS.F ht⟩) hS.2.2 d_O_addition_143
    · refine lv_aload_n hx hb d_O_addition_107 rfl (lv_at hl 1 rfl) ?_
      refine va_get (D := (dC, dI)) (ci := 0) (v := .long (z1.2.2.2.2.2.1)) (C := R_V) (T := F_V) (N := 7) hx hb hts (fun w h => List.mem_cons_of_mem _ (uw_V w h)) hown hK hP 1 rfl rfl 5 (by decide) (hG (.fieldLink R_O 85 "ValueSieve$Value" "greatest" "J") gw38) (fun _ h9 => h9) rfl d_O_addition_108 ?_
      refine lv_aload_n hx hb d_O_addition_111 rfl (lv_at hl 2 rfl) ?_
      refine va_get (D := (dC, dI)) (ci := 0) (v := .long (z2.2.2.2.2.2.1)) (C := R_V) (T := F_V) (N := 7) hx hb hts (fun w h => List.mem_cons_of_mem _ (uw_V w h)) hown hK hP 2 rfl rfl 5 (by decide) (hG (.fieldLink R_O 85 "ValueSieve$Value" "greatest" "J") gw38) (fun _ h9 => h9) rfl d_O_addition_112 ?_
      refine rc_i (W.runS (As := [.long (z1.2.2.2.2.2.1), .long (z2.2.2.2.2.2.1)]) (rest := []) ⟨hx, hb, hml, hown, hts⟩ (c_N_sumFits l z1.2.2.2.2.2.1 z2.2.2.2.2.2.1) (va_cwS 2 hts (gS gw194 gw195 gw2 gw196) rfl rfl rfl (by decide +kernel) ⟨(Nat.le_of_ble_eq_true rfl), (Nat.le_of_ble_eq_true rfl)⟩) ⟨bl0, fun U hU hW => ⟨rfl, trivial⟩⟩ rfl rfl hl.1 rfl (lv_room (Nat.le_of_ble_eq_true rfl)) d_O_addition_115 ⟨Nat.zero_le _, Nat.zero_le _⟩) ?_
      refine lv_if_eq (tgt := 143) hx hb d_O_addition_118 (by decide) (fun e2_143 => ?_) (fun e2_143 => ?_)
      · have fe : f_O_addition z0 z1 z2 = ((w93_0_0, w93_0_1, w93_0_2, w93_0_3, w93_0_4, w93_0_5, w93_0_6)) := hj.trans (by unfold f_O_addition_93; first | with_reducible exact (if_neg e1_143).trans (if_pos e2_143) | exact (if_neg e1_143).trans (if_pos e2_143))
        exact W.vret hx hb hr (fun t ht hW => ⟨⟨(), rfl, trivial, by rw [ht, fe]; (try simp only [vE_mk]); exact hP, by rw [fe]; (try simp only [vE_mk]); exact hD⟩, hS.F ht⟩) hS.2.2 d_O_addition_143
      · refine lv_aload_n hx hb d_O_addition_121 rfl (lv_at hl 0 rfl) ?_
        refine lv_aload_n hx hb d_O_addition_122 rfl (lv_at hl 1 rfl) ?_
        refine va_get (D := (dC, dI)) (ci := 0) (v := .long (z1.2.2.2.2.1)) (C := R_V) (T := F_V) (N := 7) hx hb hts (fun w h => List.mem_cons_of_mem _ (uw_V w h)) hown hK hP 1 rfl rfl 4 (by decide) (hG (.fieldLink R_O 79 "ValueSieve$Value" "least" "J") gw34) (fun _ h9 => h9) rfl d_O_addition_123 ?_
        refine lv_aload_n hx hb d_O_addition_126 rfl (lv_at hl 2 rfl) ?_
        refine va_get (D := (dC, dI)) (ci := 0) (v := .long (z2.2.2.2.2.1)) (C := R_V) (T := F_V) (N := 7) hx hb hts (fun w h => List.mem_cons_of_mem _ (uw_V w h)) hown hK hP 2 rfl rfl 4 (by decide) (hG (.fieldLink R_O 79 "ValueSieve$Value" "least" "J") gw34) (fun _ h9 => h9) rfl d_O_addition_127 ?_
        refine lv_ladd hx hb d_O_addition_130 ?_
        refine lv_aload_n hx hb d_O_addition_131 rfl (lv_at hl 1 rfl) ?_
        refine va_get (D := (dC, dI)) (ci := 0) (v := .long (z1.2.2.2.2.2.1)) (C := R_V) (T := F_V) (N := 7) hx hb hts (fun w h => List.mem_cons_of_mem _ (uw_V w h)) hown hK hP 1 rfl rfl 5 (by decide) (hG (.fieldLink R_O 85 "ValueSieve$Value" "greatest" "J") gw38) (fun _ h9 => h9) rfl d_O_addition_132 ?_
        refine lv_aload_n hx hb d_O_addition_135 rfl (lv_at hl 2 rfl) ?_
        refine va_get (D := (dC, dI)) (ci := 0) (v := .long (z2.2.2.2.2.2.1)) (C := R_V) (T := F_V) (N := 7) hx hb hts (fun w h => List.mem_cons_of_mem _ (uw_V w h)) hown hK hP 2 rfl rfl 5 (by decide) (hG (.fieldLink R_O 85 "ValueSieve$Value" "greatest" "J") gw38) (fun _ h9 => h9) rfl d_O_addition_136 ?_
        refine lv_ladd hx hb d_O_addition_139 ?_
        refine mg_v (F := f_V_saySigned ((w93_0_0, w93_0_1, w93_0_2, w93_0_3, w93_0_4, w93_0_5, w93_0_6)) (z1.2.2.2.2.1 + z2.2.2.2.2.1) (z1.2.2.2.2.2.1 + z2.2.2.2.2.2.1)) (wc := [(h0, vE ((w93_0_0, w93_0_1, w93_0_2, w93_0_3, w93_0_4, w93_0_5, w93_0_6)))]) (w1 := fun g140 => [(h0, vE g140)]) (wr := [(h1, .inr (0, [.long (z1.1), .long (z1.2.1), .long (z1.2.2.1), .long (z1.2.2.2.1), .long (z1.2.2.2.2.1), .long (z1.2.2.2.2.2.1), .int (bI z1.2.2.2.2.2.2)])), (h2, .inr (0, [.long (z2.1), .long (z2.2.1), .long (z2.2.2.1), .long (z2.2.2.2.1), .long (z2.2.2.2.2.1), .long (z2.2.2.2.2.2.1), .int (bI z2.2.2.2.2.2.2)]))]) (ws' := fun g140 => [(h0, .inr (0, [.long (g140.1), .long (g140.2.1), .long (g140.2.2.1), .long (g140.2.2.2.1), .long (g140.2.2.2.2.1), .long (g140.2.2.2.2.2.1), .int (bI g140.2.2.2.2.2.2)])), (h1, .inr (0, [.long (z1.1), .long (z1.2.1), .long (z1.2.2.1), .long (z1.2.2.2.1), .long (z1.2.2.2.2.1), .long (z1.2.2.2.2.2.1), .int (bI z1.2.2.2.2.2.2)])), (h2, .inr (0, [.long (z2.1), .long (z2.2.1), .long (z2.2.2.1), .long (z2.2.2.2.1), .long (z2.2.2.2.2.1), .long (z2.2.2.2.2.2.1), .int (bI z2.2.2.2.2.2.2)]))]) (va_runV (As := [.long (z1.2.2.2.2.1 + z2.2.2.2.2.1), .long (z1.2.2.2.2.2.1 + z2.2.2.2.2.2.1)]) (rest := []) ⟨hx, hb, hml, hown, hts⟩ (c_V_saySigned l dC dI h0 H.size ((w93_0_0, w93_0_1, w93_0_2, w93_0_3, w93_0_4, w93_0_5, w93_0_6)) (z1.2.2.2.2.1 + z2.2.2.2.2.1) (z1.2.2.2.2.2.1 + z2.2.2.2.2.2.1)) (cwV 2 hts (gV gw197 gw90 gw91 gw1 gw92) rfl rfl rfl (by decide +kernel) ⟨(Nat.le_of_ble_eq_true rfl), (Nat.le_of_ble_eq_true rfl)⟩) ⟨blm, va_recv hK hP (ci := 0) (q0 := 0) rfl rfl, fun U hU hW => ⟨rfl, by rw [hU], by rw [hU]; exact hP.sub [0] rfl, va_K.moved hW.alike hK, (hD.sub [0] (by decide) rfl).weaken (fun _ _ _ _ => trivial)⟩⟩ rfl rfl hl.1 rfl (lv_room (Nat.le_of_ble_eq_true rfl)) d_O_addition_140 ⟨Nat.zero_le _, Nat.zero_le _⟩) hP hD hS hA [0] [1, 2] [2, 0, 1] rfl rfl (by decide) (by decide) (fun _ => rfl) (by decide) (fun g140 eg140 H locs hP hD hS => ?_)
        refine K140g g140 (Eq.trans (hj.trans (by unfold f_O_addition_93; first | with_reducible exact (if_neg e1_143).trans (if_neg e2_143) | exact (if_neg e1_143).trans (if_neg e2_143))) (congrArg (fun g140 => f_O_addition_140g z0 z1 z2 g140) eg140)) H locs ?_ ?_ hS ls (lv_sub hl [] rfl)
        · with_reducible exact hP
        · with_reducible exact hD
  have K90g : ∀ (g90 : VV) (hj : f_O_addition z0 z1 z2 = f_O_addition_90g z0 z1 z2 g90) (H : Heap) (locs : List Loc) (hP : va_P (dC, dI) classes [(h0, .inr (0, [.long (g90.1), .long (g90.2.1), .long (g90.2.2.1), .long (g90.2.2.2.1), .long (g90.2.2.2.2.1), .long (g90.2.2.2.2.2.1), .int (bI g90.2.2.2.2.2.2)])), (h1, .inr (0, [.long (z1.1), .long (z1.2.1), .long (z1.2.2.1), .long (z1.2.2.2.1), .long (z1.2.2.2.2.1), .long (z1.2.2.2.2.2.1), .int (bI z1.2.2.2.2.2.2)])), (h2, .inr (0, [.long (z2.1), .long (z2.2.1), .long (z2.2.2.1), .long (z2.2.2.2.1), .long (z2.2.2.2.2.1), .long (z2.2.2.2.2.2.1), .int (bI z2.2.2.2.2.2.2)]))] H) (hD : va_D A [(h0, .inr (0, [.long (g90.1), .long (g90.2.1), .long (g90.2.2.1), .long (g90.2.2.2.1), .long (g90.2.2.2.2.1), .long (g90.2.2.2.2.2.1), .int (bI g90.2.2.2.2.2.2)])), (h1, .inr (0, [.long (z1.1), .long (z1.2.1), .long (z1.2.2.1), .long (z1.2.2.2.1), .long (z1.2.2.2.2.1), .long (z1.2.2.2.2.2.1), .int (bI z1.2.2.2.2.2.2)])), (h2, .inr (0, [.long (z2.1), .long (z2.2.1), .long (z2.2.2.1), .long (z2.2.2.2.1), .long (z2.2.2.2.2.1), .long (z2.2.2.2.2.2.1), .int (bI z2.2.2.2.2.2.2)]))]) (hS : va_S A s.heap H locs) (ls : Array Slot) (hl : lv_has ls 11 [(0, .ref h0), (1, .ref h1), (2, .ref h2)]), W p l e (headSpec w_O_addition ({ frames := 1, cells := 0, slots := 0, locals := 25 } : Room)).room s m ([.ref h0, .ref h1, .ref h2] : List Value).toArray below meth c H locs 0 0 (MQ below (va_Qv (fun _ : Unit => True) (mB (dC, dI) A [(h0, vE (f_O_addition z0 z1 z2)), (h1, vE z1), (h2, vE z2)]) A) ([.ref h0, .ref h1, .ref h2] : List Value).toArray s 0 0 A) (F0 m 93 ls []) := by
    intro g90 hj H locs hP hD hS ls hl
    refine K93 g90.1 g90.2.1 g90.2.2.1 g90.2.2.2.1 g90.2.2.2.2.1 g90.2.2.2.2.2.1 g90.2.2.2.2.2.2 (hj.trans rfl) H locs ?_ ?_ hS ls (lv_sub hl [0, 1, 2] rfl)
    · with_reducible exact hP
    · with_reducible exact hD
  have K62v : ∀ (v62 : Int64) (v51 : Int64) (g39 : VV) (hj : f_O_addition z0 z1 z2 = f_O_addition_62v z0 z1 z2 v62 v51 g39) (H : Heap) (locs : List Loc) (hP : va_P (dC, dI) classes [(h0, .inr (0, [.long (g39.1), .long (g39.2.1), .long (g39.2.2.1), .long (g39.2.2.2.1), .long (g39.2.2.2.2.1), .long (g39.2.2.2.2.2.1), .int (bI g39.2.2.2.2.2.2)])), (h1, .inr (0, [.long (z1.1), .long (z1.2.1), .long (z1.2.2.1), .long (z1.2.2.2.1), .long (z1.2.2.2.2.1), .long (z1.2.2.2.2.2.1), .int (bI z1.2.2.2.2.2.2)])), (h2, .inr (0, [.long (z2.1), .long (z2.2.1), .long (z2.2.2.1), .long (z2.2.2.2.1), .long (z2.2.2.2.2.1), .long (z2.2.2.2.2.2.1), .int (bI z2.2.2.2.2.2.2)]))] H) (hD : va_D A [(h0, .inr (0, [.long (g39.1), .long (g39.2.1), .long (g39.2.2.1), .long (g39.2.2.2.1), .long (g39.2.2.2.2.1), .long (g39.2.2.2.2.2.1), .int (bI g39.2.2.2.2.2.2)])), (h1, .inr (0, [.long (z1.1), .long (z1.2.1), .long (z1.2.2.1), .long (z1.2.2.2.1), .long (z1.2.2.2.2.1), .long (z1.2.2.2.2.2.1), .int (bI z1.2.2.2.2.2.2)])), (h2, .inr (0, [.long (z2.1), .long (z2.2.1), .long (z2.2.2.1), .long (z2.2.2.2.1), .long (z2.2.2.2.2.1), .long (z2.2.2.2.2.2.1), .int (bI z2.2.2.2.2.2.2)]))]) (hS : va_S A s.heap H locs) (ls : Array Slot) (hl : lv_has ls 11 [(9, .long (v62)), (7, .long (v51)), (0, .ref h0), (1, .ref h1), (2, .ref h2)]), W p l e (headSpec w_O_addition ({ frames := 1, cells := 0, slots := 0, locals := 25 } : Room)).room s m ([.ref h0, .ref h1, .ref h2] : List Value).toArray below meth c H locs 0 0 (MQ below (va_Qv (fun _ : Unit => True) (mB (dC, dI) A [(h0, vE (f_O_addition z0 z1 z2)), (h1, vE z1), (h2, vE z2)]) A) ([.ref h0, .ref h1, .ref h2] : List Value).toArray s 0 0 A) (F0 m 64 ls []) := by
    intro v62 v51 g39 hj H locs hP hD hS ls hl
    refine lv_lload hx hb d_O_addition_64 (lv_at hl 1 rfl) ?_
    refine lv_aload_n hx hb d_O_addition_66 rfl (lv_at hl 3 rfl) ?_
    refine va_get (D := (dC, dI)) (ci := 0) (v := .long (z1.2.2.1)) (C := R_V) (T := F_V) (N := 7) hx hb hts (fun w h => List.mem_cons_of_mem _ (uw_V w h)) hown hK hP 1 rfl rfl 2 (by decide) (hG (.fieldLink R_O 55 "ValueSieve$Value" "low" "J") gw26) (fun _ h9 => h9) rfl d_O_addition_67 ?_
    refine rc_i (W.runS (As := [.long (v51), .long (z1.2.2.1)]) (rest := []) ⟨hx, hb, hml, hown, hts⟩ (c_N_below l v51 z1.2.2.1) (va_cwS 2 hts (gS gw192 gw105 gw2 gw106) rfl rfl rfl (by decide +kernel) ⟨(Nat.le_of_ble_eq_true rfl), (Nat.le_of_ble_eq_true rfl)⟩) ⟨bl0, fun U hU hW => ⟨rfl, trivial⟩⟩ rfl rfl hl.1 rfl (lv_room (Nat.le_of_ble_eq_true rfl)) d_O_addition_70 ⟨Nat.zero_le _, Nat.zero_le _⟩) ?_
    refine lv_lload hx hb d_O_addition_73 (lv_at hl 0 rfl) ?_
    refine lv_aload_n hx hb d_O_addition_75 rfl (lv_at hl 3 rfl) ?_
    refine va_get (D := (dC, dI)) (ci := 0) (v := .long (z1.2.2.2.1)) (C := R_V) (T := F_V) (N := 7) hx hb hts (fun w h => List.mem_cons_of_mem _ (uw_V w h)) hown hK hP 1 rfl rfl 3 (by decide) (hG (.fieldLink R_O 49 "ValueSieve$Value" "high" "J") gw30) (fun _ h9 => h9) rfl d_O_addition_76 ?_
    refine rc_i (W.runS (As := [.long (v62), .long (z1.2.2.2.1)]) (rest := [.int (f_N_below v51 z1.2.2.1)]) ⟨hx, hb, hml, hown, hts⟩ (c_N_below l v62 z1.2.2.2.1) (va_cwS 2 hts (gS gw192 gw105 gw2 gw106) rfl rfl rfl (by decide +kernel) ⟨(Nat.le_of_ble_eq_true rfl), (Nat.le_of_ble_eq_true rfl)⟩) ⟨bl0, fun U hU hW => ⟨rfl, trivial⟩⟩ rfl rfl hl.1 rfl (lv_room (Nat.le_of_ble_eq_true rfl)) d_O_addition_79 ⟨Nat.zero_le _, Nat.zero_le _⟩) ?_
    refine lv_icmp_ne (tgt := 93) hx hb d_O_addition_82 (by decide) (fun e1_93 => ?_) (fun e1_93 => ?_)
    · refine K93 g39.1 g39.2.1 g39.2.2.1 g39.2.2.2.1 g39.2.2.2.2.1 g39.2.2.2.2.2.1 g39.2.2.2.2.2.2 (hj.trans (by unfold f_O_addition_62v; first | with_reducible exact if_neg e1_93 | exact if_neg e1_93)) H locs ?_ ?_ hS ls (lv_sub hl [2, 3, 4] rfl)
      · with_reducible exact hP
      · with_reducible exact hD
    · refine lv_aload_n hx hb d_O_addition_85 rfl (lv_at hl 2 rfl) ?_
      refine lv_lload hx hb d_O_addition_86 (lv_at hl 1 rfl) ?_
      refine lv_lload hx hb d_O_addition_88 (lv_at hl 0 rfl) ?_
      refine mg_v (F := f_V_sayUnsigned g39 v51 v62) (wc := [(h0, vE g39)]) (w1 := fun g90 => [(h0, vE g90)]) (wr := [(h1, .inr (0, [.long (z1.1), .long (z1.2.1), .long (z1.2.2.1), .long (z1.2.2.2.1), .long (z1.2.2.2.2.1), .long (z1.2.2.2.2.2.1), .int (bI z1.2.2.2.2.2.2)])), (h2, .inr (0, [.long (z2.1), .long (z2.2.1), .long (z2.2.2.1), .long (z2.2.2.2.1), .long (z2.2.2.2.2.1), .long (z2.2.2.2.2.2.1), .int (bI z2.2.2.2.2.2.2)]))]) (ws' := fun g90 => [(h0, .inr (0, [.long (g90.1), .long (g90.2.1), .long (g90.2.2.1), .long (g90.2.2.2.1), .long (g90.2.2.2.2.1), .long (g90.2.2.2.2.2.1), .int (bI g90.2.2.2.2.2.2)])), (h1, .inr (0, [.long (z1.1), .long (z1.2.1), .long (z1.2.2.1), .long (z1.2.2.2.1), .long (z1.2.2.2.2.1), .long (z1.2.2.2.2.2.1), .int (bI z1.2.2.2.2.2.2)])), (h2, .inr (0, [.long (z2.1), .long (z2.2.1), .long (z2.2.2.1), .long (z2.2.2.2.1), .long (z2.2.2.2.2.1), .long (z2.2.2.2.2.2.1), .int (bI z2.2.2.2.2.2.2)]))]) (va_runV (As := [.long (v51), .long (v62)]) (rest := []) ⟨hx, hb, hml, hown, hts⟩ (c_V_sayUnsigned l dC dI h0 H.size g39 v51 v62) (cwV 2 hts (gV gw193 gw84 gw85 gw1 gw86) rfl rfl rfl (by decide +kernel) ⟨(Nat.le_of_ble_eq_true rfl), (Nat.le_of_ble_eq_true rfl)⟩) ⟨blm, va_recv hK hP (ci := 0) (q0 := 0) rfl rfl, fun U hU hW => ⟨rfl, by rw [hU], by rw [hU]; exact hP.sub [0] rfl, va_K.moved hW.alike hK, (hD.sub [0] (by decide) rfl).weaken (fun _ _ _ _ => trivial)⟩⟩ rfl rfl hl.1 rfl (lv_room (Nat.le_of_ble_eq_true rfl)) d_O_addition_90 ⟨Nat.zero_le _, Nat.zero_le _⟩) hP hD hS hA [0] [1, 2] [2, 0, 1] rfl rfl (by decide) (by decide) (fun _ => rfl) (by decide) (fun g90 eg90 H locs hP hD hS => ?_)
      refine K90g g90 (Eq.trans (hj.trans (by unfold f_O_addition_62v; first | with_reducible exact if_pos e1_93 | exact if_pos e1_93)) (congrArg (fun g90 => f_O_addition_90g z0 z1 z2 g90) eg90)) H locs ?_ ?_ hS ls (lv_sub hl [2, 3, 4] rfl)
      · with_reducible exact hP
      · with_reducible exact hD
  have K51v : ∀ (v51 : Int64) (g39 : VV) (hj : f_O_addition z0 z1 z2 = f_O_addition_51v z0 z1 z2 v51 g39) (H : Heap) (locs : List Loc) (hP : va_P (dC, dI) classes [(h0, .inr (0, [.long (g39.1), .long (g39.2.1), .long (g39.2.2.1), .long (g39.2.2.2.1), .long (g39.2.2.2.2.1), .long (g39.2.2.2.2.2.1), .int (bI g39.2.2.2.2.2.2)])), (h1, .inr (0, [.long (z1.1), .long (z1.2.1), .long (z1.2.2.1), .long (z1.2.2.2.1), .long (z1.2.2.2.2.1), .long (z1.2.2.2.2.2.1), .int (bI z1.2.2.2.2.2.2)])), (h2, .inr (0, [.long (z2.1), .long (z2.2.1), .long (z2.2.2.1), .long (z2.2.2.2.1), .long (z2.2.2.2.2.1), .long (z2.2.2.2.2.2.1), .int (bI z2.2.2.2.2.2.2)]))] H) (hD : va_D A [(h0, .inr (0, [.long (g39.1), .long (g39.2.1), .long (g39.2.2.1), .long (g39.2.2.2.1), .long (g39.2.2.2.2.1), .long (g39.2.2.2.2.2.1), .int (bI g39.2.2.2.2.2.2)])), (h1, .inr (0, [.long (z1.1), .long (z1.2.1), .long (z1.2.2.1), .long (z1.2.2.2.1), .long (z1.2.2.2.2.1), .long (z1.2.2.2.2.2.1), .int (bI z1.2.2.2.2.2.2)])), (h2, .inr (0, [.long (z2.1), .long (z2.2.1), .long (z2.2.2.1), .long (z2.2.2.2.1), .long (z2.2.2.2.2.1), .long (z2.2.2.2.2.2.1), .int (bI z2.2.2.2.2.2.2)]))]) (hS : va_S A s.heap H locs) (ls : Array Slot) (hl : lv_has ls 11 [(7, .long (v51)), (0, .ref h0), (1, .ref h1), (2, .ref h2)]), W p l e (headSpec w_O_addition ({ frames := 1, cells := 0, slots := 0, locals := 25 } : Room)).room s m ([.ref h0, .ref h1, .ref h2] : List Value).toArray below meth c H locs 0 0 (MQ below (va_Qv (fun _ : Unit => True) (mB (dC, dI) A [(h0, vE (f_O_addition z0 z1 z2)), (h1, vE z1), (h2, vE z2)]) A) ([.ref h0, .ref h1, .ref h2] : List Value).toArray s 0 0 A) (F0 m 53 ls []) := by
    intro v51 g39 hj H locs hP hD hS ls hl
    refine lv_aload_n hx hb d_O_addition_53 rfl (lv_at hl 2 rfl) ?_
    refine va_get (D := (dC, dI)) (ci := 0) (v := .long (z1.2.2.2.1)) (C := R_V) (T := F_V) (N := 7) hx hb hts (fun w h => List.mem_cons_of_mem _ (uw_V w h)) hown hK hP 1 rfl rfl 3 (by decide) (hG (.fieldLink R_O 49 "ValueSieve$Value" "high" "J") gw30) (fun _ h9 => h9) rfl d_O_addition_54 ?_
    refine lv_aload_n hx hb d_O_addition_57 rfl (lv_at hl 3 rfl) ?_
    refine va_get (D := (dC, dI)) (ci := 0) (v := .long (z2.2.2.2.1)) (C := R_V) (T := F_V) (N := 7) hx hb hts (fun w h => List.mem_cons_of_mem _ (uw_V w h)) hown hK hP 2 rfl rfl 3 (by decide) (hG (.fieldLink R_O 49 "ValueSieve$Value" "high" "J") gw30) (fun _ h9 => h9) rfl d_O_addition_58 ?_
    refine lv_ladd hx hb d_O_addition_61 ?_
    refine lv_topl (fun v62 ev62 => ?_)
    refine lv_lstore (lv' := [(9, .long (v62)), (7, .long (v51)), (0, .ref h0), (1, .ref h1), (2, .ref h2)]) hx hb d_O_addition_62 hl (by decide) rfl (fun ls hl => ?_)
    refine K62v v62 v51 g39 (Eq.trans (hj.trans rfl) (congrArg (fun v62 => f_O_addition_62v z0 z1 z2 v62 v51 g39) ev62.symm)) H locs ?_ ?_ hS ls (lv_sub hl [0, 1, 2, 3, 4] rfl)
    · with_reducible exact hP
    · with_reducible exact hD
  have K39g : ∀ (g39 : VV) (hj : f_O_addition z0 z1 z2 = f_O_addition_39g z0 z1 z2 g39) (H : Heap) (locs : List Loc) (hP : va_P (dC, dI) classes [(h0, .inr (0, [.long (g39.1), .long (g39.2.1), .long (g39.2.2.1), .long (g39.2.2.2.1), .long (g39.2.2.2.2.1), .long (g39.2.2.2.2.2.1), .int (bI g39.2.2.2.2.2.2)])), (h1, .inr (0, [.long (z1.1), .long (z1.2.1), .long (z1.2.2.1), .long (z1.2.2.2.1), .long (z1.2.2.2.2.1), .long (z1.2.2.2.2.2.1), .int (bI z1.2.2.2.2.2.2)])), (h2, .inr (0, [.long (z2.1), .long (z2.2.1), .long (z2.2.2.1), .long (z2.2.2.2.1), .long (z2.2.2.2.2.1), .long (z2.2.2.2.2.2.1), .int (bI z2.2.2.2.2.2.2)]))] H) (hD : va_D A [(h0, .inr (0, [.long (g39.1), .long (g39.2.1), .long (g39.2.2.1), .long (g39.2.2.2.1), .long (g39.2.2.2.2.1), .long (g39.2.2.2.2.2.1), .int (bI g39.2.2.2.2.2.2)])), (h1, .inr (0, [.long (z1.1), .long (z1.2.1), .long (z1.2.2.1), .long (z1.2.2.2.1), .long (z1.2.2.2.2.1), .long (z1.2.2.2.2.2.1), .int (bI z1.2.2.2.2.2.2)])), (h2, .inr (0, [.long (z2.1), .long (z2.2.1), .long (z2.2.2.1), .long (z2.2.2.2.1), .long (z2.2.2.2.2.1), .long (z2.2.2.2.2.2.1), .int (bI z2.2.2.2.2.2.2)]))]) (hS : va_S A s.heap H locs) (ls : Array Slot) (hl : lv_has ls 11 [(0, .ref h0), (1, .ref h1), (2, .ref h2)]), W p l e (headSpec w_O_addition ({ frames := 1, cells := 0, slots := 0, locals := 25 } : Room)).room s m ([.ref h0, .ref h1, .ref h2] : List Value).toArray below meth c H locs 0 0 (MQ below (va_Qv (fun _ : Unit => True) (mB (dC, dI) A [(h0, vE (f_O_addition z0 z1 z2)), (h1, vE z1), (h2, vE z2)]) A) ([.ref h0, .ref h1, .ref h2] : List Value).toArray s 0 0 A) (F0 m 42 ls []) := by
    intro g39 hj H locs hP hD hS ls hl
    refine lv_aload_n hx hb d_O_addition_42 rfl (lv_at hl 1 rfl) ?_
    refine va_get (D := (dC, dI)) (ci := 0) (v := .long (z1.2.2.1)) (C := R_V) (T := F_V) (N := 7) hx hb hts (fun w h => List.mem_cons_of_mem _ (uw_V w h)) hown hK hP 1 rfl rfl 2 (by decide) (hG (.fieldLink R_O 55 "ValueSieve$Value" "low" "J") gw26) (fun _ h9 => h9) rfl d_O_addition_43 ?_
    refine lv_aload_n hx hb d_O_addition_46 rfl (lv_at hl 2 rfl) ?_
    refine va_get (D := (dC, dI)) (ci := 0) (v := .long (z2.2.2.1)) (C := R_V) (T := F_V) (N := 7) hx hb hts (fun w h => List.mem_cons_of_mem _ (uw_V w h)) hown hK hP 2 rfl rfl 2 (by decide) (hG (.fieldLink R_O 55 "ValueSieve$Value" "low" "J") gw26) (fun _ h9 => h9) rfl d_O_addition_47 ?_
    refine lv_ladd hx hb d_O_addition_50 ?_
    refine lv_topl (fun v51 ev51 => ?_)
    refine lv_lstore (lv' := [(7, .long (v51)), (0, .ref h0), (1, .ref h1), (2, .ref h2)]) hx hb d_O_addition_51 hl (by decide) rfl (fun ls hl => ?_)
    refine K51v v51 g39 (Eq.trans (hj.trans rfl) (congrArg (fun v51 => f_O_addition_51v z0 z1 z2 v51 g39) ev51.symm)) H locs ?_ ?_ hS ls (lv_sub hl [0, 1, 2, 3] rfl)
    · with_reducible exact hP
    · with_reducible exact hD
  have K21v : ∀ (v21 : Int64) (v9 : Int64) (hj : f_O_addition z0 z1 z2 = f_O_addition_21v z0 z1 z2 v21 v9) (H : Heap) (locs : List Loc) (hP : va_P (dC, dI) classes [(h0, .inr (0, [.long (z0.1), .long (z0.2.1), .long (z0.2.2.1), .long (z0.2.2.2.1), .long (z0.2.2.2.2.1), .long (z0.2.2.2.2.2.1), .int (bI z0.2.2.2.2.2.2)])), (h1, .inr (0, [.long (z1.1), .long (z1.2.1), .long (z1.2.2.1), .long (z1.2.2.2.1), .long (z1.2.2.2.2.1), .long (z1.2.2.2.2.2.1), .int (bI z1.2.2.2.2.2.2)])), (h2, .inr (0, [.long (z2.1), .long (z2.2.1), .long (z2.2.2.1), .long (z2.2.2.2.1), .long (z2.2.2.2.2.1), .long (z2.2.2.2.2.2.1), .int (bI z2.2.2.2.2.2.2)]))] H) (hD : va_D A [(h0, .inr (0, [.long (z0.1), .long (z0.2.1), .long (z0.2.2.1), .long (z0.2.2.2.1), .long (z0.2.2.2.2.1), .long (z0.2.2.2.2.2.1), .int (bI z0.2.2.2.2.2.2)])), (h1, .inr (0, [.long (z1.1), .long (z1.2.1), .long (z1.2.2.1), .long (z1.2.2.2.1), .long (z1.2.2.2.2.1), .long (z1.2.2.2.2.2.1), .int (bI z1.2.2.2.2.2.2)])), (h2, .inr (0, [.long (z2.1), .long (z2.2.1), .long (z2.2.2.1), .long (z2.2.2.2.1), .long (z2.2.2.2.2.1), .long (z2.2.2.2.2.2.1), .int (bI z2.2.2.2.2.2.2)]))]) (hS : va_S A s.heap H locs) (ls : Array Slot) (hl : lv_has ls 11 [(5, .long (v21)), (3, .long (v9)), (0, .ref h0), (1, .ref h1), (2, .ref h2)]), W p l e (headSpec w_O_addition ({ frames := 1, cells := 0, slots := 0, locals := 25 } : Room)).room s m ([.ref h0, .ref h1, .ref h2] : List Value).toArray below meth c H locs 0 0 (MQ below (va_Qv (fun _ : Unit => True) (mB (dC, dI) A [(h0, vE (f_O_addition z0 z1 z2)), (h1, vE z1), (h2, vE z2)]) A) ([.ref h0, .ref h1, .ref h2] : List Value).toArray s 0 0 A) (F0 m 23 ls []) := by
    intro v21 v9 hj H locs hP hD hS ls hl
    refine lv_aload_n hx hb d_O_addition_23 rfl (lv_at hl 2 rfl) ?_
    refine lv_lload_n hx hb d_O_addition_24 rfl (lv_at hl 1 rfl) ?_
    refine lv_lload_n hx hb d_O_addition_25 rfl (lv_at hl 1 rfl) ?_
    refine lv_lload hx hb d_O_addition_26 (lv_at hl 0 rfl) ?_
    refine lv_lxor hx hb d_O_addition_28 ?_
    refine lv_aload_n hx hb d_O_addition_29 rfl (lv_at hl 3 rfl) ?_
    refine va_get (D := (dC, dI)) (ci := 0) (v := .long (z1.2.1)) (C := R_V) (T := F_V) (N := 7) hx hb hts (fun w h => List.mem_cons_of_mem _ (uw_V w h)) hown hK hP 1 rfl rfl 1 (by decide) (hG (.fieldLink R_O 40 "ValueSieve$Value" "unknown" "J") gw22) (fun _ h9 => h9) rfl d_O_addition_30 ?_
    refine lv_lor hx hb d_O_addition_33 ?_
    refine lv_aload_n hx hb d_O_addition_34 rfl (lv_at hl 4 rfl) ?_
    refine va_get (D := (dC, dI)) (ci := 0) (v := .long (z2.2.1)) (C := R_V) (T := F_V) (N := 7) hx hb hts (fun w h => List.mem_cons_of_mem _ (uw_V w h)) hown hK hP 2 rfl rfl 1 (by decide) (hG (.fieldLink R_O 40 "ValueSieve$Value" "unknown" "J") gw22) (fun _ h9 => h9) rfl d_O_addition_35 ?_
    refine lv_lor hx hb d_O_addition_38 ?_
    refine mg_v (F := f_V_sayBits z0 v9 (((v9 ^^^ v21) ||| z1.2.1) ||| z2.2.1)) (wc := [(h0, vE z0)]) (w1 := fun g39 => [(h0, vE g39)]) (wr := [(h1, .inr (0, [.long (z1.1), .long (z1.2.1), .long (z1.2.2.1), .long (z1.2.2.2.1), .long (z1.2.2.2.2.1), .long (z1.2.2.2.2.2.1), .int (bI z1.2.2.2.2.2.2)])), (h2, .inr (0, [.long (z2.1), .long (z2.2.1), .long (z2.2.2.1), .long (z2.2.2.2.1), .long (z2.2.2.2.2.1), .long (z2.2.2.2.2.2.1), .int (bI z2.2.2.2.2.2.2)]))]) (ws' := fun g39 => [(h0, .inr (0, [.long (g39.1), .long (g39.2.1), .long (g39.2.2.1), .long (g39.2.2.2.1), .long (g39.2.2.2.2.1), .long (g39.2.2.2.2.2.1), .int (bI g39.2.2.2.2.2.2)])), (h1, .inr (0, [.long (z1.1), .long (z1.2.1), .long (z1.2.2.1), .long (z1.2.2.2.1), .long (z1.2.2.2.2.1), .long (z1.2.2.2.2.2.1), .int (bI z1.2.2.2.2.2.2)])), (h2, .inr (0, [.long (z2.1), .long (z2.2.1), .long (z2.2.2.1), .long (z2.2.2.2.1), .long (z2.2.2.2.2.1), .long (z2.2.2.2.2.2.1), .int (bI z2.2.2.2.2.2.2)]))]) (va_runV (As := [.long (v9), .long (((v9 ^^^ v21) ||| z1.2.1) ||| z2.2.1)]) (rest := []) ⟨hx, hb, hml, hown, hts⟩ (c_V_sayBits l dC dI h0 H.size z0 v9 (((v9 ^^^ v21) ||| z1.2.1) ||| z2.2.1)) (cwV 2 hts (gV gw191 gw80 gw81 gw1 gw82) rfl rfl rfl (by decide +kernel) ⟨(Nat.le_of_ble_eq_true rfl), (Nat.le_of_ble_eq_true rfl)⟩) ⟨blm, va_recv hK hP (ci := 0) (q0 := 0) rfl rfl, fun U hU hW => ⟨rfl, by rw [hU], by rw [hU]; exact hP.sub [0] rfl, va_K.moved hW.alike hK, (hD.sub [0] (by decide) rfl).weaken (fun _ _ _ _ => trivial)⟩⟩ rfl rfl hl.1 rfl (lv_room (Nat.le_of_ble_eq_true rfl)) d_O_addition_39 ⟨Nat.zero_le _, Nat.zero_le _⟩) hP hD hS hA [0] [1, 2] [2, 0, 1] rfl rfl (by decide) (by decide) (fun _ => rfl) (by decide) (fun g39 eg39 H locs hP hD hS => ?_)
    refine K39g g39 (Eq.trans (hj.trans rfl) (congrArg (fun g39 => f_O_addition_39g z0 z1 z2 g39) eg39)) H locs ?_ ?_ hS ls (lv_sub hl [2, 3, 4] rfl)
    · with_reducible exact hP
    · with_reducible exact hD
  have K9v : ∀ (v9 : Int64) (hj : f_O_addition z0 z1 z2 = f_O_addition_9v z0 z1 z2 v9) (H : Heap) (locs : List Loc) (hP : va_P (dC, dI) classes [(h0, .inr (0, [.long (z0.1), .long (z0.2.1), .long (z0.2.2.1), .long (z0.2.2.2.1), .long (z0.2.2.2.2.1), .long (z0.2.2.2.2.2.1), .int (bI z0.2.2.2.2.2.2)])), (h1, .inr (0, [.long (z1.1), .long (z1.2.1), .long (z1.2.2.1), .long (z1.2.2.2.1), .long (z1.2.2.2.2.1), .long (z1.2.2.2.2.2.1), .int (bI z1.2.2.2.2.2.2)])), (h2, .inr (0, [.long (z2.1), .long (z2.2.1), .long (z2.2.2.1), .long (z2.2.2.2.1), .long (z2.2.2.2.2.1), .long (z2.2.2.2.2.2.1), .int (bI z2.2.2.2.2.2.2)]))] H) (hD : va_D A [(h0, .inr (0, [.long (z0.1), .long (z0.2.1), .long (z0.2.2.1), .long (z0.2.2.2.1), .long (z0.2.2.2.2.1), .long (z0.2.2.2.2.2.1), .int (bI z0.2.2.2.2.2.2)])), (h1, .inr (0, [.long (z1.1), .long (z1.2.1), .long (z1.2.2.1), .long (z1.2.2.2.1), .long (z1.2.2.2.2.1), .long (z1.2.2.2.2.2.1), .int (bI z1.2.2.2.2.2.2)])), (h2, .inr (0, [.long (z2.1), .long (z2.2.1), .long (z2.2.2.1), .long (z2.2.2.2.1), .long (z2.2.2.2.2.1), .long (z2.2.2.2.2.2.1), .int (bI z2.2.2.2.2.2.2)]))]) (hS : va_S A s.heap H locs) (ls : Array Slot) (hl : lv_has ls 11 [(3, .long (v9)), (0, .ref h0), (1, .ref h1), (2, .ref h2)]), W p l e (headSpec w_O_addition ({ frames := 1, cells := 0, slots := 0, locals := 25 } : Room)).room s m ([.ref h0, .ref h1, .ref h2] : List Value).toArray below meth c H locs 0 0 (MQ below (va_Qv (fun _ : Unit => True) (mB (dC, dI) A [(h0, vE (f_O_addition z0 z1 z2)), (h1, vE z1), (h2, vE z2)]) A) ([.ref h0, .ref h1, .ref h2] : List Value).toArray s 0 0 A) (F0 m 10 ls []) := by
    intro v9 hj H locs hP hD hS ls hl
    refine lv_lload_n hx hb d_O_addition_10 rfl (lv_at hl 0 rfl) ?_
    refine lv_aload_n hx hb d_O_addition_11 rfl (lv_at hl 2 rfl) ?_
    refine va_get (D := (dC, dI)) (ci := 0) (v := .long (z1.2.1)) (C := R_V) (T := F_V) (N := 7) hx hb hts (fun w h => List.mem_cons_of_mem _ (uw_V w h)) hown hK hP 1 rfl rfl 1 (by decide) (hG (.fieldLink R_O 40 "ValueSieve$Value" "unknown" "J") gw22) (fun _ h9 => h9) rfl d_O_addition_12 ?_
    refine lv_ladd hx hb d_O_addition_15 ?_
    refine lv_aload_n hx hb d_O_addition_16 rfl (lv_at hl 3 rfl) ?_
    refine va_get (D := (dC, dI)) (ci := 0) (v := .long (z2.2.1)) (C := R_V) (T := F_V) (N := 7) hx hb hts (fun w h => List.mem_cons_of_mem _ (uw_V w h)) hown hK hP 2 rfl rfl 1 (by decide) (hG (.fieldLink R_O 40 "ValueSieve$Value" "unknown" "J") gw22) (fun _ h9 => h9) rfl d_O_addition_17 ?_
    refine lv_ladd hx hb d_O_addition_20 ?_
    refine lv_topl (fun v21 ev21 => ?_)
    refine lv_lstore (lv' := [(5, .long (v21)), (3, .long (v9)), (0, .ref h0), (1, .ref h1), (2, .ref h2)]) hx hb d_O_addition_21 hl (by decide) rfl (fun ls hl => ?_)
    refine K21v v21 v9 (Eq.trans (hj.trans rfl) (congrArg (fun v21 => f_O_addition_21v z0 z1 z2 v21 v9) ev21.symm)) H locs ?_ ?_ hS ls (lv_sub hl [0, 1, 2, 3, 4] rfl)
    · with_reducible exact hP
    · with_reducible exact hD
  refine lv_aload_n hx hb d_O_addition_0 rfl (lv_at hl 1 rfl) ?_
  refine va_get (D := (dC, dI)) (ci := 0) (v := .long (z1.1)) (C := R_V) (T := F_V) (N := 7) hx hb hts (fun w h => List.mem_cons_of_mem _ (uw_V w h)) hown hK hP 1 rfl rfl 0 (by decide) (hG (.fieldLink R_O 36 "ValueSieve$Value" "bits" "J") gw19) (fun _ h9 => h9) rfl d_O_addition_1 ?_
  refine lv_aload_n hx hb d_O_addition_4 rfl (lv_at hl 2 rfl) ?_
  refine va_get (D := (dC, dI)) (ci := 0) (v := .long (z2.1)) (C := R_V) (T := F_V) (N := 7) hx hb hts (fun w h => List.mem_cons_of_mem _ (uw_V w h)) hown hK hP 2 rfl rfl 0 (by decide) (hG (.fieldLink R_O 36 "ValueSieve$Value" "bits" "J") gw19) (fun _ h9 => h9) rfl d_O_addition_5 ?_
  refine lv_ladd hx hb d_O_addition_8 ?_
  refine lv_topl (fun v9 ev9 => ?_)
  refine lv_lstore_n (lv' := [(3, .long (v9)), (0, .ref h0), (1, .ref h1), (2, .ref h2)]) hx hb d_O_addition_9 rfl hl (by decide) rfl (fun ls hl => ?_)
  refine K9v v9 (Eq.trans (rfl) (congrArg (fun v9 => f_O_addition_9v z0 z1 z2 v9) ev9.symm)) s.heap [] ?_ ?_ hS ls (lv_sub hl [0, 1, 2, 3] rfl)
  · with_reducible exact hP
  · with_reducible exact hD
-- ValueSieve$Operations.subtraction
theorem d_O_subtraction_0 : decode b_O_subtraction 0 = .ok (.aload_n 1, 1) := by decide +kernel
theorem d_O_subtraction_1 : decode b_O_subtraction 1 = .ok (.getfield 36, 3) := by decide +kernel
theorem d_O_subtraction_4 : decode b_O_subtraction 4 = .ok (.aload_n 2, 1) := by decide +kernel
theorem d_O_subtraction_5 : decode b_O_subtraction 5 = .ok (.getfield 36, 3) := by decide +kernel
theorem d_O_subtraction_8 : decode b_O_subtraction 8 = .ok (.lsub, 1) := by decide +kernel
theorem d_O_subtraction_9 : decode b_O_subtraction 9 = .ok (.lstore_n 3, 1) := by decide +kernel
theorem d_O_subtraction_10 : decode b_O_subtraction 10 = .ok (.lload_n 3, 1) := by decide +kernel
theorem d_O_subtraction_11 : decode b_O_subtraction 11 = .ok (.aload_n 1, 1) := by decide +kernel
theorem d_O_subtraction_12 : decode b_O_subtraction 12 = .ok (.getfield 40, 3) := by decide +kernel
theorem d_O_subtraction_15 : decode b_O_subtraction 15 = .ok (.ladd, 1) := by decide +kernel
theorem d_O_subtraction_16 : decode b_O_subtraction 16 = .ok (.lload_n 3, 1) := by decide +kernel
theorem d_O_subtraction_17 : decode b_O_subtraction 17 = .ok (.aload_n 2, 1) := by decide +kernel
theorem d_O_subtraction_18 : decode b_O_subtraction 18 = .ok (.getfield 40, 3) := by decide +kernel
theorem d_O_subtraction_21 : decode b_O_subtraction 21 = .ok (.lsub, 1) := by decide +kernel
theorem d_O_subtraction_22 : decode b_O_subtraction 22 = .ok (.lxor, 1) := by decide +kernel
theorem d_O_subtraction_23 : decode b_O_subtraction 23 = .ok (.lstore 5, 2) := by decide +kernel
theorem d_O_subtraction_25 : decode b_O_subtraction 25 = .ok (.aload_n 0, 1) := by decide +kernel
theorem d_O_subtraction_26 : decode b_O_subtraction 26 = .ok (.lload_n 3, 1) := by decide +kernel
theorem d_O_subtraction_27 : decode b_O_subtraction 27 = .ok (.lload 5, 2) := by decide +kernel
theorem d_O_subtraction_29 : decode b_O_subtraction 29 = .ok (.aload_n 1, 1) := by decide +kernel
theorem d_O_subtraction_30 : decode b_O_subtraction 30 = .ok (.getfield 40, 3) := by decide +kernel
theorem d_O_subtraction_33 : decode b_O_subtraction 33 = .ok (.lor, 1) := by decide +kernel
theorem d_O_subtraction_34 : decode b_O_subtraction 34 = .ok (.aload_n 2, 1) := by decide +kernel
theorem d_O_subtraction_35 : decode b_O_subtraction 35 = .ok (.getfield 40, 3) := by decide +kernel
theorem d_O_subtraction_38 : decode b_O_subtraction 38 = .ok (.lor, 1) := by decide +kernel
theorem d_O_subtraction_39 : decode b_O_subtraction 39 = .ok (.invokevirtual 45, 3) := by decide +kernel
theorem d_O_subtraction_42 : decode b_O_subtraction 42 = .ok (.aload_n 1, 1) := by decide +kernel
theorem d_O_subtraction_43 : decode b_O_subtraction 43 = .ok (.getfield 55, 3) := by decide +kernel
theorem d_O_subtraction_46 : decode b_O_subtraction 46 = .ok (.aload_n 2, 1) := by decide +kernel
theorem d_O_subtraction_47 : decode b_O_subtraction 47 = .ok (.getfield 49, 3) := by decide +kernel
theorem d_O_subtraction_50 : decode b_O_subtraction 50 = .ok (.invokestatic 72, 3) := by decide +kernel
theorem d_O_subtraction_53 : decode b_O_subtraction 53 = .ok (.aload_n 1, 1) := by decide +kernel
theorem d_O_subtraction_54 : decode b_O_subtraction 54 = .ok (.getfield 49, 3) := by decide +kernel
theorem d_O_subtraction_57 : decode b_O_subtraction 57 = .ok (.aload_n 2, 1) := by decide +kernel
theorem d_O_subtraction_58 : decode b_O_subtraction 58 = .ok (.getfield 55, 3) := by decide +kernel
theorem d_O_subtraction_61 : decode b_O_subtraction 61 = .ok (.invokestatic 72, 3) := by decide +kernel
theorem d_O_subtraction_64 : decode b_O_subtraction 64 = .ok (.if_icmp .ne 25, 3) := by decide +kernel
theorem d_O_subtraction_67 : decode b_O_subtraction 67 = .ok (.aload_n 0, 1) := by decide +kernel
theorem d_O_subtraction_68 : decode b_O_subtraction 68 = .ok (.aload_n 1, 1) := by decide +kernel
theorem d_O_subtraction_69 : decode b_O_subtraction 69 = .ok (.getfield 55, 3) := by decide +kernel
theorem d_O_subtraction_72 : decode b_O_subtraction 72 = .ok (.aload_n 2, 1) := by decide +kernel
theorem d_O_subtraction_73 : decode b_O_subtraction 73 = .ok (.getfield 49, 3) := by decide +kernel
theorem d_O_subtraction_76 : decode b_O_subtraction 76 = .ok (.lsub, 1) := by decide +kernel
theorem d_O_subtraction_77 : decode b_O_subtraction 77 = .ok (.aload_n 1, 1) := by decide +kernel
theorem d_O_subtraction_78 : decode b_O_subtraction 78 = .ok (.getfield 49, 3) := by decide +kernel
theorem d_O_subtraction_81 : decode b_O_subtraction 81 = .ok (.aload_n 2, 1) := by decide +kernel
theorem d_O_subtraction_82 : decode b_O_subtraction 82 = .ok (.getfield 55, 3) := by decide +kernel
theorem d_O_subtraction_85 : decode b_O_subtraction 85 = .ok (.lsub, 1) := by decide +kernel
theorem d_O_subtraction_86 : decode b_O_subtraction 86 = .ok (.invokevirtual 76, 3) := by decide +kernel
theorem d_O_subtraction_89 : decode b_O_subtraction 89 = .ok (.aload_n 1, 1) := by decide +kernel
theorem d_O_subtraction_90 : decode b_O_subtraction 90 = .ok (.getfield 79, 3) := by decide +kernel
theorem d_O_subtraction_93 : decode b_O_subtraction 93 = .ok (.aload_n 2, 1) := by decide +kernel
theorem d_O_subtraction_94 : decode b_O_subtraction 94 = .ok (.getfield 85, 3) := by decide +kernel
theorem d_O_subtraction_97 : decode b_O_subtraction 97 = .ok (.invokestatic 91, 3) := by decide +kernel
theorem d_O_subtraction_100 : decode b_O_subtraction 100 = .ok (.ifCond .eq 39, 3) := by decide +kernel
theorem d_O_subtraction_103 : decode b_O_subtraction 103 = .ok (.aload_n 1, 1) := by decide +kernel
theorem d_O_subtraction_104 : decode b_O_subtraction 104 = .ok (.getfield 85, 3) := by decide +kernel
theorem d_O_subtraction_107 : decode b_O_subtraction 107 = .ok (.aload_n 2, 1) := by decide +kernel
theorem d_O_subtraction_108 : decode b_O_subtraction 108 = .ok (.getfield 79, 3) := by decide +kernel
theorem d_O_subtraction_111 : decode b_O_subtraction 111 = .ok (.invokestatic 91, 3) := by decide +kernel
theorem d_O_subtraction_114 : decode b_O_subtraction 114 = .ok (.ifCond .eq 25, 3) := by decide +kernel
theorem d_O_subtraction_117 : decode b_O_subtraction 117 = .ok (.aload_n 0, 1) := by decide +kernel
theorem d_O_subtraction_118 : decode b_O_subtraction 118 = .ok (.aload_n 1, 1) := by decide +kernel
theorem d_O_subtraction_119 : decode b_O_subtraction 119 = .ok (.getfield 79, 3) := by decide +kernel
theorem d_O_subtraction_122 : decode b_O_subtraction 122 = .ok (.aload_n 2, 1) := by decide +kernel
theorem d_O_subtraction_123 : decode b_O_subtraction 123 = .ok (.getfield 85, 3) := by decide +kernel
theorem d_O_subtraction_126 : decode b_O_subtraction 126 = .ok (.lsub, 1) := by decide +kernel
theorem d_O_subtraction_127 : decode b_O_subtraction 127 = .ok (.aload_n 1, 1) := by decide +kernel
theorem d_O_subtraction_128 : decode b_O_subtraction 128 = .ok (.getfield 85, 3) := by decide +kernel
theorem d_O_subtraction_131 : decode b_O_subtraction 131 = .ok (.aload_n 2, 1) := by decide +kernel
theorem d_O_subtraction_132 : decode b_O_subtraction 132 = .ok (.getfield 79, 3) := by decide +kernel
theorem d_O_subtraction_135 : decode b_O_subtraction 135 = .ok (.lsub, 1) := by decide +kernel
theorem d_O_subtraction_136 : decode b_O_subtraction 136 = .ok (.invokevirtual 88, 3) := by decide +kernel
theorem d_O_subtraction_139 : decode b_O_subtraction 139 = .ok (.return_, 1) := by decide +kernel
def f_O_subtraction_136g (z0 : VV) (z1 : VV) (z2 : VV) (g136 : VV) : VV := g136
def f_O_subtraction_89 (z0 : VV) (z1 : VV) (z2 : VV) (w89_0_0 : Int64) (w89_0_1 : Int64) (w89_0_2 : Int64) (w89_0_3 : Int64) (w89_0_4 : Int64) (w89_0_5 : Int64) (w89_0_6 : Bool) : VV := (if (f_N_differenceFits z1.2.2.2.2.1 z2.2.2.2.2.2.1) = 0 then ((w89_0_0, w89_0_1, w89_0_2, w89_0_3, w89_0_4, w89_0_5, w89_0_6)) else (if (f_N_differenceFits z1.2.2.2.2.2.1 z2.2.2.2.2.1) = 0 then ((w89_0_0, w89_0_1, w89_0_2, w89_0_3, w89_0_4, w89_0_5, w89_0_6)) else f_O_subtraction_136g z0 z1 z2 (f_V_saySigned ((w89_0_0, w89_0_1, w89_0_2, w89_0_3, w89_0_4, w89_0_5, w89_0_6)) (z1.2.2.2.2.1 - z2.2.2.2.2.2.1) (z1.2.2.2.2.2.1 - z2.2.2.2.2.1))))
def f_O_subtraction_86g (z0 : VV) (z1 : VV) (z2 : VV) (g86 : VV) : VV := f_O_subtraction_89 z0 z1 z2 g86.1 g86.2.1 g86.2.2.1 g86.2.2.2.1 g86.2.2.2.2.1 g86.2.2.2.2.2.1 g86.2.2.2.2.2.2
def f_O_subtraction_39g (z0 : VV) (z1 : VV) (z2 : VV) (g39 : VV) : VV := (if (f_N_below z1.2.2.1 z2.2.2.2.1) = (f_N_below z1.2.2.2.1 z2.2.2.1) then f_O_subtraction_86g z0 z1 z2 (f_V_sayUnsigned g39 (z1.2.2.1 - z2.2.2.2.1) (z1.2.2.2.1 - z2.2.2.1)) else f_O_subtraction_89 z0 z1 z2 g39.1 g39.2.1 g39.2.2.1 g39.2.2.2.1 g39.2.2.2.2.1 g39.2.2.2.2.2.1 g39.2.2.2.2.2.2)
def f_O_subtraction_23v (z0 : VV) (z1 : VV) (z2 : VV) (v23 : Int64) (v9 : Int64) : VV := f_O_subtraction_39g z0 z1 z2 (f_V_sayBits z0 v9 ((v23 ||| z1.2.1) ||| z2.2.1))
def f_O_subtraction_9v (z0 : VV) (z1 : VV) (z2 : VV) (v9 : Int64) : VV := f_O_subtraction_23v z0 z1 z2 ((v9 + z1.2.1) ^^^ (v9 - z2.2.1)) v9
def f_O_subtraction (z0 : VV) (z1 : VV) (z2 : VV) : VV := f_O_subtraction_9v z0 z1 z2 (z1.1 - z2.1)
set_option maxRecDepth 100000 in
set_option maxHeartbeats 4000000 in
theorem c_O_subtraction (l : Launch) (dC : Nat → ClassId) (dI : Nat → Nat → Nat) (h0 : Nat) (h1 : Nat) (h2 : Nat) (sz : Nat) (z0 : VV) (z1 : VV) (z2 : VV) : Met l y_O_subtraction w_O_subtraction ({ frames := 1, cells := 0, slots := 0, locals := 25 } : Room) (va_Pc [.ref h0, .ref h1, .ref h2] (mP (dC, dI) [(h0, vE z0), (h1, vE z1), (h2, vE z2)] sz)) (va_Qv (fun _ : Unit => True) (mB (dC, dI) (va_A [(h0, vE z0), (h1, vE z1), (h2, vE z2)] sz) [(h0, vE (f_O_subtraction z0 z1 z2)), (h1, vE z1), (h2, vE z2)]) (va_A [(h0, vE z0), (h1, vE z1), (h2, vE z2)] sz)) 0 0 (va_A [(h0, vE z0), (h1, vE z1), (h2, vE z2)] sz) := by
  refine Met.ofW (cc := b_O_subtraction) (maxL := 7) (ret := none) (by decide) rfl ?_
  intro p e s m args below meth c s₁ B hml hv
  obtain ⟨rfl, hsz, hP, hK, hD0⟩ := hv
  have hx := B.exec
  have hb := B.bytes
  have hr := B.returns
  have hts := atoms_spec (ws := w_O_subtraction) B.pre
  have hG : ∀ w ∈ gG, w.before _ s = true := fun w h => hts w (List.mem_cons_of_mem _ h)
  have hown : s.vm.findClass R_O = some m.cls := findClass_of_methodNamed B.named
  have hlocks := B.notSynchronized
  subst hsz
  have hD := hD0.self (sz := s.heap.size)
  generalize hAe : va_A [(h0, vE z0), (h1, vE z1), (h2, vE z2)] s.heap.size = A at hD ⊢
  have hA : ∀ q : Nat, s.heap.size ≤ q → A q := fun q h => by rw [← hAe]; exact Or.inr h
  have hS : va_S A s.heap s.heap [] := va_S.rf
  have hP : va_P (dC, dI) classes [(h0, .inr (0, [.long (z0.1), .long (z0.2.1), .long (z0.2.2.1), .long (z0.2.2.2.1), .long (z0.2.2.2.2.1), .long (z0.2.2.2.2.2.1), .int (bI z0.2.2.2.2.2.2)])), (h1, .inr (0, [.long (z1.1), .long (z1.2.1), .long (z1.2.2.1), .long (z1.2.2.2.1), .long (z1.2.2.2.2.1), .long (z1.2.2.2.2.2.1), .int (bI z1.2.2.2.2.2.2)])), (h2, .inr (0, [.long (z2.1), .long (z2.2.1), .long (z2.2.2.1), .long (z2.2.2.2.1), .long (z2.2.2.2.2.1), .long (z2.2.2.2.2.2.1), .int (bI z2.2.2.2.2.2.2)]))] s.heap := hP
  have hD : va_D A [(h0, .inr (0, [.long (z0.1), .long (z0.2.1), .long (z0.2.2.1), .long (z0.2.2.2.1), .long (z0.2.2.2.2.1), .long (z0.2.2.2.2.2.1), .int (bI z0.2.2.2.2.2.2)])), (h1, .inr (0, [.long (z1.1), .long (z1.2.1), .long (z1.2.2.1), .long (z1.2.2.2.1), .long (z1.2.2.2.2.1), .long (z1.2.2.2.2.2.1), .int (bI z1.2.2.2.2.2.2)])), (h2, .inr (0, [.long (z2.1), .long (z2.2.1), .long (z2.2.2.1), .long (z2.2.2.2.1), .long (z2.2.2.2.2.1), .long (z2.2.2.2.2.2.1), .int (bI z2.2.2.2.2.2.2)]))] := hD
  have hl := lv_entry ([.ref h0, .ref h1, .ref h2]) (n := 7) (Nat.le_of_ble_eq_true rfl)
  rw [lg_entry_eq]
  generalize (lg_sl ([.ref h0, .ref h1, .ref h2]) ++ List.replicate (7 - (lg_sl ([.ref h0, .ref h1, .ref h2])).length) Slot.unset).toArray = ls at hl ⊢
  have hl : lv_has ls 7 [(0, .ref h0), (1, .ref h1), (2, .ref h2)] := hl
  have K136g : ∀ (g136 : VV) (hj : f_O_subtraction z0 z1 z2 = f_O_subtraction_136g z0 z1 z2 g136) (H : Heap) (locs : List Loc) (hP : va_P (dC, dI) classes [(h0, .inr (0, [.long (g136.1), .long (g136.2.1), .long (g136.2.2.1), .long (g136.2.2.2.1), .long (g136.2.2.2.2.1), .long (g136.2.2.2.2.2.1), .int (bI g136.2.2.2.2.2.2)])), (h1, .inr (0, [.long (z1.1), .long (z1.2.1), .long (z1.2.2.1), .long (z1.2.2.2.1), .long (z1.2.2.2.2.1), .long (z1.2.2.2.2.2.1), .int (bI z1.2.2.2.2.2.2)])), (h2, .inr (0, [.long (z2.1), .long (z2.2.1), .long (z2.2.2.1), .long (z2.2.2.2.1), .long (z2.2.2.2.2.1), .long (z2.2.2.2.2.2.1), .int (bI z2.2.2.2.2.2.2)]))] H) (hD : va_D A [(h0, .inr (0, [.long (g136.1), .long (g136.2.1), .long (g136.2.2.1), .long (g136.2.2.2.1), .long (g136.2.2.2.2.1), .long (g136.2.2.2.2.2.1), .int (bI g136.2.2.2.2.2.2)])), (h1, .inr (0, [.long (z1.1), .long (z1.2.1), .long (z1.2.2.1), .long (z1.2.2.2.1), .long (z1.2.2.2.2.1), .long (z1.2.2.2.2.2.1), .int (bI z1.2.2.2.2.2.2)])), (h2, .inr (0, [.long (z2.1), .long (z2.2.1), .long (z2.2.2.1), .long (z2.2.2.2.1), .long (z2.2.2.2.2.1), .long (z2.2.2.2.2.2.1), .int (bI z2.2.2.2.2.2.2)]))]) (hS : va_S A s.heap H locs) (ls : Array Slot) (hl : lv_has ls 7 []), W p l e (headSpec w_O_subtraction ({ frames := 1, cells := 0, slots := 0, locals := 25 } : Room)).room s m ([.ref h0, .ref h1, .ref h2] : List Value).toArray below meth c H locs 0 0 (MQ below (va_Qv (fun _ : Unit => True) (mB (dC, dI) A [(h0, vE (f_O_subtraction z0 z1 z2)), (h1, vE z1), (h2, vE z2)]) A) ([.ref h0, .ref h1, .ref h2] : List Value).toArray s 0 0 A) (F0 m 139 ls []) := by
    intro g136 hj H locs hP hD hS ls hl
    have fe : f_O_subtraction z0 z1 z2 = g136 := hj.trans rfl
    exact W.vret hx hb hr (fun t ht hW => ⟨⟨(), rfl, trivial, by rw [ht, fe]; (try simp only [vE_mk]); exact hP, by rw [fe]; (try simp only [vE_mk]); exact hD⟩, hS.F ht⟩) hS.2.2 d_O_subtraction_139
  have K89 : ∀ (w89_0_0 : Int64) (w89_0_1 : Int64) (w89_0_2 : Int64) (w89_0_3 : Int64) (w89_0_4 : Int64) (w89_0_5 : Int64) (w89_0_6 : Bool) (hj : f_O_subtraction z0 z1 z2 = f_O_subtraction_89 z0 z1 z2 w89_0_0 w89_0_1 w89_0_2 w89_0_3 w89_0_4 w89_0_5 w89_0_6) (H : Heap) (locs : List Loc) (hP : va_P (dC, dI) classes [(h0, .inr (0, [.long (w89_0_0), .long (w89_0_1), .long (w89_0_2), .long (w89_0_3), .long (w89_0_4), .long (w89_0_5), .int (bI w89_0_6)])), (h1, .inr (0, [.long (z1.1), .long (z1.2.1), .long (z1.2.2.1), .long (z1.2.2.2.1), .long (z1.2.2.2.2.1), .long (z1.2.2.2.2.2.1), .int (bI z1.2.2.2.2.2.2)])), (h2, .inr (0, [.long (z2.1), .long (z2.2.1), .long (z2.2.2.1), .long (z2.2.2.2.1), .long (z2.2.2.2.2.1), .long (z2.2.2.2.2.2.1), .int (bI z2.2.2.2.2.2.2)]))] H) (hD : va_D A [(h0, .inr (0, [.long (w89_0_0), .long (w89_0_1), .long (w89_0_2), .long (w89_0_3), .long (w89_0_4), .long (w89_0_5), .int (bI w89_0_6)])), (h1, .inr (0, [.long (z1.1), .long (z1.2.1), .long (z1.2.2.1), .long (z1.2.2.2.1), .long (z1.2.2.2.2.1), .long (z1.2.2.2.2.2.1), .int (bI z1.2.2.2.2.2.2)])), (h2, .inr (0, [.long (z2.1), .long (z2.2.1), .long (z2.2.2.1), .long (z2.2.2.2.1), .long (z2.2.2.2.2.1), .long (z2.2.2.2.2.2.1), .int (bI z2.2.2.2.2.2.2)]))]) (hS : va_S A s.heap H locs) (ls : Array Slot) (hl : lv_has ls 7 [(0, .ref h0), (1, .ref h1), (2, .ref h2)]), W p l e (headSpec w_O_subtraction ({ frames := 1, cells := 0, slots := 0, locals := 25 } : Room)).room s m ([.ref h0, .ref h1, .ref h2] : List Value).toArray below meth c H locs 0 0 (MQ below (va_Qv (fun _ : Unit => True) (mB (dC, dI) A [(h0, vE (f_O_subtraction z0 z1 z2)), (h1, vE z1), (h2, vE z2)]) A) ([.ref h0, .ref h1, .ref h2] : List Value).toArray s 0 0 A) (F0 m 89 ls []) := by
    intro w89_0_0 w89_0_1 w89_0_2 w89_0_3 w89_0_4 w89_0_5 w89_0_6 hj H locs hP hD hS ls hl
    refine lv_aload_n hx hb d_O_subtraction_89 rfl (lv_at hl 1 rfl) ?_
    refine va_get (D := (dC, dI)) (ci := 0) (v := .long (z1.2.2.2.2.1)) (C := R_V) (T := F_V) (N := 7) hx hb hts (fun w h => List.mem_cons_of_mem _ (uw_V w h)) hown hK hP 1 rfl rfl 4 (by decide) (hG (.fieldLink R_O 79 "ValueSieve$Value" "least" "J") gw34) (fun _ h9 => h9) rfl d_O_subtraction_90 ?_
    refine lv_aload_n hx hb d_O_subtraction_93 rfl (lv_at hl 2 rfl) ?_
    refine va_get (D := (dC, dI)) (ci := 0) (v := .long (z2.2.2.2.2.2.1)) (C := R_V) (T := F_V) (N := 7) hx hb hts (fun w h => List.mem_cons_of_mem _ (uw_V w h)) hown hK hP 2 rfl rfl 5 (by decide) (hG (.fieldLink R_O 85 "ValueSieve$Value" "greatest" "J") gw38) (fun _ h9 => h9) rfl d_O_subtraction_94 ?_
    refine rc_i (W.runS (As := [.long (z1.2.2.2.2.1), .long (z2.2.2.2.2.2.1)]) (rest := []) ⟨hx, hb, hml, hown, hts⟩ (c_N_differenceFits l z1.2.2.2.2.1 z2.2.2.2.2.2.1) (va_cwS 2 hts (gS gw201 gw202 gw2 gw203) rfl rfl rfl (by decide +kernel) ⟨(Nat.le_of_ble_eq_true rfl), (Nat.le_of_ble_eq_true rfl)⟩) ⟨bl0, fun U hU hW => ⟨rfl, trivial⟩⟩ rfl rfl hl.1 rfl (lv_room (Nat.le_of_ble_eq_true rfl)) d_O_subtraction_97 ⟨Nat.zero_le _, Nat.zero_le _⟩) ?_
    refine lv_if_eq (tgt := 139) hx hb d_O_subtraction_100 (by decide) (fun e1_139 => ?_) (fun e1_139 => ?_)
    · have fe : f_O_subtraction z0 z1 z2 = ((w89_0_0, w89_0_1, w89_0_2, w89_0_3, w89_0_4, w89_0_5, w89_0_6)) := hj.trans (by unfold f_O_subtraction_89; first | with_reducible exact if_pos e1_139 | exact if_pos e1_139)
      exact W.vret hx hb hr (fun t ht hW => ⟨⟨(), rfl, trivial, by rw [ht, fe]; (try simp only [vE_mk]); exact hP, by rw [fe]; (try simp only [vE_mk]); exact hD⟩, hS.F ht⟩) hS.2.2 d_O_subtraction_139
    · refine lv_aload_n hx hb d_O_subtraction_103 rfl (lv_at hl 1 rfl) ?_
      refine va_get (D := (dC, dI)) (ci := 0) (v := .long (z1.2.2.2.2.2.1)) (C := R_V) (T := F_V) (N := 7) hx hb hts (fun w h => List.mem_cons_of_mem _ (uw_V w h)) hown hK hP 1 rfl rfl 5 (by decide) (hG (.fieldLink R_O 85 "ValueSieve$Value" "greatest" "J") gw38) (fun _ h9 => h9) rfl d_O_subtraction_104 ?_
      refine lv_aload_n hx hb d_O_subtraction_107 rfl (lv_at hl 2 rfl) ?_
      refine va_get (D := (dC, dI)) (ci := 0) (v := .long (z2.2.2.2.2.1)) (C := R_V) (T := F_V) (N := 7) hx hb hts (fun w h => List.mem_cons_of_mem _ (uw_V w h)) hown hK hP 2 rfl rfl 4 (by decide) (hG (.fieldLink R_O 79 "ValueSieve$Value" "least" "J") gw34) (fun _ h9 => h9) rfl d_O_subtraction_108 ?_
      refine rc_i (W.runS (As := [.long (z1.2.2.2.2.2.1), .long (z2.2.2.2.2.1)]) (rest := []) ⟨hx, hb, hml, hown, hts⟩ (c_N_differenceFits l z1.2.2.2.2.2.1 z2.2.2.2.2.1) (va_cwS 2 hts (gS gw201 gw202 gw2 gw203) rfl rfl rfl (by decide +kernel) ⟨(Nat.le_of_ble_eq_true rfl), (Nat.le_of_ble_eq_true rfl)⟩) ⟨bl0, fun U hU hW => ⟨rfl, trivial⟩⟩ rfl rfl hl.1 rfl (lv_room (Nat.le_of_ble_eq_true rfl)) d_O_subtraction_111 ⟨Nat.zero_le _, Nat.zero_le _⟩) ?_
      refine lv_if_eq (tgt := 139) hx hb d_O_subtraction_114 (by decide) (fun e2_139 => ?_) (fun e2_139 => ?_)
      · have fe : f_O_subtraction z0 z1 z2 = ((w89_0_0, w89_0_1, w89_0_2, w89_0_3, w89_0_4, w89_0_5, w89_0_6)) := hj.trans (by unfold f_O_subtraction_89; first | with_reducible exact (if_neg e1_139).trans (if_pos e2_139) | exact (if_neg e1_139).trans (if_pos e2_139))
        exact W.vret hx hb hr (fun t ht hW => ⟨⟨(), rfl, trivial, by rw [ht, fe]; (try simp only [vE_mk]); exact hP, by rw [fe]; (try simp only [vE_mk]); exact hD⟩, hS.F ht⟩) hS.2.2 d_O_subtraction_139
      · refine lv_aload_n hx hb d_O_subtraction_117 rfl (lv_at hl 0 rfl) ?_
        refine lv_aload_n hx hb d_O_subtraction_118 rfl (lv_at hl 1 rfl) ?_
        refine va_get (D := (dC, dI)) (ci := 0) (v := .long (z1.2.2.2.2.1)) (C := R_V) (T := F_V) (N := 7) hx hb hts (fun w h => List.mem_cons_of_mem _ (uw_V w h)) hown hK hP 1 rfl rfl 4 (by decide) (hG (.fieldLink R_O 79 "ValueSieve$Value" "least" "J") gw34) (fun _ h9 => h9) rfl d_O_subtraction_119 ?_
        refine lv_aload_n hx hb d_O_subtraction_122 rfl (lv_at hl 2 rfl) ?_
        refine va_get (D := (dC, dI)) (ci := 0) (v := .long (z2.2.2.2.2.2.1)) (C := R_V) (T := F_V) (N := 7) hx hb hts (fun w h => List.mem_cons_of_mem _ (uw_V w h)) hown hK hP 2 rfl rfl 5 (by decide) (hG (.fieldLink R_O 85 "ValueSieve$Value" "greatest" "J") gw38) (fun _ h9 => h9) rfl d_O_subtraction_123 ?_
        refine lv_lsub hx hb d_O_subtraction_126 ?_
        refine lv_aload_n hx hb d_O_subtraction_127 rfl (lv_at hl 1 rfl) ?_
        refine va_get (D := (dC, dI)) (ci := 0) (v := .long (z1.2.2.2.2.2.1)) (C := R_V) (T := F_V) (N := 7) hx hb hts (fun w h => List.mem_cons_of_mem _ (uw_V w h)) hown hK hP 1 rfl rfl 5 (by decide) (hG (.fieldLink R_O 85 "ValueSieve$Value" "greatest" "J") gw38) (fun _ h9 => h9) rfl d_O_subtraction_128 ?_
        refine lv_aload_n hx hb d_O_subtraction_131 rfl (lv_at hl 2 rfl) ?_
        refine va_get (D := (dC, dI)) (ci := 0) (v := .long (z2.2.2.2.2.1)) (C := R_V) (T := F_V) (N := 7) hx hb hts (fun w h => List.mem_cons_of_mem _ (uw_V w h)) hown hK hP 2 rfl rfl 4 (by decide) (hG (.fieldLink R_O 79 "ValueSieve$Value" "least" "J") gw34) (fun _ h9 => h9) rfl d_O_subtraction_132 ?_
        refine lv_lsub hx hb d_O_subtraction_135 ?_
        refine mg_v (F := f_V_saySigned ((w89_0_0, w89_0_1, w89_0_2, w89_0_3, w89_0_4, w89_0_5, w89_0_6)) (z1.2.2.2.2.1 - z2.2.2.2.2.2.1) (z1.2.2.2.2.2.1 - z2.2.2.2.2.1)) (wc := [(h0, vE ((w89_0_0, w89_0_1, w89_0_2, w89_0_3, w89_0_4, w89_0_5, w89_0_6)))]) (w1 := fun g136 => [(h0, vE g136)]) (wr := [(h1, .inr (0, [.long (z1.1), .long (z1.2.1), .long (z1.2.2.1), .long (z1.2.2.2.1), .long (z1.2.2.2.2.1), .long (z1.2.2.2.2.2.1), .int (bI z1.2.2.2.2.2.2)])), (h2, .inr (0, [.long (z2.1), .long (z2.2.1), .long (z2.2.2.1), .long (z2.2.2.2.1), .long (z2.2.2.2.2.1), .long (z2.2.2.2.2.2.1), .int (bI z2.2.2.2.2.2.2)]))]) (ws' := fun g136 => [(h0, .inr (0, [.long (g136.1), .long (g136.2.1), .long (g136.2.2.1), .long (g136.2.2.2.1), .long (g136.2.2.2.2.1), .long (g136.2.2.2.2.2.1), .int (bI g136.2.2.2.2.2.2)])), (h1, .inr (0, [.long (z1.1), .long (z1.2.1), .long (z1.2.2.1), .long (z1.2.2.2.1), .long (z1.2.2.2.2.1), .long (z1.2.2.2.2.2.1), .int (bI z1.2.2.2.2.2.2)])), (h2, .inr (0, [.long (z2.1), .long (z2.2.1), .long (z2.2.2.1), .long (z2.2.2.2.1), .long (z2.2.2.2.2.1), .long (z2.2.2.2.2.2.1), .int (bI z2.2.2.2.2.2.2)]))]) (va_runV (As := [.long (z1.2.2.2.2.1 - z2.2.2.2.2.2.1), .long (z1.2.2.2.2.2.1 - z2.2.2.2.2.1)]) (rest := []) ⟨hx, hb, hml, hown, hts⟩ (c_V_saySigned l dC dI h0 H.size ((w89_0_0, w89_0_1, w89_0_2, w89_0_3, w89_0_4, w89_0_5, w89_0_6)) (z1.2.2.2.2.1 - z2.2.2.2.2.2.1) (z1.2.2.2.2.2.1 - z2.2.2.2.2.1)) (cwV 2 hts (gV gw197 gw90 gw91 gw1 gw92) rfl rfl rfl (by decide +kernel) ⟨(Nat.le_of_ble_eq_true rfl), (Nat.le_of_ble_eq_true rfl)⟩) ⟨blm, va_recv hK hP (ci := 0) (q0 := 0) rfl rfl, fun U hU hW => ⟨rfl, by rw [hU], by rw [hU]; exact hP.sub [0] rfl, va_K.moved hW.alike hK, (hD.sub [0] (by decide) rfl).weaken (fun _ _ _ _ => trivial)⟩⟩ rfl rfl hl.1 rfl (lv_room (Nat.le_of_ble_eq_true rfl)) d_O_subtraction_136 ⟨Nat.zero_le _, Nat.zero_le _⟩) hP hD hS hA [0] [1, 2] [2, 0, 1] rfl rfl (by decide) (by decide) (fun _ => rfl) (by decide) (fun g136 eg136 H locs hP hD hS => ?_)
        refine K136g g136 (Eq.trans (hj.trans (by unfold f_O_subtraction_89; first | with_reducible exact (if_neg e1_139).trans (if_neg e2_139) | exact (if_neg e1_139).trans (if_neg e2_139))) (congrArg (fun g136 => f_O_subtraction_136g z0 z1 z2 g136) eg136)) H locs ?_ ?_ hS ls (lv_sub hl [] rfl)
        · with_reducible exact hP
        · with_reducible exact hD
  have K86g : ∀ (g86 : VV) (hj : f_O_subtraction z0 z1 z2 = f_O_subtraction_86g z0 z1 z2 g86) (H : Heap) (locs : List Loc) (hP : va_P (dC, dI) classes [(h0, .inr (0, [.long (g86.1), .long (g86.2.1), .long (g86.2.2.1), .long (g86.2.2.2.1), .long (g86.2.2.2.2.1), .long (g86.2.2.2.2.2.1), .int (bI g86.2.2.2.2.2.2)])), (h1, .inr (0, [.long (z1.1), .long (z1.2.1), .long (z1.2.2.1), .long (z1.2.2.2.1), .long (z1.2.2.2.2.1), .long (z1.2.2.2.2.2.1), .int (bI z1.2.2.2.2.2.2)])), (h2, .inr (0, [.long (z2.1), .long (z2.2.1), .long (z2.2.2.1), .long (z2.2.2.2.1), .long (z2.2.2.2.2.1), .long (z2.2.2.2.2.2.1), .int (bI z2.2.2.2.2.2.2)]))] H) (hD : va_D A [(h0, .inr (0, [.long (g86.1), .long (g86.2.1), .long (g86.2.2.1), .long (g86.2.2.2.1), .long (g86.2.2.2.2.1), .long (g86.2.2.2.2.2.1), .int (bI g86.2.2.2.2.2.2)])), (h1, .inr (0, [.long (z1.1), .long (z1.2.1), .long (z1.2.2.1), .long (z1.2.2.2.1), .long (z1.2.2.2.2.1), .long (z1.2.2.2.2.2.1), .int (bI z1.2.2.2.2.2.2)])), (h2, .inr (0, [.long (z2.1), .long (z2.2.1), .long (z2.2.2.1), .long (z2.2.2.2.1), .long (z2.2.2.2.2.1), .long (z2.2.2.2.2.2.1), .int (bI z2.2.2.2.2.2.2)]))]) (hS : va_S A s.heap H locs) (ls : Array Slot) (hl : lv_has ls 7 [(0, .ref h0), (1, .ref h1), (2, .ref h2)]), W p l e (headSpec w_O_subtraction ({ frames := 1, cells := 0, slots := 0, locals := 25 } : Room)).room s m ([.ref h0, .ref h1, .ref h2] : List Value).toArray below meth c H locs 0 0 (MQ below (va_Qv (fun _ : Unit => True) (mB (dC, dI) A [(h0, vE (f_O_subtraction z0 z1 z2)), (h1, vE z1), (h2, vE z2)]) A) ([.ref h0, .ref h1, .ref h2] : List Value).toArray s 0 0 A) (F0 m 89 ls []) := by
    intro g86 hj H locs hP hD hS ls hl
    refine K89 g86.1 g86.2.1 g86.2.2.1 g86.2.2.2.1 g86.2.2.2.2.1 g86.2.2.2.2.2.1 g86.2.2.2.2.2.2 (hj.trans rfl) H locs ?_ ?_ hS ls (lv_sub hl [0, 1, 2] rfl)
    · with_reducible exact hP
    · with_reducible exact hD
  have K39g : ∀ (g39 : VV) (hj : f_O_subtraction z0 z1 z2 = f_O_subtraction_39g z0 z1 z2 g39) (H : Heap) (locs : List Loc) (hP : va_P (dC, dI) classes [(h0, .inr (0, [.long (g39.1), .long (g39.2.1), .long (g39.2.2.1), .long (g39.2.2.2.1), .long (g39.2.2.2.2.1), .long (g39.2.2.2.2.2.1), .int (bI g39.2.2.2.2.2.2)])), (h1, .inr (0, [.long (z1.1), .long (z1.2.1), .long (z1.2.2.1), .long (z1.2.2.2.1), .long (z1.2.2.2.2.1), .long (z1.2.2.2.2.2.1), .int (bI z1.2.2.2.2.2.2)])), (h2, .inr (0, [.long (z2.1), .long (z2.2.1), .long (z2.2.2.1), .long (z2.2.2.2.1), .long (z2.2.2.2.2.1), .long (z2.2.2.2.2.2.1), .int (bI z2.2.2.2.2.2.2)]))] H) (hD : va_D A [(h0, .inr (0, [.long (g39.1), .long (g39.2.1), .long (g39.2.2.1), .long (g39.2.2.2.1), .long (g39.2.2.2.2.1), .long (g39.2.2.2.2.2.1), .int (bI g39.2.2.2.2.2.2)])), (h1, .inr (0, [.long (z1.1), .long (z1.2.1), .long (z1.2.2.1), .long (z1.2.2.2.1), .long (z1.2.2.2.2.1), .long (z1.2.2.2.2.2.1), .int (bI z1.2.2.2.2.2.2)])), (h2, .inr (0, [.long (z2.1), .long (z2.2.1), .long (z2.2.2.1), .long (z2.2.2.2.1), .long (z2.2.2.2.2.1), .long (z2.2.2.2.2.2.1), .int (bI z2.2.2.2.2.2.2)]))]) (hS : va_S A s.heap H locs) (ls : Array Slot) (hl : lv_has ls 7 [(0, .ref h0), (1, .ref h1), (2, .ref h2)]), W p l e (headSpec w_O_subtraction ({ frames := 1, cells := 0, slots := 0, locals := 25 } : Room)).room s m ([.ref h0, .ref h1, .ref h2] : List Value).toArray below meth c H locs 0 0 (MQ below (va_Qv (fun _ : Unit => True) (mB (dC, dI) A [(h0, vE (f_O_subtraction z0 z1 z2)), (h1, vE z1), (h2, vE z2)]) A) ([.ref h0, .ref h1, .ref h2] : List Value).toArray s 0 0 A) (F0 m 42 ls []) := by
    intro g39 hj H locs hP hD hS ls hl
    refine lv_aload_n hx hb d_O_subtraction_42 rfl (lv_at hl 1 rfl) ?_
    refine va_get (D := (dC, dI)) (ci := 0) (v := .long (z1.2.2.1)) (C := R_V) (T := F_V) (N := 7) hx hb hts (fun w h => List.mem_cons_of_mem _ (uw_V w h)) hown hK hP 1 rfl rfl 2 (by decide) (hG (.fieldLink R_O 55 "ValueSieve$Value" "low" "J") gw26) (fun _ h9 => h9) rfl d_O_subtraction_43 ?_
    refine lv_aload_n hx hb d_O_subtraction_46 rfl (lv_at hl 2 rfl) ?_
    refine va_get (D := (dC, dI)) (ci := 0) (v := .long (z2.2.2.2.1)) (C := R_V) (T := F_V) (N := 7) hx hb hts (fun w h => List.mem_cons_of_mem _ (uw_V w h)) hown hK hP 2 rfl rfl 3 (by decide) (hG (.fieldLink R_O 49 "ValueSieve$Value" "high" "J") gw30) (fun _ h9 => h9) rfl d_O_subtraction_47 ?_
    refine rc_i (W.runS (As := [.long (z1.2.2.1), .long (z2.2.2.2.1)]) (rest := []) ⟨hx, hb, hml, hown, hts⟩ (c_N_below l z1.2.2.1 z2.2.2.2.1) (va_cwS 2 hts (gS gw192 gw105 gw2 gw106) rfl rfl rfl (by decide +kernel) ⟨(Nat.le_of_ble_eq_true rfl), (Nat.le_of_ble_eq_true rfl)⟩) ⟨bl0, fun U hU hW => ⟨rfl, trivial⟩⟩ rfl rfl hl.1 rfl (lv_room (Nat.le_of_ble_eq_true rfl)) d_O_subtraction_50 ⟨Nat.zero_le _, Nat.zero_le _⟩) ?_
    refine lv_aload_n hx hb d_O_subtraction_53 rfl (lv_at hl 1 rfl) ?_
    refine va_get (D := (dC, dI)) (ci := 0) (v := .long (z1.2.2.2.1)) (C := R_V) (T := F_V) (N := 7) hx hb hts (fun w h => List.mem_cons_of_mem _ (uw_V w h)) hown hK hP 1 rfl rfl 3 (by decide) (hG (.fieldLink R_O 49 "ValueSieve$Value" "high" "J") gw30) (fun _ h9 => h9) rfl d_O_subtraction_54 ?_
    refine lv_aload_n hx hb d_O_subtraction_57 rfl (lv_at hl 2 rfl) ?_
    refine va_get (D := (dC, dI)) (ci := 0) (v := .long (z2.2.2.1)) (C := R_V) (T := F_V) (N := 7) hx hb hts (fun w h => List.mem_cons_of_mem _ (uw_V w h)) hown hK hP 2 rfl rfl 2 (by decide) (hG (.fieldLink R_O 55 "ValueSieve$Value" "low" "J") gw26) (fun _ h9 => h9) rfl d_O_subtraction_58 ?_
    refine rc_i (W.runS (As := [.long (z1.2.2.2.1), .long (z2.2.2.1)]) (rest := [.int (f_N_below z1.2.2.1 z2.2.2.2.1)]) ⟨hx, hb, hml, hown, hts⟩ (c_N_below l z1.2.2.2.1 z2.2.2.1) (va_cwS 2 hts (gS gw192 gw105 gw2 gw106) rfl rfl rfl (by decide +kernel) ⟨(Nat.le_of_ble_eq_true rfl), (Nat.le_of_ble_eq_true rfl)⟩) ⟨bl0, fun U hU hW => ⟨rfl, trivial⟩⟩ rfl rfl hl.1 rfl (lv_room (Nat.le_of_ble_eq_true rfl)) d_O_subtraction_61 ⟨Nat.zero_le _, Nat.zero_le _⟩) ?_
    refine lv_icmp_ne (tgt := 89) hx hb d_O_subtraction_64 (by decide) (fun e1_89 => ?_) (fun e1_89 => ?_)
    · refine K89 g39.1 g39.2.1 g39.2.2.1 g39.2.2.2.1 g39.2.2.2.2.1 g39.2.2.2.2.2.1 g39.2.2.2.2.2.2 (hj.trans (by unfold f_O_subtraction_39g; first | with_reducible exact if_neg e1_89 | exact if_neg e1_89)) H locs ?_ ?_ hS ls (lv_sub hl [0, 1, 2] rfl)
      · with_reducible exact hP
      · with_reducible exact hD
    · refine lv_aload_n hx hb d_O_subtraction_67 rfl (lv_at hl 0 rfl) ?_
      refine lv_aload_n hx hb d_O_subtraction_68 rfl (lv_at hl 1 rfl) ?_
      refine va_get (D := (dC, dI)) (ci := 0) (v := .long (z1.2.2.1)) (C := R_V) (T := F_V) (N := 7) hx hb hts (fun w h => List.mem_cons_of_mem _ (uw_V w h)) hown hK hP 1 rfl rfl 2 (by decide) (hG (.fieldLink R_O 55 "ValueSieve$Value" "low" "J") gw26) (fun _ h9 => h9) rfl d_O_subtraction_69 ?_
      refine lv_aload_n hx hb d_O_subtraction_72 rfl (lv_at hl 2 rfl) ?_
      refine va_get (D := (dC, dI)) (ci := 0) (v := .long (z2.2.2.2.1)) (C := R_V) (T := F_V) (N := 7) hx hb hts (fun w h => List.mem_cons_of_mem _ (uw_V w h)) hown hK hP 2 rfl rfl 3 (by decide) (hG (.fieldLink R_O 49 "ValueSieve$Value" "high" "J") gw30) (fun _ h9 => h9) rfl d_O_subtraction_73 ?_
      refine lv_lsub hx hb d_O_subtraction_76 ?_
      refine lv_aload_n hx hb d_O_subtraction_77 rfl (lv_at hl 1 rfl) ?_
      refine va_get (D := (dC, dI)) (ci := 0) (v := .long (z1.2.2.2.1)) (C := R_V) (T := F_V) (N := 7) hx hb hts (fun w h => List.mem_cons_of_mem _ (uw_V w h)) hown hK hP 1 rfl rfl 3 (by decide) (hG (.fieldLink R_O 49 "ValueSieve$Value" "high" "J") gw30) (fun _ h9 => h9) rfl d_O_subtraction_78 ?_
      refine lv_aload_n hx hb d_O_subtraction_81 rfl (lv_at hl 2 rfl) ?_
      refine va_get (D := (dC, dI)) (ci := 0) (v := .long (z2.2.2.1)) (C := R_V) (T := F_V) (N := 7) hx hb hts (fun w h => List.mem_cons_of_mem _ (uw_V w h)) hown hK hP 2 rfl rfl 2 (by decide) (hG (.fieldLink R_O 55 "ValueSieve$Value" "low" "J") gw26) (fun _ h9 => h9) rfl d_O_subtraction_82 ?_
      refine lv_lsub hx hb d_O_subtraction_85 ?_
      refine mg_v (F := f_V_sayUnsigned g39 (z1.2.2.1 - z2.2.2.2.1) (z1.2.2.2.1 - z2.2.2.1)) (wc := [(h0, vE g39)]) (w1 := fun g86 => [(h0, vE g86)]) (wr := [(h1, .inr (0, [.long (z1.1), .long (z1.2.1), .long (z1.2.2.1), .long (z1.2.2.2.1), .long (z1.2.2.2.2.1), .long (z1.2.2.2.2.2.1), .int (bI z1.2.2.2.2.2.2)])), (h2, .inr (0, [.long (z2.1), .long (z2.2.1), .long (z2.2.2.1), .long (z2.2.2.2.1), .long (z2.2.2.2.2.1), .long (z2.2.2.2.2.2.1), .int (bI z2.2.2.2.2.2.2)]))]) (ws' := fun g86 => [(h0, .inr (0, [.long (g86.1), .long (g86.2.1), .long (g86.2.2.1), .long (g86.2.2.2.1), .long (g86.2.2.2.2.1), .long (g86.2.2.2.2.2.1), .int (bI g86.2.2.2.2.2.2)])), (h1, .inr (0, [.long (z1.1), .long (z1.2.1), .long (z1.2.2.1), .long (z1.2.2.2.1), .long (z1.2.2.2.2.1), .long (z1.2.2.2.2.2.1), .int (bI z1.2.2.2.2.2.2)])), (h2, .inr (0, [.long (z2.1), .long (z2.2.1), .long (z2.2.2.1), .long (z2.2.2.2.1), .long (z2.2.2.2.2.1), .long (z2.2.2.2.2.2.1), .int (bI z2.2.2.2.2.2.2)]))]) (va_runV (As := [.long (z1.2.2.1 - z2.2.2.2.1), .long (z1.2.2.2.1 - z2.2.2.1)]) (rest := []) ⟨hx, hb, hml, hown, hts⟩ (c_V_sayUnsigned l dC dI h0 H.size g39 (z1.2.2.1 - z2.2.2.2.1) (z1.2.2.2.1 - z2.2.2.1)) (cwV 2 hts (gV gw193 gw84 gw85 gw1 gw86) rfl rfl rfl (by decide +kernel) ⟨(Nat.le_of_ble_eq_true rfl), (Nat.le_of_ble_eq_true rfl)⟩) ⟨blm, va_recv hK hP (ci := 0) (q0 := 0) rfl rfl, fun U hU hW => ⟨rfl, by rw [hU], by rw [hU]; exact hP.sub [0] rfl, va_K.moved hW.alike hK, (hD.sub [0] (by decide) rfl).weaken (fun _ _ _ _ => trivial)⟩⟩ rfl rfl hl.1 rfl (lv_room (Nat.le_of_ble_eq_true rfl)) d_O_subtraction_86 ⟨Nat.zero_le _, Nat.zero_le _⟩) hP hD hS hA [0] [1, 2] [2, 0, 1] rfl rfl (by decide) (by decide) (fun _ => rfl) (by decide) (fun g86 eg86 H locs hP hD hS => ?_)
      refine K86g g86 (Eq.trans (hj.trans (by unfold f_O_subtraction_39g; first | with_reducible exact if_pos e1_89 | exact if_pos e1_89)) (congrArg (fun g86 => f_O_subtraction_86g z0 z1 z2 g86) eg86)) H locs ?_ ?_ hS ls (lv_sub hl [0, 1, 2] rfl)
      · with_reducible exact hP
      · with_reducible exact hD
  have K23v : ∀ (v23 : Int64) (v9 : Int64) (hj : f_O_subtraction z0 z1 z2 = f_O_subtraction_23v z0 z1 z2 v23 v9) (H : Heap) (locs : List Loc) (hP : va_P (dC, dI) classes [(h0, .inr (0, [.long (z0.1), .long (z0.2.1), .long (z0.2.2.1), .long (z0.2.2.2.1), .long (z0.2.2.2.2.1), .long (z0.2.2.2.2.2.1), .int (bI z0.2.2.2.2.2.2)])), (h1, .inr (0, [.long (z1.1), .long (z1.2.1), .long (z1.2.2.1), .long (z1.2.2.2.1), .long (z1.2.2.2.2.1), .long (z1.2.2.2.2.2.1), .int (bI z1.2.2.2.2.2.2)])), (h2, .inr (0, [.long (z2.1), .long (z2.2.1), .long (z2.2.2.1), .long (z2.2.2.2.1), .long (z2.2.2.2.2.1), .long (z2.2.2.2.2.2.1), .int (bI z2.2.2.2.2.2.2)]))] H) (hD : va_D A [(h0, .inr (0, [.long (z0.1), .long (z0.2.1), .long (z0.2.2.1), .long (z0.2.2.2.1), .long (z0.2.2.2.2.1), .long (z0.2.2.2.2.2.1), .int (bI z0.2.2.2.2.2.2)])), (h1, .inr (0, [.long (z1.1), .long (z1.2.1), .long (z1.2.2.1), .long (z1.2.2.2.1), .long (z1.2.2.2.2.1), .long (z1.2.2.2.2.2.1), .int (bI z1.2.2.2.2.2.2)])), (h2, .inr (0, [.long (z2.1), .long (z2.2.1), .long (z2.2.2.1), .long (z2.2.2.2.1), .long (z2.2.2.2.2.1), .long (z2.2.2.2.2.2.1), .int (bI z2.2.2.2.2.2.2)]))]) (hS : va_S A s.heap H locs) (ls : Array Slot) (hl : lv_has ls 7 [(5, .long (v23)), (3, .long (v9)), (0, .ref h0), (1, .ref h1), (2, .ref h2)]), W p l e (headSpec w_O_subtraction ({ frames := 1, cells := 0, slots := 0, locals := 25 } : Room)).room s m ([.ref h0, .ref h1, .ref h2] : List Value).toArray below meth c H locs 0 0 (MQ below (va_Qv (fun _ : Unit => True) (mB (dC, dI) A [(h0, vE (f_O_subtraction z0 z1 z2)), (h1, vE z1), (h2, vE z2)]) A) ([.ref h0, .ref h1, .ref h2] : List Value).toArray s 0 0 A) (F0 m 25 ls []) := by
    intro v23 v9 hj H locs hP hD hS ls hl
    refine lv_aload_n hx hb d_O_subtraction_25 rfl (lv_at hl 2 rfl) ?_
    refine lv_lload_n hx hb d_O_subtraction_26 rfl (lv_at hl 1 rfl) ?_
    refine lv_lload hx hb d_O_subtraction_27 (lv_at hl 0 rfl) ?_
    refine lv_aload_n hx hb d_O_subtraction_29 rfl (lv_at hl 3 rfl) ?_
    refine va_get (D := (dC, dI)) (ci := 0) (v := .long (z1.2.1)) (C := R_V) (T := F_V) (N := 7) hx hb hts (fun w h => List.mem_cons_of_mem _ (uw_V w h)) hown hK hP 1 rfl rfl 1 (by decide) (hG (.fieldLink R_O 40 "ValueSieve$Value" "unknown" "J") gw22) (fun _ h9 => h9) rfl d_O_subtraction_30 ?_
    refine lv_lor hx hb d_O_subtraction_33 ?_
    refine lv_aload_n hx hb d_O_subtraction_34 rfl (lv_at hl 4 rfl) ?_
    refine va_get (D := (dC, dI)) (ci := 0) (v := .long (z2.2.1)) (C := R_V) (T := F_V) (N := 7) hx hb hts (fun w h => List.mem_cons_of_mem _ (uw_V w h)) hown hK hP 2 rfl rfl 1 (by decide) (hG (.fieldLink R_O 40 "ValueSieve$Value" "unknown" "J") gw22) (fun _ h9 => h9) rfl d_O_subtraction_35 ?_
    refine lv_lor hx hb d_O_subtraction_38 ?_
    refine mg_v (F := f_V_sayBits z0 v9 ((v23 ||| z1.2.1) ||| z2.2.1)) (wc := [(h0, vE z0)]) (w1 := fun g39 => [(h0, vE g39)]) (wr := [(h1, .inr (0, [.long (z1.1), .long (z1.2.1), .long (z1.2.2.1), .long (z1.2.2.2.1), .long (z1.2.2.2.2.1), .long (z1.2.2.2.2.2.1), .int (bI z1.2.2.2.2.2.2)])), (h2, .inr (0, [.long (z2.1), .long (z2.2.1), .long (z2.2.2.1), .long (z2.2.2.2.1), .long (z2.2.2.2.2.1), .long (z2.2.2.2.2.2.1), .int (bI z2.2.2.2.2.2.2)]))]) (ws' := fun g39 => [(h0, .inr (0, [.long (g39.1), .long (g39.2.1), .long (g39.2.2.1), .long (g39.2.2.2.1), .long (g39.2.2.2.2.1), .long (g39.2.2.2.2.2.1), .int (bI g39.2.2.2.2.2.2)])), (h1, .inr (0, [.long (z1.1), .long (z1.2.1), .long (z1.2.2.1), .long (z1.2.2.2.1), .long (z1.2.2.2.2.1), .long (z1.2.2.2.2.2.1), .int (bI z1.2.2.2.2.2.2)])), (h2, .inr (0, [.long (z2.1), .long (z2.2.1), .long (z2.2.2.1), .long (z2.2.2.2.1), .long (z2.2.2.2.2.1), .long (z2.2.2.2.2.2.1), .int (bI z2.2.2.2.2.2.2)]))]) (va_runV (As := [.long (v9), .long ((v23 ||| z1.2.1) ||| z2.2.1)]) (rest := []) ⟨hx, hb, hml, hown, hts⟩ (c_V_sayBits l dC dI h0 H.size z0 v9 ((v23 ||| z1.2.1) ||| z2.2.1)) (cwV 2 hts (gV gw191 gw80 gw81 gw1 gw82) rfl rfl rfl (by decide +kernel) ⟨(Nat.le_of_ble_eq_true rfl), (Nat.le_of_ble_eq_true rfl)⟩) ⟨blm, va_recv hK hP (ci := 0) (q0 := 0) rfl rfl, fun U hU hW => ⟨rfl, by rw [hU], by rw [hU]; exact hP.sub [0] rfl, va_K.moved hW.alike hK, (hD.sub [0] (by decide) rfl).weaken (fun _ _ _ _ => trivial)⟩⟩ rfl rfl hl.1 rfl (lv_room (Nat.le_of_ble_eq_true rfl)) d_O_subtraction_39 ⟨Nat.zero_le _, Nat.zero_le _⟩) hP hD hS hA [0] [1, 2] [2, 0, 1] rfl rfl (by decide) (by decide) (fun _ => rfl) (by decide) (fun g39 eg39 H locs hP hD hS => ?_)
    refine K39g g39 (Eq.trans (hj.trans rfl) (congrArg (fun g39 => f_O_subtraction_39g z0 z1 z2 g39) eg39)) H locs ?_ ?_ hS ls (lv_sub hl [2, 3, 4] rfl)
    · with_reducible exact hP
    · with_reducible exact hD
  have K9v : ∀ (v9 : Int64) (hj : f_O_subtraction z0 z1 z2 = f_O_subtraction_9v z0 z1 z2 v9) (H : Heap) (locs : List Loc) (hP : va_P (dC, dI) classes [(h0, .inr (0, [.long (z0.1), .long (z0.2.1), .long (z0.2.2.1), .long (z0.2.2.2.1), .long (z0.2.2.2.2.1), .long (z0.2.2.2.2.2.1), .int (bI z0.2.2.2.2.2.2)])), (h1, .inr (0, [.long (z1.1), .long (z1.2.1), .long (z1.2.2.1), .long (z1.2.2.2.1), .long (z1.2.2.2.2.1), .long (z1.2.2.2.2.2.1), .int (bI z1.2.2.2.2.2.2)])), (h2, .inr (0, [.long (z2.1), .long (z2.2.1), .long (z2.2.2.1), .long (z2.2.2.2.1), .long (z2.2.2.2.2.1), .long (z2.2.2.2.2.2.1), .int (bI z2.2.2.2.2.2.2)]))] H) (hD : va_D A [(h0, .inr (0, [.long (z0.1), .long (z0.2.1), .long (z0.2.2.1), .long (z0.2.2.2.1), .long (z0.2.2.2.2.1), .long (z0.2.2.2.2.2.1), .int (bI z0.2.2.2.2.2.2)])), (h1, .inr (0, [.long (z1.1), .long (z1.2.1), .long (z1.2.2.1), .long (z1.2.2.2.1), .long (z1.2.2.2.2.1), .long (z1.2.2.2.2.2.1), .int (bI z1.2.2.2.2.2.2)])), (h2, .inr (0, [.long (z2.1), .long (z2.2.1), .long (z2.2.2.1), .long (z2.2.2.2.1), .long (z2.2.2.2.2.1), .long (z2.2.2.2.2.2.1), .int (bI z2.2.2.2.2.2.2)]))]) (hS : va_S A s.heap H locs) (ls : Array Slot) (hl : lv_has ls 7 [(3, .long (v9)), (0, .ref h0), (1, .ref h1), (2, .ref h2)]), W p l e (headSpec w_O_subtraction ({ frames := 1, cells := 0, slots := 0, locals := 25 } : Room)).room s m ([.ref h0, .ref h1, .ref h2] : List Value).toArray below meth c H locs 0 0 (MQ below (va_Qv (fun _ : Unit => True) (mB (dC, dI) A [(h0, vE (f_O_subtraction z0 z1 z2)), (h1, vE z1), (h2, vE z2)]) A) ([.ref h0, .ref h1, .ref h2] : List Value).toArray s 0 0 A) (F0 m 10 ls []) := by
    intro v9 hj H locs hP hD hS ls hl
    refine lv_lload_n hx hb d_O_subtraction_10 rfl (lv_at hl 0 rfl) ?_
    refine lv_aload_n hx hb d_O_subtraction_11 rfl (lv_at hl 2 rfl) ?_
    refine va_get (D := (dC, dI)) (ci := 0) (v := .long (z1.2.1)) (C := R_V) (T := F_V) (N := 7) hx hb hts (fun w h => List.mem_cons_of_mem _ (uw_V w h)) hown hK hP 1 rfl rfl 1 (by decide) (hG (.fieldLink R_O 40 "ValueSieve$Value" "unknown" "J") gw22) (fun _ h9 => h9) rfl d_O_subtraction_12 ?_
    refine lv_ladd hx hb d_O_subtraction_15 ?_
    refine lv_lload_n hx hb d_O_subtraction_16 rfl (lv_at hl 0 rfl) ?_
    refine lv_aload_n hx hb d_O_subtraction_17 rfl (lv_at hl 3 rfl) ?_
    refine va_get (D := (dC, dI)) (ci := 0) (v := .long (z2.2.1)) (C := R_V) (T := F_V) (N := 7) hx hb hts (fun w h => List.mem_cons_of_mem _ (uw_V w h)) hown hK hP 2 rfl rfl 1 (by decide) (hG (.fieldLink R_O 40 "ValueSieve$Value" "unknown" "J") gw22) (fun _ h9 => h9) rfl d_O_subtraction_18 ?_
    refine lv_lsub hx hb d_O_subtraction_21 ?_
    refine lv_lxor hx hb d_O_subtraction_22 ?_
    refine lv_topl (fun v23 ev23 => ?_)
    refine lv_lstore (lv' := [(5, .long (v23)), (3, .long (v9)), (0, .ref h0), (1, .ref h1), (2, .ref h2)]) hx hb d_O_subtraction_23 hl (by decide) rfl (fun ls hl => ?_)
    refine K23v v23 v9 (Eq.trans (hj.trans rfl) (congrArg (fun v23 => f_O_subtraction_23v z0 z1 z2 v23 v9) ev23.symm)) H locs ?_ ?_ hS ls (lv_sub hl [0, 1, 2, 3, 4] rfl)
    · with_reducible exact hP
    · with_reducible exact hD
  refine lv_aload_n hx hb d_O_subtraction_0 rfl (lv_at hl 1 rfl) ?_
  refine va_get (D := (dC, dI)) (ci := 0) (v := .long (z1.1)) (C := R_V) (T := F_V) (N := 7) hx hb hts (fun w h => List.mem_cons_of_mem _ (uw_V w h)) hown hK hP 1 rfl rfl 0 (by decide) (hG (.fieldLink R_O 36 "ValueSieve$Value" "bits" "J") gw19) (fun _ h9 => h9) rfl d_O_subtraction_1 ?_
  refine lv_aload_n hx hb d_O_subtraction_4 rfl (lv_at hl 2 rfl) ?_
  refine va_get (D := (dC, dI)) (ci := 0) (v := .long (z2.1)) (C := R_V) (T := F_V) (N := 7) hx hb hts (fun w h => List.mem_cons_of_mem _ (uw_V w h)) hown hK hP 2 rfl rfl 0 (by decide) (hG (.fieldLink R_O 36 "ValueSieve$Value" "bits" "J") gw19) (fun _ h9 => h9) rfl d_O_subtraction_5 ?_
  refine lv_lsub hx hb d_O_subtraction_8 ?_
  refine lv_topl (fun v9 ev9 => ?_)
  refine lv_lstore_n (lv' := [(3, .long (v9)), (0, .ref h0), (1, .ref h1), (2, .ref h2)]) hx hb d_O_subtraction_9 rfl hl (by decide) rfl (fun ls hl => ?_)
  refine K9v v9 (Eq.trans (rfl) (congrArg (fun v9 => f_O_subtraction_9v z0 z1 z2 v9) ev9.symm)) s.heap [] ?_ ?_ hS ls (lv_sub hl [0, 1, 2, 3] rfl)
  · with_reducible exact hP
  · with_reducible exact hD
-- ValueSieve$Operations.multiplication
theorem d_O_multiplication_0 : decode b_O_multiplication 0 = .ok (.aload_n 1, 1) := by decide +kernel
theorem d_O_multiplication_1 : decode b_O_multiplication 1 = .ok (.invokestatic 94, 3) := by decide +kernel
theorem d_O_multiplication_4 : decode b_O_multiplication 4 = .ok (.aload_n 2, 1) := by decide +kernel
theorem d_O_multiplication_5 : decode b_O_multiplication 5 = .ok (.invokestatic 98, 3) := by decide +kernel
theorem d_O_multiplication_8 : decode b_O_multiplication 8 = .ok (.iadd, 1) := by decide +kernel
theorem d_O_multiplication_9 : decode b_O_multiplication 9 = .ok (.istore_n 3, 1) := by decide +kernel
theorem d_O_multiplication_10 : decode b_O_multiplication 10 = .ok (.aload_n 2, 1) := by decide +kernel
theorem d_O_multiplication_11 : decode b_O_multiplication 11 = .ok (.invokestatic 94, 3) := by decide +kernel
theorem d_O_multiplication_14 : decode b_O_multiplication 14 = .ok (.aload_n 1, 1) := by decide +kernel
theorem d_O_multiplication_15 : decode b_O_multiplication 15 = .ok (.invokestatic 98, 3) := by decide +kernel
theorem d_O_multiplication_18 : decode b_O_multiplication 18 = .ok (.iadd, 1) := by decide +kernel
theorem d_O_multiplication_19 : decode b_O_multiplication 19 = .ok (.istore 4, 2) := by decide +kernel
theorem d_O_multiplication_21 : decode b_O_multiplication 21 = .ok (.aload_n 0, 1) := by decide +kernel
theorem d_O_multiplication_22 : decode b_O_multiplication 22 = .ok (.aload_n 1, 1) := by decide +kernel
theorem d_O_multiplication_23 : decode b_O_multiplication 23 = .ok (.getfield 36, 3) := by decide +kernel
theorem d_O_multiplication_26 : decode b_O_multiplication 26 = .ok (.aload_n 2, 1) := by decide +kernel
theorem d_O_multiplication_27 : decode b_O_multiplication 27 = .ok (.getfield 36, 3) := by decide +kernel
theorem d_O_multiplication_30 : decode b_O_multiplication 30 = .ok (.lmul, 1) := by decide +kernel
theorem d_O_multiplication_31 : decode b_O_multiplication 31 = .ok (.iload_n 3, 1) := by decide +kernel
theorem d_O_multiplication_32 : decode b_O_multiplication 32 = .ok (.iload 4, 2) := by decide +kernel
theorem d_O_multiplication_34 : decode b_O_multiplication 34 = .ok (.invokestatic 101, 3) := by decide +kernel
theorem d_O_multiplication_37 : decode b_O_multiplication 37 = .ok (.invokestatic 107, 3) := by decide +kernel
theorem d_O_multiplication_40 : decode b_O_multiplication 40 = .ok (.ldc2_w 43, 3) := by decide +kernel
theorem d_O_multiplication_43 : decode b_O_multiplication 43 = .ok (.lxor, 1) := by decide +kernel
theorem d_O_multiplication_44 : decode b_O_multiplication 44 = .ok (.invokevirtual 45, 3) := by decide +kernel
theorem d_O_multiplication_47 : decode b_O_multiplication 47 = .ok (.aload_n 1, 1) := by decide +kernel
theorem d_O_multiplication_48 : decode b_O_multiplication 48 = .ok (.getfield 49, 3) := by decide +kernel
theorem d_O_multiplication_51 : decode b_O_multiplication 51 = .ok (.aload_n 2, 1) := by decide +kernel
theorem d_O_multiplication_52 : decode b_O_multiplication 52 = .ok (.getfield 49, 3) := by decide +kernel
theorem d_O_multiplication_55 : decode b_O_multiplication 55 = .ok (.invokestatic 111, 3) := by decide +kernel
theorem d_O_multiplication_58 : decode b_O_multiplication 58 = .ok (.ifCond .eq 25, 3) := by decide +kernel
theorem d_O_multiplication_61 : decode b_O_multiplication 61 = .ok (.aload_n 0, 1) := by decide +kernel
theorem d_O_multiplication_62 : decode b_O_multiplication 62 = .ok (.aload_n 1, 1) := by decide +kernel
theorem d_O_multiplication_63 : decode b_O_multiplication 63 = .ok (.getfield 55, 3) := by decide +kernel
theorem d_O_multiplication_66 : decode b_O_multiplication 66 = .ok (.aload_n 2, 1) := by decide +kernel
theorem d_O_multiplication_67 : decode b_O_multiplication 67 = .ok (.getfield 55, 3) := by decide +kernel
theorem d_O_multiplication_70 : decode b_O_multiplication 70 = .ok (.lmul, 1) := by decide +kernel
theorem d_O_multiplication_71 : decode b_O_multiplication 71 = .ok (.aload_n 1, 1) := by decide +kernel
theorem d_O_multiplication_72 : decode b_O_multiplication 72 = .ok (.getfield 49, 3) := by decide +kernel
theorem d_O_multiplication_75 : decode b_O_multiplication 75 = .ok (.aload_n 2, 1) := by decide +kernel
theorem d_O_multiplication_76 : decode b_O_multiplication 76 = .ok (.getfield 49, 3) := by decide +kernel
theorem d_O_multiplication_79 : decode b_O_multiplication 79 = .ok (.lmul, 1) := by decide +kernel
theorem d_O_multiplication_80 : decode b_O_multiplication 80 = .ok (.invokevirtual 76, 3) := by decide +kernel
theorem d_O_multiplication_83 : decode b_O_multiplication 83 = .ok (.aload_n 1, 1) := by decide +kernel
theorem d_O_multiplication_84 : decode b_O_multiplication 84 = .ok (.getfield 79, 3) := by decide +kernel
theorem d_O_multiplication_87 : decode b_O_multiplication 87 = .ok (.aload_n 2, 1) := by decide +kernel
theorem d_O_multiplication_88 : decode b_O_multiplication 88 = .ok (.getfield 79, 3) := by decide +kernel
theorem d_O_multiplication_91 : decode b_O_multiplication 91 = .ok (.invokestatic 114, 3) := by decide +kernel
theorem d_O_multiplication_94 : decode b_O_multiplication 94 = .ok (.ifCond .eq 127, 3) := by decide +kernel
theorem d_O_multiplication_97 : decode b_O_multiplication 97 = .ok (.aload_n 1, 1) := by decide +kernel
theorem d_O_multiplication_98 : decode b_O_multiplication 98 = .ok (.getfield 79, 3) := by decide +kernel
theorem d_O_multiplication_101 : decode b_O_multiplication 101 = .ok (.aload_n 2, 1) := by decide +kernel
theorem d_O_multiplication_102 : decode b_O_multiplication 102 = .ok (.getfield 85, 3) := by decide +kernel
theorem d_O_multiplication_105 : decode b_O_multiplication 105 = .ok (.invokestatic 114, 3) := by decide +kernel
theorem d_O_multiplication_108 : decode b_O_multiplication 108 = .ok (.ifCond .eq 113, 3) := by decide +kernel
theorem d_O_multiplication_111 : decode b_O_multiplication 111 = .ok (.aload_n 1, 1) := by decide +kernel
theorem d_O_multiplication_112 : decode b_O_multiplication 112 = .ok (.getfield 85, 3) := by decide +kernel
theorem d_O_multiplication_115 : decode b_O_multiplication 115 = .ok (.aload_n 2, 1) := by decide +kernel
theorem d_O_multiplication_116 : decode b_O_multiplication 116 = .ok (.getfield 79, 3) := by decide +kernel
theorem d_O_multiplication_119 : decode b_O_multiplication 119 = .ok (.invokestatic 114, 3) := by decide +kernel
theorem d_O_multiplication_122 : decode b_O_multiplication 122 = .ok (.ifCond .eq 99, 3) := by decide +kernel
theorem d_O_multiplication_125 : decode b_O_multiplication 125 = .ok (.aload_n 1, 1) := by decide +kernel
theorem d_O_multiplication_126 : decode b_O_multiplication 126 = .ok (.getfield 85, 3) := by decide +kernel
theorem d_O_multiplication_129 : decode b_O_multiplication 129 = .ok (.aload_n 2, 1) := by decide +kernel
theorem d_O_multiplication_130 : decode b_O_multiplication 130 = .ok (.getfield 85, 3) := by decide +kernel
theorem d_O_multiplication_133 : decode b_O_multiplication 133 = .ok (.invokestatic 114, 3) := by decide +kernel
theorem d_O_multiplication_136 : decode b_O_multiplication 136 = .ok (.ifCond .eq 85, 3) := by decide +kernel
theorem d_O_multiplication_139 : decode b_O_multiplication 139 = .ok (.aload_n 1, 1) := by decide +kernel
theorem d_O_multiplication_140 : decode b_O_multiplication 140 = .ok (.getfield 79, 3) := by decide +kernel
theorem d_O_multiplication_143 : decode b_O_multiplication 143 = .ok (.aload_n 2, 1) := by decide +kernel
theorem d_O_multiplication_144 : decode b_O_multiplication 144 = .ok (.getfield 79, 3) := by decide +kernel
theorem d_O_multiplication_147 : decode b_O_multiplication 147 = .ok (.lmul, 1) := by decide +kernel
theorem d_O_multiplication_148 : decode b_O_multiplication 148 = .ok (.lstore 5, 2) := by decide +kernel
theorem d_O_multiplication_150 : decode b_O_multiplication 150 = .ok (.aload_n 1, 1) := by decide +kernel
theorem d_O_multiplication_151 : decode b_O_multiplication 151 = .ok (.getfield 79, 3) := by decide +kernel
theorem d_O_multiplication_154 : decode b_O_multiplication 154 = .ok (.aload_n 2, 1) := by decide +kernel
theorem d_O_multiplication_155 : decode b_O_multiplication 155 = .ok (.getfield 85, 3) := by decide +kernel
theorem d_O_multiplication_158 : decode b_O_multiplication 158 = .ok (.lmul, 1) := by decide +kernel
theorem d_O_multiplication_159 : decode b_O_multiplication 159 = .ok (.lstore 7, 2) := by decide +kernel
theorem d_O_multiplication_161 : decode b_O_multiplication 161 = .ok (.aload_n 1, 1) := by decide +kernel
theorem d_O_multiplication_162 : decode b_O_multiplication 162 = .ok (.getfield 85, 3) := by decide +kernel
theorem d_O_multiplication_165 : decode b_O_multiplication 165 = .ok (.aload_n 2, 1) := by decide +kernel
theorem d_O_multiplication_166 : decode b_O_multiplication 166 = .ok (.getfield 79, 3) := by decide +kernel
theorem d_O_multiplication_169 : decode b_O_multiplication 169 = .ok (.lmul, 1) := by decide +kernel
theorem d_O_multiplication_170 : decode b_O_multiplication 170 = .ok (.lstore 9, 2) := by decide +kernel
theorem d_O_multiplication_172 : decode b_O_multiplication 172 = .ok (.aload_n 1, 1) := by decide +kernel
theorem d_O_multiplication_173 : decode b_O_multiplication 173 = .ok (.getfield 85, 3) := by decide +kernel
theorem d_O_multiplication_176 : decode b_O_multiplication 176 = .ok (.aload_n 2, 1) := by decide +kernel
theorem d_O_multiplication_177 : decode b_O_multiplication 177 = .ok (.getfield 85, 3) := by decide +kernel
theorem d_O_multiplication_180 : decode b_O_multiplication 180 = .ok (.lmul, 1) := by decide +kernel
theorem d_O_multiplication_181 : decode b_O_multiplication 181 = .ok (.lstore 11, 2) := by decide +kernel
theorem d_O_multiplication_183 : decode b_O_multiplication 183 = .ok (.aload_n 0, 1) := by decide +kernel
theorem d_O_multiplication_184 : decode b_O_multiplication 184 = .ok (.lload 5, 2) := by decide +kernel
theorem d_O_multiplication_186 : decode b_O_multiplication 186 = .ok (.lload 7, 2) := by decide +kernel
theorem d_O_multiplication_188 : decode b_O_multiplication 188 = .ok (.invokestatic 117, 3) := by decide +kernel
theorem d_O_multiplication_191 : decode b_O_multiplication 191 = .ok (.lload 9, 2) := by decide +kernel
theorem d_O_multiplication_193 : decode b_O_multiplication 193 = .ok (.lload 11, 2) := by decide +kernel
theorem d_O_multiplication_195 : decode b_O_multiplication 195 = .ok (.invokestatic 117, 3) := by decide +kernel
theorem d_O_multiplication_198 : decode b_O_multiplication 198 = .ok (.invokestatic 117, 3) := by decide +kernel
theorem d_O_multiplication_201 : decode b_O_multiplication 201 = .ok (.lload 5, 2) := by decide +kernel
theorem d_O_multiplication_203 : decode b_O_multiplication 203 = .ok (.lload 7, 2) := by decide +kernel
theorem d_O_multiplication_205 : decode b_O_multiplication 205 = .ok (.invokestatic 119, 3) := by decide +kernel
theorem d_O_multiplication_208 : decode b_O_multiplication 208 = .ok (.lload 9, 2) := by decide +kernel
theorem d_O_multiplication_210 : decode b_O_multiplication 210 = .ok (.lload 11, 2) := by decide +kernel
theorem d_O_multiplication_212 : decode b_O_multiplication 212 = .ok (.invokestatic 119, 3) := by decide +kernel
theorem d_O_multiplication_215 : decode b_O_multiplication 215 = .ok (.invokestatic 119, 3) := by decide +kernel
theorem d_O_multiplication_218 : decode b_O_multiplication 218 = .ok (.invokevirtual 88, 3) := by decide +kernel
theorem d_O_multiplication_221 : decode b_O_multiplication 221 = .ok (.return_, 1) := by decide +kernel
def f_O_multiplication_218g (z0 : VV) (z1 : VV) (z2 : VV) (g218 : VV) : VV := g218
def f_O_multiplication_181v (z0 : VV) (z1 : VV) (z2 : VV) (v181 : Int64) (v170 : Int64) (v159 : Int64) (v148 : Int64) (w181v_0_0 : Int64) (w181v_0_1 : Int64) (w181v_0_2 : Int64) (w181v_0_3 : Int64) (w181v_0_4 : Int64) (w181v_0_5 : Int64) (w181v_0_6 : Bool) : VV := f_O_multiplication_218g z0 z1 z2 (f_V_saySigned ((w181v_0_0, w181v_0_1, w181v_0_2, w181v_0_3, w181v_0_4, w181v_0_5, w181v_0_6)) (jmmin (jmmin v148 v159) (jmmin v170 v181)) (jmmax (jmmax v148 v159) (jmmax v170 v181)))
def f_O_multiplication_170v (z0 : VV) (z1 : VV) (z2 : VV) (v170 : Int64) (v159 : Int64) (v148 : Int64) (w170v_0_0 : Int64) (w170v_0_1 : Int64) (w170v_0_2 : Int64) (w170v_0_3 : Int64) (w170v_0_4 : Int64) (w170v_0_5 : Int64) (w170v_0_6 : Bool) : VV := f_O_multiplication_181v z0 z1 z2 (z1.2.2.2.2.2.1 * z2.2.2.2.2.2.1) v170 v159 v148 w170v_0_0 w170v_0_1 w170v_0_2 w170v_0_3 w170v_0_4 w170v_0_5 w170v_0_6
def f_O_multiplication_159v (z0 : VV) (z1 : VV) (z2 : VV) (v159 : Int64) (v148 : Int64) (w159v_0_0 : Int64) (w159v_0_1 : Int64) (w159v_0_2 : Int64) (w159v_0_3 : Int64) (w159v_0_4 : Int64) (w159v_0_5 : Int64) (w159v_0_6 : Bool) : VV := f_O_multiplication_170v z0 z1 z2 (z1.2.2.2.2.2.1 * z2.2.2.2.2.1) v159 v148 w159v_0_0 w159v_0_1 w159v_0_2 w159v_0_3 w159v_0_4 w159v_0_5 w159v_0_6
def f_O_multiplication_148v (z0 : VV) (z1 : VV) (z2 : VV) (v148 : Int64) (w148v_0_0 : Int64) (w148v_0_1 : Int64) (w148v_0_2 : Int64) (w148v_0_3 : Int64) (w148v_0_4 : Int64) (w148v_0_5 : Int64) (w148v_0_6 : Bool) : VV := f_O_multiplication_159v z0 z1 z2 (z1.2.2.2.2.1 * z2.2.2.2.2.2.1) v148 w148v_0_0 w148v_0_1 w148v_0_2 w148v_0_3 w148v_0_4 w148v_0_5 w148v_0_6
def f_O_multiplication_83 (z0 : VV) (z1 : VV) (z2 : VV) (w83_0_0 : Int64) (w83_0_1 : Int64) (w83_0_2 : Int64) (w83_0_3 : Int64) (w83_0_4 : Int64) (w83_0_5 : Int64) (w83_0_6 : Bool) : VV := (if (f_N_productFits z1.2.2.2.2.1 z2.2.2.2.2.1) = 0 then ((w83_0_0, w83_0_1, w83_0_2, w83_0_3, w83_0_4, w83_0_5, w83_0_6)) else (if (f_N_productFits z1.2.2.2.2.1 z2.2.2.2.2.2.1) = 0 then ((w83_0_0, w83_0_1, w83_0_2, w83_0_3, w83_0_4, w83_0_5, w83_0_6)) else (if (f_N_productFits z1.2.2.2.2.2.1 z2.2.2.2.2.1) = 0 then ((w83_0_0, w83_0_1, w83_0_2, w83_0_3, w83_0_4, w83_0_5, w83_0_6)) else (if (f_N_productFits z1.2.2.2.2.2.1 z2.2.2.2.2.2.1) = 0 then ((w83_0_0, w83_0_1, w83_0_2, w83_0_3, w83_0_4, w83_0_5, w83_0_6)) else f_O_multiplication_148v z0 z1 z2 (z1.2.2.2.2.1 * z2.2.2.2.2.1) w83_0_0 w83_0_1 w83_0_2 w83_0_3 w83_0_4 w83_0_5 w83_0_6))))
def f_O_multiplication_80g (z0 : VV) (z1 : VV) (z2 : VV) (g80 : VV) : VV := f_O_multiplication_83 z0 z1 z2 g80.1 g80.2.1 g80.2.2.1 g80.2.2.2.1 g80.2.2.2.2.1 g80.2.2.2.2.2.1 g80.2.2.2.2.2.2
def f_O_multiplication_44g (z0 : VV) (z1 : VV) (z2 : VV) (g44 : VV) : VV := (if (f_N_unsignedProductFits z1.2.2.2.1 z2.2.2.2.1) = 0 then f_O_multiplication_83 z0 z1 z2 g44.1 g44.2.1 g44.2.2.1 g44.2.2.2.1 g44.2.2.2.2.1 g44.2.2.2.2.2.1 g44.2.2.2.2.2.2 else f_O_multiplication_80g z0 z1 z2 (f_V_sayUnsigned g44 (z1.2.2.1 * z2.2.2.1) (z1.2.2.2.1 * z2.2.2.2.1)))
def f_O_multiplication_19v (z0 : VV) (z1 : VV) (z2 : VV) (v19 : Int32) (v9 : Int32) : VV := f_O_multiplication_44g z0 z1 z2 (f_V_sayBits z0 (z1.1 * z2.1) ((f_N_lowest (jnmin v9 v19)) ^^^ (-1 : Int64)))
def f_O_multiplication_9v (z0 : VV) (z1 : VV) (z2 : VV) (v9 : Int32) : VV := f_O_multiplication_19v z0 z1 z2 ((f_O_knownBelow z2) + (f_O_zerosBelow z1)) v9
def f_O_multiplication (z0 : VV) (z1 : VV) (z2 : VV) : VV := f_O_multiplication_9v z0 z1 z2 ((f_O_knownBelow z1) + (f_O_zerosBelow z2))
set_option maxRecDepth 100000 in
set_option maxHeartbeats 4000000 in
theorem c_O_multiplication (l : Launch) (dC : Nat → ClassId) (dI : Nat → Nat → Nat) (h0 : Nat) (h1 : Nat) (h2 : Nat) (sz : Nat) (z0 : VV) (z1 : VV) (z2 : VV) : Met l y_O_multiplication w_O_multiplication ({ frames := 3, cells := 0, slots := 0, locals := 71 } : Room) (va_Pc [.ref h0, .ref h1, .ref h2] (mP (dC, dI) [(h0, vE z0), (h1, vE z1), (h2, vE z2)] sz)) (va_Qv (fun _ : Unit => True) (mB (dC, dI) (va_A [(h0, vE z0), (h1, vE z1), (h2, vE z2)] sz) [(h0, vE (f_O_multiplication z0 z1 z2)), (h1, vE z1), (h2, vE z2)]) (va_A [(h0, vE z0), (h1, vE z1), (h2, vE z2)] sz)) 0 0 (va_A [(h0, vE z0), (h1, vE z1), (h2, vE z2)] sz) := by
  refine Met.ofW (cc := b_O_multiplication) (maxL := 13) (ret := none) (by decide) rfl ?_
  intro p e s m args below meth c s₁ B hml hv
  obtain ⟨rfl, hsz, hP, hK, hD0⟩ := hv
  have hx := B.exec
  have hb := B.bytes
  have hr := B.returns
  have hts := atoms_spec (ws := w_O_multiplication) B.pre
  have hG : ∀ w ∈ gG, w.before _ s = true := fun w h => hts w (List.mem_cons_of_mem _ h)
  have hown : s.vm.findClass R_O = some m.cls := findClass_of_methodNamed B.named
  have hlocks := B.notSynchronized
  subst hsz
  have hD := hD0.self (sz := s.heap.size)
  generalize hAe : va_A [(h0, vE z0), (h1, vE z1), (h2, vE z2)] s.heap.size = A at hD ⊢
  have hA : ∀ q : Nat, s.heap.size ≤ q → A q := fun q h => by rw [← hAe]; exact Or.inr h
  have hS : va_S A s.heap s.heap [] := va_S.rf
  have hP : va_P (dC, dI) classes [(h0, .inr (0, [.long (z0.1), .long (z0.2.1), .long (z0.2.2.1), .long (z0.2.2.2.1), .long (z0.2.2.2.2.1), .long (z0.2.2.2.2.2.1), .int (bI z0.2.2.2.2.2.2)])), (h1, .inr (0, [.long (z1.1), .long (z1.2.1), .long (z1.2.2.1), .long (z1.2.2.2.1), .long (z1.2.2.2.2.1), .long (z1.2.2.2.2.2.1), .int (bI z1.2.2.2.2.2.2)])), (h2, .inr (0, [.long (z2.1), .long (z2.2.1), .long (z2.2.2.1), .long (z2.2.2.2.1), .long (z2.2.2.2.2.1), .long (z2.2.2.2.2.2.1), .int (bI z2.2.2.2.2.2.2)]))] s.heap := hP
  have hD : va_D A [(h0, .inr (0, [.long (z0.1), .long (z0.2.1), .long (z0.2.2.1), .long (z0.2.2.2.1), .long (z0.2.2.2.2.1), .long (z0.2.2.2.2.2.1), .int (bI z0.2.2.2.2.2.2)])), (h1, .inr (0, [.long (z1.1), .long (z1.2.1), .long (z1.2.2.1), .long (z1.2.2.2.1), .long (z1.2.2.2.2.1), .long (z1.2.2.2.2.2.1), .int (bI z1.2.2.2.2.2.2)])), (h2, .inr (0, [.long (z2.1), .long (z2.2.1), .long (z2.2.2.1), .long (z2.2.2.2.1), .long (z2.2.2.2.2.1), .long (z2.2.2.2.2.2.1), .int (bI z2.2.2.2.2.2.2)]))] := hD
  have hl := lv_entry ([.ref h0, .ref h1, .ref h2]) (n := 13) (Nat.le_of_ble_eq_true rfl)
  rw [lg_entry_eq]
  generalize (lg_sl ([.ref h0, .ref h1, .ref h2]) ++ List.replicate (13 - (lg_sl ([.ref h0, .ref h1, .ref h2])).length) Slot.unset).toArray = ls at hl ⊢
  have hl : lv_has ls 13 [(0, .ref h0), (1, .ref h1), (2, .ref h2)] := hl
  have K218g : ∀ (g218 : VV) (hj : f_O_multiplication z0 z1 z2 = f_O_multiplication_218g z0 z1 z2 g218) (H : Heap) (locs : List Loc) (hP : va_P (dC, dI) classes [(h0, .inr (0, [.long (g218.1), .long (g218.2.1), .long (g218.2.2.1), .long (g218.2.2.2.1), .long (g218.2.2.2.2.1), .long (g218.2.2.2.2.2.1), .int (bI g218.2.2.2.2.2.2)])), (h1, .inr (0, [.long (z1.1), .long (z1.2.1), .long (z1.2.2.1), .long (z1.2.2.2.1), .long (z1.2.2.2.2.1), .long (z1.2.2.2.2.2.1), .int (bI z1.2.2.2.2.2.2)])), (h2, .inr (0, [.long (z2.1), .long (z2.2.1), .long (z2.2.2.1), .long (z2.2.2.2.1), .long (z2.2.2.2.2.1), .long (z2.2.2.2.2.2.1), .int (bI z2.2.2.2.2.2.2)]))] H) (hD : va_D A [(h0, .inr (0, [.long (g218.1), .long (g218.2.1), .long (g218.2.2.1), .long (g218.2.2.2.1), .long (g218.2.2.2.2.1), .long (g218.2.2.2.2.2.1), .int (bI g218.2.2.2.2.2.2)])), (h1, .inr (0, [.long (z1.1), .long (z1.2.1), .long (z1.2.2.1), .long (z1.2.2.2.1), .long (z1.2.2.2.2.1), .long (z1.2.2.2.2.2.1), .int (bI z1.2.2.2.2.2.2)])), (h2, .inr (0, [.long (z2.1), .long (z2.2.1), .long (z2.2.2.1), .long (z2.2.2.2.1), .long (z2.2.2.2.2.1), .long (z2.2.2.2.2.2.1), .int (bI z2.2.2.2.2.2.2)]))]) (hS : va_S A s.heap H locs) (ls : Array Slot) (hl : lv_has ls 13 []), W p l e (headSpec w_O_multiplication ({ frames := 3, cells := 0, slots := 0, locals := 71 } : Room)).room s m ([.ref h0, .ref h1, .ref h2] : List Value).toArray below meth c H locs 0 0 (MQ below (va_Qv (fun _ : Unit => True) (mB (dC, dI) A [(h0, vE (f_O_multiplication z0 z1 z2)), (h1, vE z1), (h2, vE z2)]) A) ([.ref h0, .ref h1, .ref h2] : List Value).toArray s 0 0 A) (F0 m 221 ls []) := by
    intro g218 hj H locs hP hD hS ls hl
    have fe : f_O_multiplication z0 z1 z2 = g218 := hj.trans rfl
    exact W.vret hx hb hr (fun t ht hW => ⟨⟨(), rfl, trivial, by rw [ht, fe]; (try simp only [vE_mk]); exact hP, by rw [fe]; (try simp only [vE_mk]); exact hD⟩, hS.F ht⟩) hS.2.2 d_O_multiplication_221
  have K181v : ∀ (v181 : Int64) (v170 : Int64) (v159 : Int64) (v148 : Int64) (w181v_0_0 : Int64) (w181v_0_1 : Int64) (w181v_0_2 : Int64) (w181v_0_3 : Int64) (w181v_0_4 : Int64) (w181v_0_5 : Int64) (w181v_0_6 : Bool) (hj : f_O_multiplication z0 z1 z2 = f_O_multiplication_181v z0 z1 z2 v181 v170 v159 v148 w181v_0_0 w181v_0_1 w181v_0_2 w181v_0_3 w181v_0_4 w181v_0_5 w181v_0_6) (H : Heap) (locs : List Loc) (hP : va_P (dC, dI) classes [(h0, .inr (0, [.long (w181v_0_0), .long (w181v_0_1), .long (w181v_0_2), .long (w181v_0_3), .long (w181v_0_4), .long (w181v_0_5), .int (bI w181v_0_6)])), (h1, .inr (0, [.long (z1.1), .long (z1.2.1), .long (z1.2.2.1), .long (z1.2.2.2.1), .long (z1.2.2.2.2.1), .long (z1.2.2.2.2.2.1), .int (bI z1.2.2.2.2.2.2)])), (h2, .inr (0, [.long (z2.1), .long (z2.2.1), .long (z2.2.2.1), .long (z2.2.2.2.1), .long (z2.2.2.2.2.1), .long (z2.2.2.2.2.2.1), .int (bI z2.2.2.2.2.2.2)]))] H) (hD : va_D A [(h0, .inr (0, [.long (w181v_0_0), .long (w181v_0_1), .long (w181v_0_2), .long (w181v_0_3), .long (w181v_0_4), .long (w181v_0_5), .int (bI w181v_0_6)])), (h1, .inr (0, [.long (z1.1), .long (z1.2.1), .long (z1.2.2.1), .long (z1.2.2.2.1), .long (z1.2.2.2.2.1), .long (z1.2.2.2.2.2.1), .int (bI z1.2.2.2.2.2.2)])), (h2, .inr (0, [.long (z2.1), .long (z2.2.1), .long (z2.2.2.1), .long (z2.2.2.2.1), .long (z2.2.2.2.2.1), .long (z2.2.2.2.2.2.1), .int (bI z2.2.2.2.2.2.2)]))]) (hS : va_S A s.heap H locs) (ls : Array Slot) (hl : lv_has ls 13 [(11, .long (v181)), (9, .long (v170)), (7, .long (v159)), (5, .long (v148)), (0, .ref h0)]), W p l e (headSpec w_O_multiplication ({ frames := 3, cells := 0, slots := 0, locals := 71 } : Room)).room s m ([.ref h0, .ref h1, .ref h2] : List Value).toArray below meth c H locs 0 0 (MQ below (va_Qv (fun _ : Unit => True) (mB (dC, dI) A [(h0, vE (f_O_multiplication z0 z1 z2)), (h1, vE z1), (h2, vE z2)]) A) ([.ref h0, .ref h1, .ref h2] : List Value).toArray s 0 0 A) (F0 m 183 ls []) := by
    intro v181 v170 v159 v148 w181v_0_0 w181v_0_1 w181v_0_2 w181v_0_3 w181v_0_4 w181v_0_5 w181v_0_6 hj H locs hP hD hS ls hl
    refine lv_aload_n hx hb d_O_multiplication_183 rfl (lv_at hl 4 rfl) ?_
    refine lv_lload hx hb d_O_multiplication_184 (lv_at hl 3 rfl) ?_
    refine lv_lload hx hb d_O_multiplication_186 (lv_at hl 2 rfl) ?_
    refine va_mmin_long hx hb (hml.trans hl.1.symm) hown (hG (.methodLink R_O 117 Lib.MathLoose.min_long.x) gw236) (hG (.static Lib.MathLoose.min_long.x) gw137) (hG (.initialized "java/lang/Math") gw3) (hG (.code Lib.MathLoose.min_long.x Lib.MathLoose.min_long.code 4 (some .long)) gw138) (Nat.le_of_ble_eq_true rfl) (Nat.le_of_ble_eq_true rfl) (Nat.zero_le _) (Nat.zero_le _) d_O_multiplication_188 ?_
    refine lv_lload hx hb d_O_multiplication_191 (lv_at hl 1 rfl) ?_
    refine lv_lload hx hb d_O_multiplication_193 (lv_at hl 0 rfl) ?_
    refine va_mmin_long hx hb (hml.trans hl.1.symm) hown (hG (.methodLink R_O 117 Lib.MathLoose.min_long.x) gw236) (hG (.static Lib.MathLoose.min_long.x) gw137) (hG (.initialized "java/lang/Math") gw3) (hG (.code Lib.MathLoose.min_long.x Lib.MathLoose.min_long.code 4 (some .long)) gw138) (Nat.le_of_ble_eq_true rfl) (Nat.le_of_ble_eq_true rfl) (Nat.zero_le _) (Nat.zero_le _) d_O_multiplication_195 ?_
    refine va_mmin_long hx hb (hml.trans hl.1.symm) hown (hG (.methodLink R_O 117 Lib.MathLoose.min_long.x) gw236) (hG (.static Lib.MathLoose.min_long.x) gw137) (hG (.initialized "java/lang/Math") gw3) (hG (.code Lib.MathLoose.min_long.x Lib.MathLoose.min_long.code 4 (some .long)) gw138) (Nat.le_of_ble_eq_true rfl) (Nat.le_of_ble_eq_true rfl) (Nat.zero_le _) (Nat.zero_le _) d_O_multiplication_198 ?_
    refine lv_lload hx hb d_O_multiplication_201 (lv_at hl 3 rfl) ?_
    refine lv_lload hx hb d_O_multiplication_203 (lv_at hl 2 rfl) ?_
    refine va_mmax_long hx hb (hml.trans hl.1.symm) hown (hG (.methodLink R_O 119 Lib.MathLoose.max_long.x) gw237) (hG (.static Lib.MathLoose.max_long.x) gw120) (hG (.initialized "java/lang/Math") gw3) (hG (.code Lib.MathLoose.max_long.x Lib.MathLoose.max_long.code 4 (some .long)) gw121) (Nat.le_of_ble_eq_true rfl) (Nat.le_of_ble_eq_true rfl) (Nat.zero_le _) (Nat.zero_le _) d_O_multiplication_205 ?_
    refine lv_lload hx hb d_O_multiplication_208 (lv_at hl 1 rfl) ?_
    refine lv_lload hx hb d_O_multiplication_210 (lv_at hl 0 rfl) ?_
    refine va_mmax_long hx hb (hml.trans hl.1.symm) hown (hG (.methodLink R_O 119 Lib.MathLoose.max_long.x) gw237) (hG (.static Lib.MathLoose.max_long.x) gw120) (hG (.initialized "java/lang/Math") gw3) (hG (.code Lib.MathLoose.max_long.x Lib.MathLoose.max_long.code 4 (some .long)) gw121) (Nat.le_of_ble_eq_true rfl) (Nat.le_of_ble_eq_true rfl) (Nat.zero_le _) (Nat.zero_le _) d_O_multiplication_212 ?_
    refine va_mmax_long hx hb (hml.trans hl.1.symm) hown (hG (.methodLink R_O 119 Lib.MathLoose.max_long.x) gw237) (hG (.static Lib.MathLoose.max_long.x) gw120) (hG (.initialized "java/lang/Math") gw3) (hG (.code Lib.MathLoose.max_long.x Lib.MathLoose.max_long.code 4 (some .long)) gw121) (Nat.le_of_ble_eq_true rfl) (Nat.le_of_ble_eq_true rfl) (Nat.zero_le _) (Nat.zero_le _) d_O_multiplication_215 ?_
    refine mg_v (F := f_V_saySigned ((w181v_0_0, w181v_0_1, w181v_0_2, w181v_0_3, w181v_0_4, w181v_0_5, w181v_0_6)) (jmmin (jmmin v148 v159) (jmmin v170 v181)) (jmmax (jmmax v148 v159) (jmmax v170 v181))) (wc := [(h0, vE ((w181v_0_0, w181v_0_1, w181v_0_2, w181v_0_3, w181v_0_4, w181v_0_5, w181v_0_6)))]) (w1 := fun g218 => [(h0, vE g218)]) (wr := [(h1, .inr (0, [.long (z1.1), .long (z1.2.1), .long (z1.2.2.1), .long (z1.2.2.2.1), .long (z1.2.2.2.2.1), .long (z1.2.2.2.2.2.1), .int (bI z1.2.2.2.2.2.2)])), (h2, .inr (0, [.long (z2.1), .long (z2.2.1), .long (z2.2.2.1), .long (z2.2.2.2.1), .long (z2.2.2.2.2.1), .long (z2.2.2.2.2.2.1), .int (bI z2.2.2.2.2.2.2)]))]) (ws' := fun g218 => [(h0, .inr (0, [.long (g218.1), .long (g218.2.1), .long (g218.2.2.1), .long (g218.2.2.2.1), .long (g218.2.2.2.2.1), .long (g218.2.2.2.2.2.1), .int (bI g218.2.2.2.2.2.2)])), (h1, .inr (0, [.long (z1.1), .long (z1.2.1), .long (z1.2.2.1), .long (z1.2.2.2.1), .long (z1.2.2.2.2.1), .long (z1.2.2.2.2.2.1), .int (bI z1.2.2.2.2.2.2)])), (h2, .inr (0, [.long (z2.1), .long (z2.2.1), .long (z2.2.2.1), .long (z2.2.2.2.1), .long (z2.2.2.2.2.1), .long (z2.2.2.2.2.2.1), .int (bI z2.2.2.2.2.2.2)]))]) (va_runV (As := [.long (jmmin (jmmin v148 v159) (jmmin v170 v181)), .long (jmmax (jmmax v148 v159) (jmmax v170 v181))]) (rest := []) ⟨hx, hb, hml, hown, hts⟩ (c_V_saySigned l dC dI h0 H.size ((w181v_0_0, w181v_0_1, w181v_0_2, w181v_0_3, w181v_0_4, w181v_0_5, w181v_0_6)) (jmmin (jmmin v148 v159) (jmmin v170 v181)) (jmmax (jmmax v148 v159) (jmmax v170 v181))) (cwV 2 hts (gV gw197 gw90 gw91 gw1 gw92) rfl rfl rfl (by decide +kernel) ⟨(Nat.le_of_ble_eq_true rfl), (Nat.le_of_ble_eq_true rfl)⟩) ⟨blm, va_recv hK hP (ci := 0) (q0 := 0) rfl rfl, fun U hU hW => ⟨rfl, by rw [hU], by rw [hU]; exact hP.sub [0] rfl, va_K.moved hW.alike hK, (hD.sub [0] (by decide) rfl).weaken (fun _ _ _ _ => trivial)⟩⟩ rfl rfl hl.1 rfl (lv_room (Nat.le_of_ble_eq_true rfl)) d_O_multiplication_218 ⟨Nat.zero_le _, Nat.zero_le _⟩) hP hD hS hA [0] [1, 2] [2, 0, 1] rfl rfl (by decide) (by decide) (fun _ => rfl) (by decide) (fun g218 eg218 H locs hP hD hS => ?_)
    refine K218g g218 (Eq.trans (hj.trans rfl) (congrArg (fun g218 => f_O_multiplication_218g z0 z1 z2 g218) eg218)) H locs ?_ ?_ hS ls (lv_sub hl [] rfl)
    · with_reducible exact hP
    · with_reducible exact hD
  have K170v : ∀ (v170 : Int64) (v159 : Int64) (v148 : Int64) (w170v_0_0 : Int64) (w170v_0_1 : Int64) (w170v_0_2 : Int64) (w170v_0_3 : Int64) (w170v_0_4 : Int64) (w170v_0_5 : Int64) (w170v_0_6 : Bool) (hj : f_O_multiplication z0 z1 z2 = f_O_multiplication_170v z0 z1 z2 v170 v159 v148 w170v_0_0 w170v_0_1 w170v_0_2 w170v_0_3 w170v_0_4 w170v_0_5 w170v_0_6) (H : Heap) (locs : List Loc) (hP : va_P (dC, dI) classes [(h0, .inr (0, [.long (w170v_0_0), .long (w170v_0_1), .long (w170v_0_2), .long (w170v_0_3), .long (w170v_0_4), .long (w170v_0_5), .int (bI w170v_0_6)])), (h1, .inr (0, [.long (z1.1), .long (z1.2.1), .long (z1.2.2.1), .long (z1.2.2.2.1), .long (z1.2.2.2.2.1), .long (z1.2.2.2.2.2.1), .int (bI z1.2.2.2.2.2.2)])), (h2, .inr (0, [.long (z2.1), .long (z2.2.1), .long (z2.2.2.1), .long (z2.2.2.2.1), .long (z2.2.2.2.2.1), .long (z2.2.2.2.2.2.1), .int (bI z2.2.2.2.2.2.2)]))] H) (hD : va_D A [(h0, .inr (0, [.long (w170v_0_0), .long (w170v_0_1), .long (w170v_0_2), .long (w170v_0_3), .long (w170v_0_4), .long (w170v_0_5), .int (bI w170v_0_6)])), (h1, .inr (0, [.long (z1.1), .long (z1.2.1), .long (z1.2.2.1), .long (z1.2.2.2.1), .long (z1.2.2.2.2.1), .long (z1.2.2.2.2.2.1), .int (bI z1.2.2.2.2.2.2)])), (h2, .inr (0, [.long (z2.1), .long (z2.2.1), .long (z2.2.2.1), .long (z2.2.2.2.1), .long (z2.2.2.2.2.1), .long (z2.2.2.2.2.2.1), .int (bI z2.2.2.2.2.2.2)]))]) (hS : va_S A s.heap H locs) (ls : Array Slot) (hl : lv_has ls 13 [(9, .long (v170)), (7, .long (v159)), (5, .long (v148)), (0, .ref h0), (1, .ref h1), (2, .ref h2)]), W p l e (headSpec w_O_multiplication ({ frames := 3, cells := 0, slots := 0, locals := 71 } : Room)).room s m ([.ref h0, .ref h1, .ref h2] : List Value).toArray below meth c H locs 0 0 (MQ below (va_Qv (fun _ : Unit => True) (mB (dC, dI) A [(h0, vE (f_O_multiplication z0 z1 z2)), (h1, vE z1), (h2, vE z2)]) A) ([.ref h0, .ref h1, .ref h2] : List Value).toArray s 0 0 A) (F0 m 172 ls []) := by
    intro v170 v159 v148 w170v_0_0 w170v_0_1 w170v_0_2 w170v_0_3 w170v_0_4 w170v_0_5 w170v_0_6 hj H locs hP hD hS ls hl
    refine lv_aload_n hx hb d_O_multiplication_172 rfl (lv_at hl 4 rfl) ?_
    refine va_get (D := (dC, dI)) (ci := 0) (v := .long (z1.2.2.2.2.2.1)) (C := R_V) (T := F_V) (N := 7) hx hb hts (fun w h => List.mem_cons_of_mem _ (uw_V w h)) hown hK hP 1 rfl rfl 5 (by decide) (hG (.fieldLink R_O 85 "ValueSieve$Value" "greatest" "J") gw38) (fun _ h9 => h9) rfl d_O_multiplication_173 ?_
    refine lv_aload_n hx hb d_O_multiplication_176 rfl (lv_at hl 5 rfl) ?_
    refine va_get (D := (dC, dI)) (ci := 0) (v := .long (z2.2.2.2.2.2.1)) (C := R_V) (T := F_V) (N := 7) hx hb hts (fun w h => List.mem_cons_of_mem _ (uw_V w h)) hown hK hP 2 rfl rfl 5 (by decide) (hG (.fieldLink R_O 85 "ValueSieve$Value" "greatest" "J") gw38) (fun _ h9 => h9) rfl d_O_multiplication_177 ?_
    refine lv_lmul hx hb d_O_multiplication_180 ?_
    refine lv_topl (fun v181 ev181 => ?_)
    refine lv_lstore (lv' := [(11, .long (v181)), (9, .long (v170)), (7, .long (v159)), (5, .long (v148)), (0, .ref h0), (1, .ref h1), (2, .ref h2)]) hx hb d_O_multiplication_181 hl (by decide) rfl (fun ls hl => ?_)
    refine K181v v181 v170 v159 v148 w170v_0_0 w170v_0_1 w170v_0_2 w170v_0_3 w170v_0_4 w170v_0_5 w170v_0_6 (Eq.trans (hj.trans rfl) (congrArg (fun v181 => f_O_multiplication_181v z0 z1 z2 v181 v170 v159 v148 w170v_0_0 w170v_0_1 w170v_0_2 w170v_0_3 w170v_0_4 w170v_0_5 w170v_0_6) ev181.symm)) H locs ?_ ?_ hS ls (lv_sub hl [0, 1, 2, 3, 4] rfl)
    · with_reducible exact hP
    · with_reducible exact hD
  have K159v : ∀ (v159 : Int64) (v148 : Int64) (w159v_0_0 : Int64) (w159v_0_1 : Int64) (w159v_0_2 : Int64) (w159v_0_3 : Int64) (w159v_0_4 : Int64) (w159v_0_5 : Int64) (w159v_0_6 : Bool) (hj : f_O_multiplication z0 z1 z2 = f_O_multiplication_159v z0 z1 z2 v159 v148 w159v_0_0 w159v_0_1 w159v_0_2 w159v_0_3 w159v_0_4 w159v_0_5 w159v_0_6) (H : Heap) (locs : List Loc) (hP : va_P (dC, dI) classes [(h0, .inr (0, [.long (w159v_0_0), .long (w159v_0_1), .long (w159v_0_2), .long (w159v_0_3), .long (w159v_0_4), .long (w159v_0_5), .int (bI w159v_0_6)])), (h1, .inr (0, [.long (z1.1), .long (z1.2.1), .long (z1.2.2.1), .long (z1.2.2.2.1), .long (z1.2.2.2.2.1), .long (z1.2.2.2.2.2.1), .int (bI z1.2.2.2.2.2.2)])), (h2, .inr (0, [.long (z2.1), .long (z2.2.1), .long (z2.2.2.1), .long (z2.2.2.2.1), .long (z2.2.2.2.2.1), .long (z2.2.2.2.2.2.1), .int (bI z2.2.2.2.2.2.2)]))] H) (hD : va_D A [(h0, .inr (0, [.long (w159v_0_0), .long (w159v_0_1), .long (w159v_0_2), .long (w159v_0_3), .long (w159v_0_4), .long (w159v_0_5), .int (bI w159v_0_6)])), (h1, .inr (0, [.long (z1.1), .long (z1.2.1), .long (z1.2.2.1), .long (z1.2.2.2.1), .long (z1.2.2.2.2.1), .long (z1.2.2.2.2.2.1), .int (bI z1.2.2.2.2.2.2)])), (h2, .inr (0, [.long (z2.1), .long (z2.2.1), .long (z2.2.2.1), .long (z2.2.2.2.1), .long (z2.2.2.2.2.1), .long (z2.2.2.2.2.2.1), .int (bI z2.2.2.2.2.2.2)]))]) (hS : va_S A s.heap H locs) (ls : Array Slot) (hl : lv_has ls 13 [(7, .long (v159)), (5, .long (v148)), (0, .ref h0), (1, .ref h1), (2, .ref h2)]), W p l e (headSpec w_O_multiplication ({ frames := 3, cells := 0, slots := 0, locals := 71 } : Room)).room s m ([.ref h0, .ref h1, .ref h2] : List Value).toArray below meth c H locs 0 0 (MQ below (va_Qv (fun _ : Unit => True) (mB (dC, dI) A [(h0, vE (f_O_multiplication z0 z1 z2)), (h1, vE z1), (h2, vE z2)]) A) ([.ref h0, .ref h1, .ref h2] : List Value).toArray s 0 0 A) (F0 m 161 ls []) := by
    intro v159 v148 w159v_0_0 w159v_0_1 w159v_0_2 w159v_0_3 w159v_0_4 w159v_0_5 w159v_0_6 hj H locs hP hD hS ls hl
    refine lv_aload_n hx hb d_O_multiplication_161 rfl (lv_at hl 3 rfl) ?_
    refine va_get (D := (dC, dI)) (ci := 0) (v := .long (z1.2.2.2.2.2.1)) (C := R_V) (T := F_V) (N := 7) hx hb hts (fun w h => List.mem_cons_of_mem _ (uw_V w h)) hown hK hP 1 rfl rfl 5 (by decide) (hG (.fieldLink R_O 85 "ValueSieve$Value" "greatest" "J") gw38) (fun _ h9 => h9) rfl d_O_multiplication_162 ?_
    refine lv_aload_n hx hb d_O_multiplication_165 rfl (lv_at hl 4 rfl) ?_
    refine va_get (D := (dC, dI)) (ci := 0) (v := .long (z2.2.2.2.2.1)) (C := R_V) (T := F_V) (N := 7) hx hb hts (fun w h => List.mem_cons_of_mem _ (uw_V w h)) hown hK hP 2 rfl rfl 4 (by decide) (hG (.fieldLink R_O 79 "ValueSieve$Value" "least" "J") gw34) (fun _ h9 => h9) rfl d_O_multiplication_166 ?_
    refine lv_lmul hx hb d_O_multiplication_169 ?_
    refine lv_topl (fun v170 ev170 => ?_)
    refine lv_lstore (lv' := [(9, .long (v170)), (7, .long (v159)), (5, .long (v148)), (0, .ref h0), (1, .ref h1), (2, .ref h2)]) hx hb d_O_multiplication_170 hl (by decide) rfl (fun ls hl => ?_)
    refine K170v v170 v159 v148 w159v_0_0 w159v_0_1 w159v_0_2 w159v_0_3 w159v_0_4 w159v_0_5 w159v_0_6 (Eq.trans (hj.trans rfl) (congrArg (fun v170 => f_O_multiplication_170v z0 z1 z2 v170 v159 v148 w159v_0_0 w159v_0_1 w159v_0_2 w159v_0_3 w159v_0_4 w159v_0_5 w159v_0_6) ev170.symm)) H locs ?_ ?_ hS ls (lv_sub hl [0, 1, 2, 3, 4, 5] rfl)
    · with_reducible exact hP
    · with_reducible exact hD
  have K148v : ∀ (v148 : Int64) (w148v_0_0 : Int64) (w148v_0_1 : Int64) (w148v_0_2 : Int64) (w148v_0_3 : Int64) (w148v_0_4 : Int64) (w148v_0_5 : Int64) (w148v_0_6 : Bool) (hj : f_O_multiplication z0 z1 z2 = f_O_multiplication_148v z0 z1 z2 v148 w148v_0_0 w148v_0_1 w148v_0_2 w148v_0_3 w148v_0_4 w148v_0_5 w148v_0_6) (H : Heap) (locs : List Loc) (hP : va_P (dC, dI) classes [(h0, .inr (0, [.long (w148v_0_0), .long (w148v_0_1), .long (w148v_0_2), .long (w148v_0_3), .long (w148v_0_4), .long (w148v_0_5), .int (bI w148v_0_6)])), (h1, .inr (0, [.long (z1.1), .long (z1.2.1), .long (z1.2.2.1), .long (z1.2.2.2.1), .long (z1.2.2.2.2.1), .long (z1.2.2.2.2.2.1), .int (bI z1.2.2.2.2.2.2)])), (h2, .inr (0, [.long (z2.1), .long (z2.2.1), .long (z2.2.2.1), .long (z2.2.2.2.1), .long (z2.2.2.2.2.1), .long (z2.2.2.2.2.2.1), .int (bI z2.2.2.2.2.2.2)]))] H) (hD : va_D A [(h0, .inr (0, [.long (w148v_0_0), .long (w148v_0_1), .long (w148v_0_2), .long (w148v_0_3), .long (w148v_0_4), .long (w148v_0_5), .int (bI w148v_0_6)])), (h1, .inr (0, [.long (z1.1), .long (z1.2.1), .long (z1.2.2.1), .long (z1.2.2.2.1), .long (z1.2.2.2.2.1), .long (z1.2.2.2.2.2.1), .int (bI z1.2.2.2.2.2.2)])), (h2, .inr (0, [.long (z2.1), .long (z2.2.1), .long (z2.2.2.1), .long (z2.2.2.2.1), .long (z2.2.2.2.2.1), .long (z2.2.2.2.2.2.1), .int (bI z2.2.2.2.2.2.2)]))]) (hS : va_S A s.heap H locs) (ls : Array Slot) (hl : lv_has ls 13 [(5, .long (v148)), (0, .ref h0), (1, .ref h1), (2, .ref h2)]), W p l e (headSpec w_O_multiplication ({ frames := 3, cells := 0, slots := 0, locals := 71 } : Room)).room s m ([.ref h0, .ref h1, .ref h2] : List Value).toArray below meth c H locs 0 0 (MQ below (va_Qv (fun _ : Unit => True) (mB (dC, dI) A [(h0, vE (f_O_multiplication z0 z1 z2)), (h1, vE z1), (h2, vE z2)]) A) ([.ref h0, .ref h1, .ref h2] : List Value).toArray s 0 0 A) (F0 m 150 ls []) := by
    intro v148 w148v_0_0 w148v_0_1 w148v_0_2 w148v_0_3 w148v_0_4 w148v_0_5 w148v_0_6 hj H locs hP hD hS ls hl
    refine lv_aload_n hx hb d_O_multiplication_150 rfl (lv_at hl 2 rfl) ?_
    refine va_get (D := (dC, dI)) (ci := 0) (v := .long (z1.2.2.2.2.1)) (C := R_V) (T := F_V) (N := 7) hx hb hts (fun w h => List.mem_cons_of_mem _ (uw_V w h)) hown hK hP 1 rfl rfl 4 (by decide) (hG (.fieldLink R_O 79 "ValueSieve$Value" "least" "J") gw34) (fun _ h9 => h9) rfl d_O_multiplication_151 ?_
    refine lv_aload_n hx hb d_O_multiplication_154 rfl (lv_at hl 3 rfl) ?_
    refine va_get (D := (dC, dI)) (ci := 0) (v := .long (z2.2.2.2.2.2.1)) (C := R_V) (T := F_V) (N := 7) hx hb hts (fun w h => List.mem_cons_of_mem _ (uw_V w h)) hown hK hP 2 rfl rfl 5 (by decide) (hG (.fieldLink R_O 85 "ValueSieve$Value" "greatest" "J") gw38) (fun _ h9 => h9) rfl d_O_multiplication_155 ?_
    refine lv_lmul hx hb d_O_multiplication_158 ?_
    refine lv_topl (fun v159 ev159 => ?_)
    refine lv_lstore (lv' := [(7, .long (v159)), (5, .long (v148)), (0, .ref h0), (1, .ref h1), (2, .ref h2)]) hx hb d_O_multiplication_159 hl (by decide) rfl (fun ls hl => ?_)
    refine K159v v159 v148 w148v_0_0 w148v_0_1 w148v_0_2 w148v_0_3 w148v_0_4 w148v_0_5 w148v_0_6 (Eq.trans (hj.trans rfl) (congrArg (fun v159 => f_O_multiplication_159v z0 z1 z2 v159 v148 w148v_0_0 w148v_0_1 w148v_0_2 w148v_0_3 w148v_0_4 w148v_0_5 w148v_0_6) ev159.symm)) H locs ?_ ?_ hS ls (lv_sub hl [0, 1, 2, 3, 4] rfl)
    · with_reducible exact hP
    · with_reducible exact hD
  have K83 : ∀ (w83_0_0 : Int64) (w83_0_1 : Int64) (w83_0_2 : Int64) (w83_0_3 : Int64) (w83_0_4 : Int64) (w83_0_5 : Int64) (w83_0_6 : Bool) (hj : f_O_multiplication z0 z1 z2 = f_O_multiplication_83 z0 z1 z2 w83_0_0 w83_0_1 w83_0_2 w83_0_3 w83_0_4 w83_0_5 w83_0_6) (H : Heap) (locs : List Loc) (hP : va_P (dC, dI) classes [(h0, .inr (0, [.long (w83_0_0), .long (w83_0_1), .long (w83_0_2), .long (w83_0_3), .long (w83_0_4), .long (w83_0_5), .int (bI w83_0_6)])), (h1, .inr (0, [.long (z1.1), .long (z1.2.1), .long (z1.2.2.1), .long (z1.2.2.2.1), .long (z1.2.2.2.2.1), .long (z1.2.2.2.2.2.1), .int (bI z1.2.2.2.2.2.2)])), (h2, .inr (0, [.long (z2.1), .long (z2.2.1), .long (z2.2.2.1), .long (z2.2.2.2.1), .long (z2.2.2.2.2.1), .long (z2.2.2.2.2.2.1), .int (bI z2.2.2.2.2.2.2)]))] H) (hD : va_D A [(h0, .inr (0, [.long (w83_0_0), .long (w83_0_1), .long (w83_0_2), .long (w83_0_3), .long (w83_0_4), .long (w83_0_5), .int (bI w83_0_6)])), (h1, .inr (0, [.long (z1.1), .long (z1.2.1), .long (z1.2.2.1), .long (z1.2.2.2.1), .long (z1.2.2.2.2.1), .long (z1.2.2.2.2.2.1), .int (bI z1.2.2.2.2.2.2)])), (h2, .inr (0, [.long (z2.1), .long (z2.2.1), .long (z2.2.2.1), .long (z2.2.2.2.1), .long (z2.2.2.2.2.1), .long (z2.2.2.2.2.2.1), .int (bI z2.2.2.2.2.2.2)]))]) (hS : va_S A s.heap H locs) (ls : Array Slot) (hl : lv_has ls 13 [(0, .ref h0), (1, .ref h1), (2, .ref h2)]), W p l e (headSpec w_O_multiplication ({ frames := 3, cells := 0, slots := 0, locals := 71 } : Room)).room s m ([.ref h0, .ref h1, .ref h2] : List Value).toArray below meth c H locs 0 0 (MQ below (va_Qv (fun _ : Unit => True) (mB (dC, dI) A [(h0, vE (f_O_multiplication z0 z1 z2)), (h1, vE z1), (h2, vE z2)]) A) ([.ref h0, .ref h1, .ref h2] : List Value).toArray s 0 0 A) (F0 m 83 ls []) := by
    intro w83_0_0 w83_0_1 w83_0_2 w83_0_3 w83_0_4 w83_0_5 w83_0_6 hj H locs hP hD hS ls hl
    refine lv_aload_n hx hb d_O_multiplication_83 rfl (lv_at hl 1 rfl) ?_
    refine va_get (D := (dC, dI)) (ci := 0) (v := .long (z1.2.2.2.2.1)) (C := R_V) (T := F_V) (N := 7) hx hb hts (fun w h => List.mem_cons_of_mem _ (uw_V w h)) hown hK hP 1 rfl rfl 4 (by decide) (hG (.fieldLink R_O 79 "ValueSieve$Value" "least" "J") gw34) (fun _ h9 => h9) rfl d_O_multiplication_84 ?_
    refine lv_aload_n hx hb d_O_multiplication_87 rfl (lv_at hl 2 rfl) ?_
    refine va_get (D := (dC, dI)) (ci := 0) (v := .long (z2.2.2.2.2.1)) (C := R_V) (T := F_V) (N := 7) hx hb hts (fun w h => List.mem_cons_of_mem _ (uw_V w h)) hown hK hP 2 rfl rfl 4 (by decide) (hG (.fieldLink R_O 79 "ValueSieve$Value" "least" "J") gw34) (fun _ h9 => h9) rfl d_O_multiplication_88 ?_
    refine rc_i (W.runS (As := [.long (z1.2.2.2.2.1), .long (z2.2.2.2.2.1)]) (rest := []) ⟨hx, hb, hml, hown, hts⟩ (c_N_productFits l z1.2.2.2.2.1 z2.2.2.2.2.1) (va_cwS 2 hts (gS gw233 gw234 gw2 gw235) rfl rfl rfl (by decide +kernel) ⟨(Nat.le_of_ble_eq_true rfl), (Nat.le_of_ble_eq_true rfl)⟩) ⟨bl0, fun U hU hW => ⟨rfl, trivial⟩⟩ rfl rfl hl.1 rfl (lv_room (Nat.le_of_ble_eq_true rfl)) d_O_multiplication_91 ⟨Nat.zero_le _, Nat.zero_le _⟩) ?_
    refine lv_if_eq (tgt := 221) hx hb d_O_multiplication_94 (by decide) (fun e1_221 => ?_) (fun e1_221 => ?_)
    · have fe : f_O_multiplication z0 z1 z2 = ((w83_0_0, w83_0_1, w83_0_2, w83_0_3, w83_0_4, w83_0_5, w83_0_6)) := hj.trans (by unfold f_O_multiplication_83; first | with_reducible exact if_pos e1_221 | exact if_pos e1_221)
      exact W.vret hx hb hr (fun t ht hW => ⟨⟨(), rfl, trivial, by rw [ht, fe]; (try simp only [vE_mk]); exact hP, by rw [fe]; (try simp only [vE_mk]); exact hD⟩, hS.F ht⟩) hS.2.2 d_O_multiplication_221
    · refine lv_aload_n hx hb d_O_multiplication_97 rfl (lv_at hl 1 rfl) ?_
      refine va_get (D := (dC, dI)) (ci := 0) (v := .long (z1.2.2.2.2.1)) (C := R_V) (T := F_V) (N := 7) hx hb hts (fun w h => List.mem_cons_of_mem _ (uw_V w h)) hown hK hP 1 rfl rfl 4 (by decide) (hG (.fieldLink R_O 79 "ValueSieve$Value" "least" "J") gw34) (fun _ h9 => h9) rfl d_O_multiplication_98 ?_
      refine lv_aload_n hx hb d_O_multiplication_101 rfl (lv_at hl 2 rfl) ?_
      refine va_get (D := (dC, dI)) (ci := 0) (v := .long (z2.2.2.2.2.2.1)) (C := R_V) (T := F_V) (N := 7) hx hb hts (fun w h => List.mem_cons_of_mem _ (uw_V w h)) hown hK hP 2 rfl rfl 5 (by decide) (hG (.fieldLink R_O 85 "ValueSieve$Value" "greatest" "J") gw38) (fun _ h9 => h9) rfl d_O_multiplication_102 ?_
      refine rc_i (W.runS (As := [.long (z1.2.2.2.2.1), .long (z2.2.2.2.2.2.1)]) (rest := []) ⟨hx, hb, hml, hown, hts⟩ (c_N_productFits l z1.2.2.2.2.1 z2.2.2.2.2.2.1) (va_cwS 2 hts (gS gw233 gw234 gw2 gw235) rfl rfl rfl (by decide +kernel) ⟨(Nat.le_of_ble_eq_true rfl), (Nat.le_of_ble_eq_true rfl)⟩) ⟨bl0, fun U hU hW => ⟨rfl, trivial⟩⟩ rfl rfl hl.1 rfl (lv_room (Nat.le_of_ble_eq_true rfl)) d_O_multiplication_105 ⟨Nat.zero_le _, Nat.zero_le _⟩) ?_
      refine lv_if_eq (tgt := 221) hx hb d_O_multiplication_108 (by decide) (fun e2_221 => ?_) (fun e2_221 => ?_)
      · have fe : f_O_multiplication z0 z1 z2 = ((w83_0_0, w83_0_1, w83_0_2, w83_0_3, w83_0_4, w83_0_5, w83_0_6)) := hj.trans (by unfold f_O_multiplication_83; first | with_reducible exact (if_neg e1_221).trans (if_pos e2_221) | exact (if_neg e1_221).trans (if_pos e2_221))
        exact W.vret hx hb hr (fun t ht hW => ⟨⟨(), rfl, trivial, by rw [ht, fe]; (try simp only [vE_mk]); exact hP, by rw [fe]; (try simp only [vE_mk]); exact hD⟩, hS.F ht⟩) hS.2.2 d_O_multiplication_221
      · refine lv_aload_n hx hb d_O_multiplication_111 rfl (lv_at hl 1 rfl) ?_
        refine va_get (D := (dC, dI)) (ci := 0) (v := .long (z1.2.2.2.2.2.1)) (C := R_V) (T := F_V) (N := 7) hx hb hts (fun w h => List.mem_cons_of_mem _ (uw_V w h)) hown hK hP 1 rfl rfl 5 (by decide) (hG (.fieldLink R_O 85 "ValueSieve$Value" "greatest" "J") gw38) (fun _ h9 => h9) rfl d_O_multiplication_112 ?_
        refine lv_aload_n hx hb d_O_multiplication_115 rfl (lv_at hl 2 rfl) ?_
        refine va_get (D := (dC, dI)) (ci := 0) (v := .long (z2.2.2.2.2.1)) (C := R_V) (T := F_V) (N := 7) hx hb hts (fun w h => List.mem_cons_of_mem _ (uw_V w h)) hown hK hP 2 rfl rfl 4 (by decide) (hG (.fieldLink R_O 79 "ValueSieve$Value" "least" "J") gw34) (fun _ h9 => h9) rfl d_O_multiplication_116 ?_
        refine rc_i (W.runS (As := [.long (z1.2.2.2.2.2.1), .long (z2.2.2.2.2.1)]) (rest := []) ⟨hx, hb, hml, hown, hts⟩ (c_N_productFits l z1.2.2.2.2.2.1 z2.2.2.2.2.1) (va_cwS 2 hts (gS gw233 gw234 gw2 gw235) rfl rfl rfl (by decide +kernel) ⟨(Nat.le_of_ble_eq_true rfl), (Nat.le_of_ble_eq_true rfl)⟩) ⟨bl0, fun U hU hW => ⟨rfl, trivial⟩⟩ rfl rfl hl.1 rfl (lv_room (Nat.le_of_ble_eq_true rfl)) d_O_multiplication_119 ⟨Nat.zero_le _, Nat.zero_le _⟩) ?_
        refine lv_if_eq (tgt := 221) hx hb d_O_multiplication_122 (by decide) (fun e3_221 => ?_) (fun e3_221 => ?_)
        · have fe : f_O_multiplication z0 z1 z2 = ((w83_0_0, w83_0_1, w83_0_2, w83_0_3, w83_0_4, w83_0_5, w83_0_6)) := hj.trans (by unfold f_O_multiplication_83; first | with_reducible exact (if_neg e1_221).trans ((if_neg e2_221).trans (if_pos e3_221)) | exact (if_neg e1_221).trans ((if_neg e2_221).trans (if_pos e3_221)))
          exact W.vret hx hb hr (fun t ht hW => ⟨⟨(), rfl, trivial, by rw [ht, fe]; (try simp only [vE_mk]); exact hP, by rw [fe]; (try simp only [vE_mk]); exact hD⟩, hS.F ht⟩) hS.2.2 d_O_multiplication_221
        · refine lv_aload_n hx hb d_O_multiplication_125 rfl (lv_at hl 1 rfl) ?_
          refine va_get (D := (dC, dI)) (ci := 0) (v := .long (z1.2.2.2.2.2.1)) (C := R_V) (T := F_V) (N := 7) hx hb hts (fun w h => List.mem_cons_of_mem _ (uw_V w h)) hown hK hP 1 rfl rfl 5 (by decide) (hG (.fieldLink R_O 85 "ValueSieve$Value" "greatest" "J") gw38) (fun _ h9 => h9) rfl d_O_multiplication_126 ?_
          refine lv_aload_n hx hb d_O_multiplication_129 rfl (lv_at hl 2 rfl) ?_
          refine va_get (D := (dC, dI)) (ci := 0) (v := .long (z2.2.2.2.2.2.1)) (C := R_V) (T := F_V) (N := 7) hx hb hts (fun w h => List.mem_cons_of_mem _ (uw_V w h)) hown hK hP 2 rfl rfl 5 (by decide) (hG (.fieldLink R_O 85 "ValueSieve$Value" "greatest" "J") gw38) (fun _ h9 => h9) rfl d_O_multiplication_130 ?_
          refine rc_i (W.runS (As := [.long (z1.2.2.2.2.2.1), .long (z2.2.2.2.2.2.1)]) (rest := []) ⟨hx, hb, hml, hown, hts⟩ (c_N_productFits l z1.2.2.2.2.2.1 z2.2.2.2.2.2.1) (va_cwS 2 hts (gS gw233 gw234 gw2 gw235) rfl rfl rfl (by decide +kernel) ⟨(Nat.le_of_ble_eq_true rfl), (Nat.le_of_ble_eq_true rfl)⟩) ⟨bl0, fun U hU hW => ⟨rfl, trivial⟩⟩ rfl rfl hl.1 rfl (lv_room (Nat.le_of_ble_eq_true rfl)) d_O_multiplication_133 ⟨Nat.zero_le _, Nat.zero_le _⟩) ?_
          refine lv_if_eq (tgt := 221) hx hb d_O_multiplication_136 (by decide) (fun e4_221 => ?_) (fun e4_221 => ?_)
          · have fe : f_O_multiplication z0 z1 z2 = ((w83_0_0, w83_0_1, w83_0_2, w83_0_3, w83_0_4, w83_0_5, w83_0_6)) := hj.trans (by unfold f_O_multiplication_83; first | with_reducible exact (if_neg e1_221).trans ((if_neg e2_221).trans ((if_neg e3_221).trans (if_pos e4_221))) | exact (if_neg e1_221).trans ((if_neg e2_221).trans ((if_neg e3_221).trans (if_pos e4_221))))
            exact W.vret hx hb hr (fun t ht hW => ⟨⟨(), rfl, trivial, by rw [ht, fe]; (try simp only [vE_mk]); exact hP, by rw [fe]; (try simp only [vE_mk]); exact hD⟩, hS.F ht⟩) hS.2.2 d_O_multiplication_221
          · refine lv_aload_n hx hb d_O_multiplication_139 rfl (lv_at hl 1 rfl) ?_
            refine va_get (D := (dC, dI)) (ci := 0) (v := .long (z1.2.2.2.2.1)) (C := R_V) (T := F_V) (N := 7) hx hb hts (fun w h => List.mem_cons_of_mem _ (uw_V w h)) hown hK hP 1 rfl rfl 4 (by decide) (hG (.fieldLink R_O 79 "ValueSieve$Value" "least" "J") gw34) (fun _ h9 => h9) rfl d_O_multiplication_140 ?_
            refine lv_aload_n hx hb d_O_multiplication_143 rfl (lv_at hl 2 rfl) ?_
            refine va_get (D := (dC, dI)) (ci := 0) (v := .long (z2.2.2.2.2.1)) (C := R_V) (T := F_V) (N := 7) hx hb hts (fun w h => List.mem_cons_of_mem _ (uw_V w h)) hown hK hP 2 rfl rfl 4 (by decide) (hG (.fieldLink R_O 79 "ValueSieve$Value" "least" "J") gw34) (fun _ h9 => h9) rfl d_O_multiplication_144 ?_
            refine lv_lmul hx hb d_O_multiplication_147 ?_
            refine lv_topl (fun v148 ev148 => ?_)
            refine lv_lstore (lv' := [(5, .long (v148)), (0, .ref h0), (1, .ref h1), (2, .ref h2)]) hx hb d_O_multiplication_148 hl (by decide) rfl (fun ls hl => ?_)
            refine K148v v148 w83_0_0 w83_0_1 w83_0_2 w83_0_3 w83_0_4 w83_0_5 w83_0_6 (Eq.trans (hj.trans (by unfold f_O_multiplication_83; first | with_reducible exact (if_neg e1_221).trans ((if_neg e2_221).trans ((if_neg e3_221).trans (if_neg e4_221))) | exact (if_neg e1_221).trans ((if_neg e2_221).trans ((if_neg e3_221).trans (if_neg e4_221))))) (congrArg (fun v148 => f_O_multiplication_148v z0 z1 z2 v148 w83_0_0 w83_0_1 w83_0_2 w83_0_3 w83_0_4 w83_0_5 w83_0_6) ev148.symm)) H locs ?_ ?_ hS ls (lv_sub hl [0, 1, 2, 3] rfl)
            · with_reducible exact hP
            · with_reducible exact hD
  have K80g : ∀ (g80 : VV) (hj : f_O_multiplication z0 z1 z2 = f_O_multiplication_80g z0 z1 z2 g80) (H : Heap) (locs : List Loc) (hP : va_P (dC, dI) classes [(h0, .inr (0, [.long (g80.1), .long (g80.2.1), .long (g80.2.2.1), .long (g80.2.2.2.1), .long (g80.2.2.2.2.1), .long (g80.2.2.2.2.2.1), .int (bI g80.2.2.2.2.2.2)])), (h1, .inr (0, [.long (z1.1), .long (z1.2.1), .long (z1.2.2.1), .long (z1.2.2.2.1), .long (z1.2.2.2.2.1), .long (z1.2.2.2.2.2.1), .int (bI z1.2.2.2.2.2.2)])), (h2, .inr (0, [.long (z2.1), .long (z2.2.1), .long (z2.2.2.1), .long (z2.2.2.2.1), .long (z2.2.2.2.2.1), .long (z2.2.2.2.2.2.1), .int (bI z2.2.2.2.2.2.2)]))] H) (hD : va_D A [(h0, .inr (0, [.long (g80.1), .long (g80.2.1), .long (g80.2.2.1), .long (g80.2.2.2.1), .long (g80.2.2.2.2.1), .long (g80.2.2.2.2.2.1), .int (bI g80.2.2.2.2.2.2)])), (h1, .inr (0, [.long (z1.1), .long (z1.2.1), .long (z1.2.2.1), .long (z1.2.2.2.1), .long (z1.2.2.2.2.1), .long (z1.2.2.2.2.2.1), .int (bI z1.2.2.2.2.2.2)])), (h2, .inr (0, [.long (z2.1), .long (z2.2.1), .long (z2.2.2.1), .long (z2.2.2.2.1), .long (z2.2.2.2.2.1), .long (z2.2.2.2.2.2.1), .int (bI z2.2.2.2.2.2.2)]))]) (hS : va_S A s.heap H locs) (ls : Array Slot) (hl : lv_has ls 13 [(0, .ref h0), (1, .ref h1), (2, .ref h2)]), W p l e (headSpec w_O_multiplication ({ frames := 3, cells := 0, slots := 0, locals := 71 } : Room)).room s m ([.ref h0, .ref h1, .ref h2] : List Value).toArray below meth c H locs 0 0 (MQ below (va_Qv (fun _ : Unit => True) (mB (dC, dI) A [(h0, vE (f_O_multiplication z0 z1 z2)), (h1, vE z1), (h2, vE z2)]) A) ([.ref h0, .ref h1, .ref h2] : List Value).toArray s 0 0 A) (F0 m 83 ls []) := by
    intro g80 hj H locs hP hD hS ls hl
    refine K83 g80.1 g80.2.1 g80.2.2.1 g80.2.2.2.1 g80.2.2.2.2.1 g80.2.2.2.2.2.1 g80.2.2.2.2.2.2 (hj.trans rfl) H locs ?_ ?_ hS ls (lv_sub hl [0, 1, 2] rfl)
    · with_reducible exact hP
    · with_reducible exact hD
  have K44g : ∀ (g44 : VV) (hj : f_O_multiplication z0 z1 z2 = f_O_multiplication_44g z0 z1 z2 g44) (H : Heap) (locs : List Loc) (hP : va_P (dC, dI) classes [(h0, .inr (0, [.long (g44.1), .long (g44.2.1), .long (g44.2.2.1), .long (g44.2.2.2.1), .long (g44.2.2.2.2.1), .long (g44.2.2.2.2.2.1), .int (bI g44.2.2.2.2.2.2)])), (h1, .inr (0, [.long (z1.1), .long (z1.2.1), .long (z1.2.2.1), .long (z1.2.2.2.1), .long (z1.2.2.2.2.1), .long (z1.2.2.2.2.2.1), .int (bI z1.2.2.2.2.2.2)])), (h2, .inr (0, [.long (z2.1), .long (z2.2.1), .long (z2.2.2.1), .long (z2.2.2.2.1), .long (z2.2.2.2.2.1), .long (z2.2.2.2.2.2.1), .int (bI z2.2.2.2.2.2.2)]))] H) (hD : va_D A [(h0, .inr (0, [.long (g44.1), .long (g44.2.1), .long (g44.2.2.1), .long (g44.2.2.2.1), .long (g44.2.2.2.2.1), .long (g44.2.2.2.2.2.1), .int (bI g44.2.2.2.2.2.2)])), (h1, .inr (0, [.long (z1.1), .long (z1.2.1), .long (z1.2.2.1), .long (z1.2.2.2.1), .long (z1.2.2.2.2.1), .long (z1.2.2.2.2.2.1), .int (bI z1.2.2.2.2.2.2)])), (h2, .inr (0, [.long (z2.1), .long (z2.2.1), .long (z2.2.2.1), .long (z2.2.2.2.1), .long (z2.2.2.2.2.1), .long (z2.2.2.2.2.2.1), .int (bI z2.2.2.2.2.2.2)]))]) (hS : va_S A s.heap H locs) (ls : Array Slot) (hl : lv_has ls 13 [(0, .ref h0), (1, .ref h1), (2, .ref h2)]), W p l e (headSpec w_O_multiplication ({ frames := 3, cells := 0, slots := 0, locals := 71 } : Room)).room s m ([.ref h0, .ref h1, .ref h2] : List Value).toArray below meth c H locs 0 0 (MQ below (va_Qv (fun _ : Unit => True) (mB (dC, dI) A [(h0, vE (f_O_multiplication z0 z1 z2)), (h1, vE z1), (h2, vE z2)]) A) ([.ref h0, .ref h1, .ref h2] : List Value).toArray s 0 0 A) (F0 m 47 ls []) := by
    intro g44 hj H locs hP hD hS ls hl
    refine lv_aload_n hx hb d_O_multiplication_47 rfl (lv_at hl 1 rfl) ?_
    refine va_get (D := (dC, dI)) (ci := 0) (v := .long (z1.2.2.2.1)) (C := R_V) (T := F_V) (N := 7) hx hb hts (fun w h => List.mem_cons_of_mem _ (uw_V w h)) hown hK hP 1 rfl rfl 3 (by decide) (hG (.fieldLink R_O 49 "ValueSieve$Value" "high" "J") gw30) (fun _ h9 => h9) rfl d_O_multiplication_48 ?_
    refine lv_aload_n hx hb d_O_multiplication_51 rfl (lv_at hl 2 rfl) ?_
    refine va_get (D := (dC, dI)) (ci := 0) (v := .long (z2.2.2.2.1)) (C := R_V) (T := F_V) (N := 7) hx hb hts (fun w h => List.mem_cons_of_mem _ (uw_V w h)) hown hK hP 2 rfl rfl 3 (by decide) (hG (.fieldLink R_O 49 "ValueSieve$Value" "high" "J") gw30) (fun _ h9 => h9) rfl d_O_multiplication_52 ?_
    refine rc_i (W.runS (As := [.long (z1.2.2.2.1), .long (z2.2.2.2.1)]) (rest := []) ⟨hx, hb, hml, hown, hts⟩ (c_N_unsignedProductFits l z1.2.2.2.1 z2.2.2.2.1) (va_cwS 2 hts (gS gw227 gw228 gw2 gw229) rfl rfl rfl (by decide +kernel) ⟨(Nat.le_of_ble_eq_true rfl), (Nat.le_of_ble_eq_true rfl)⟩) ⟨bl0, fun U hU hW => ⟨rfl, trivial⟩⟩ rfl rfl hl.1 rfl (lv_room (Nat.le_of_ble_eq_true rfl)) d_O_multiplication_55 ⟨Nat.zero_le _, Nat.zero_le _⟩) ?_
    refine lv_if_eq (tgt := 83) hx hb d_O_multiplication_58 (by decide) (fun e1_83 => ?_) (fun e1_83 => ?_)
    · refine K83 g44.1 g44.2.1 g44.2.2.1 g44.2.2.2.1 g44.2.2.2.2.1 g44.2.2.2.2.2.1 g44.2.2.2.2.2.2 (hj.trans (by unfold f_O_multiplication_44g; first | with_reducible exact if_pos e1_83 | exact if_pos e1_83)) H locs ?_ ?_ hS ls (lv_sub hl [0, 1, 2] rfl)
      · with_reducible exact hP
      · with_reducible exact hD
    · refine lv_aload_n hx hb d_O_multiplication_61 rfl (lv_at hl 0 rfl) ?_
      refine lv_aload_n hx hb d_O_multiplication_62 rfl (lv_at hl 1 rfl) ?_
      refine va_get (D := (dC, dI)) (ci := 0) (v := .long (z1.2.2.1)) (C := R_V) (T := F_V) (N := 7) hx hb hts (fun w h => List.mem_cons_of_mem _ (uw_V w h)) hown hK hP 1 rfl rfl 2 (by decide) (hG (.fieldLink R_O 55 "ValueSieve$Value" "low" "J") gw26) (fun _ h9 => h9) rfl d_O_multiplication_63 ?_
      refine lv_aload_n hx hb d_O_multiplication_66 rfl (lv_at hl 2 rfl) ?_
      refine va_get (D := (dC, dI)) (ci := 0) (v := .long (z2.2.2.1)) (C := R_V) (T := F_V) (N := 7) hx hb hts (fun w h => List.mem_cons_of_mem _ (uw_V w h)) hown hK hP 2 rfl rfl 2 (by decide) (hG (.fieldLink R_O 55 "ValueSieve$Value" "low" "J") gw26) (fun _ h9 => h9) rfl d_O_multiplication_67 ?_
      refine lv_lmul hx hb d_O_multiplication_70 ?_
      refine lv_aload_n hx hb d_O_multiplication_71 rfl (lv_at hl 1 rfl) ?_
      refine va_get (D := (dC, dI)) (ci := 0) (v := .long (z1.2.2.2.1)) (C := R_V) (T := F_V) (N := 7) hx hb hts (fun w h => List.mem_cons_of_mem _ (uw_V w h)) hown hK hP 1 rfl rfl 3 (by decide) (hG (.fieldLink R_O 49 "ValueSieve$Value" "high" "J") gw30) (fun _ h9 => h9) rfl d_O_multiplication_72 ?_
      refine lv_aload_n hx hb d_O_multiplication_75 rfl (lv_at hl 2 rfl) ?_
      refine va_get (D := (dC, dI)) (ci := 0) (v := .long (z2.2.2.2.1)) (C := R_V) (T := F_V) (N := 7) hx hb hts (fun w h => List.mem_cons_of_mem _ (uw_V w h)) hown hK hP 2 rfl rfl 3 (by decide) (hG (.fieldLink R_O 49 "ValueSieve$Value" "high" "J") gw30) (fun _ h9 => h9) rfl d_O_multiplication_76 ?_
      refine lv_lmul hx hb d_O_multiplication_79 ?_
      refine mg_v (F := f_V_sayUnsigned g44 (z1.2.2.1 * z2.2.2.1) (z1.2.2.2.1 * z2.2.2.2.1)) (wc := [(h0, vE g44)]) (w1 := fun g80 => [(h0, vE g80)]) (wr := [(h1, .inr (0, [.long (z1.1), .long (z1.2.1), .long (z1.2.2.1), .long (z1.2.2.2.1), .long (z1.2.2.2.2.1), .long (z1.2.2.2.2.2.1), .int (bI z1.2.2.2.2.2.2)])), (h2, .inr (0, [.long (z2.1), .long (z2.2.1), .long (z2.2.2.1), .long (z2.2.2.2.1), .long (z2.2.2.2.2.1), .long (z2.2.2.2.2.2.1), .int (bI z2.2.2.2.2.2.2)]))]) (ws' := fun g80 => [(h0, .inr (0, [.long (g80.1), .long (g80.2.1), .long (g80.2.2.1), .long (g80.2.2.2.1), .long (g80.2.2.2.2.1), .long (g80.2.2.2.2.2.1), .int (bI g80.2.2.2.2.2.2)])), (h1, .inr (0, [.long (z1.1), .long (z1.2.1), .long (z1.2.2.1), .long (z1.2.2.2.1), .long (z1.2.2.2.2.1), .long (z1.2.2.2.2.2.1), .int (bI z1.2.2.2.2.2.2)])), (h2, .inr (0, [.long (z2.1), .long (z2.2.1), .long (z2.2.2.1), .long (z2.2.2.2.1), .long (z2.2.2.2.2.1), .long (z2.2.2.2.2.2.1), .int (bI z2.2.2.2.2.2.2)]))]) (va_runV (As := [.long (z1.2.2.1 * z2.2.2.1), .long (z1.2.2.2.1 * z2.2.2.2.1)]) (rest := []) ⟨hx, hb, hml, hown, hts⟩ (c_V_sayUnsigned l dC dI h0 H.size g44 (z1.2.2.1 * z2.2.2.1) (z1.2.2.2.1 * z2.2.2.2.1)) (cwV 2 hts (gV gw193 gw84 gw85 gw1 gw86) rfl rfl rfl (by decide +kernel) ⟨(Nat.le_of_ble_eq_true rfl), (Nat.le_of_ble_eq_true rfl)⟩) ⟨blm, va_recv hK hP (ci := 0) (q0 := 0) rfl rfl, fun U hU hW => ⟨rfl, by rw [hU], by rw [hU]; exact hP.sub [0] rfl, va_K.moved hW.alike hK, (hD.sub [0] (by decide) rfl).weaken (fun _ _ _ _ => trivial)⟩⟩ rfl rfl hl.1 rfl (lv_room (Nat.le_of_ble_eq_true rfl)) d_O_multiplication_80 ⟨Nat.zero_le _, Nat.zero_le _⟩) hP hD hS hA [0] [1, 2] [2, 0, 1] rfl rfl (by decide) (by decide) (fun _ => rfl) (by decide) (fun g80 eg80 H locs hP hD hS => ?_)
      refine K80g g80 (Eq.trans (hj.trans (by unfold f_O_multiplication_44g; first | with_reducible exact if_neg e1_83 | exact if_neg e1_83)) (congrArg (fun g80 => f_O_multiplication_80g z0 z1 z2 g80) eg80)) H locs ?_ ?_ hS ls (lv_sub hl [0, 1, 2] rfl)
      · with_reducible exact hP
      · with_reducible exact hD
  have K19v : ∀ (v19 : Int32) (v9 : Int32) (hj : f_O_multiplication z0 z1 z2 = f_O_multiplication_19v z0 z1 z2 v19 v9) (H : Heap) (locs : List Loc) (hP : va_P (dC, dI) classes [(h0, .inr (0, [.long (z0.1), .long (z0.2.1), .long (z0.2.2.1), .long (z0.2.2.2.1), .long (z0.2.2.2.2.1), .long (z0.2.2.2.2.2.1), .int (bI z0.2.2.2.2.2.2)])), (h1, .inr (0, [.long (z1.1), .long (z1.2.1), .long (z1.2.2.1), .long (z1.2.2.2.1), .long (z1.2.2.2.2.1), .long (z1.2.2.2.2.2.1), .int (bI z1.2.2.2.2.2.2)])), (h2, .inr (0, [.long (z2.1), .long (z2.2.1), .long (z2.2.2.1), .long (z2.2.2.2.1), .long (z2.2.2.2.2.1), .long (z2.2.2.2.2.2.1), .int (bI z2.2.2.2.2.2.2)]))] H) (hD : va_D A [(h0, .inr (0, [.long (z0.1), .long (z0.2.1), .long (z0.2.2.1), .long (z0.2.2.2.1), .long (z0.2.2.2.2.1), .long (z0.2.2.2.2.2.1), .int (bI z0.2.2.2.2.2.2)])), (h1, .inr (0, [.long (z1.1), .long (z1.2.1), .long (z1.2.2.1), .long (z1.2.2.2.1), .long (z1.2.2.2.2.1), .long (z1.2.2.2.2.2.1), .int (bI z1.2.2.2.2.2.2)])), (h2, .inr (0, [.long (z2.1), .long (z2.2.1), .long (z2.2.2.1), .long (z2.2.2.2.1), .long (z2.2.2.2.2.1), .long (z2.2.2.2.2.2.1), .int (bI z2.2.2.2.2.2.2)]))]) (hS : va_S A s.heap H locs) (ls : Array Slot) (hl : lv_has ls 13 [(4, .int (v19)), (3, .int (v9)), (0, .ref h0), (1, .ref h1), (2, .ref h2)]), W p l e (headSpec w_O_multiplication ({ frames := 3, cells := 0, slots := 0, locals := 71 } : Room)).room s m ([.ref h0, .ref h1, .ref h2] : List Value).toArray below meth c H locs 0 0 (MQ below (va_Qv (fun _ : Unit => True) (mB (dC, dI) A [(h0, vE (f_O_multiplication z0 z1 z2)), (h1, vE z1), (h2, vE z2)]) A) ([.ref h0, .ref h1, .ref h2] : List Value).toArray s 0 0 A) (F0 m 21 ls []) := by
    intro v19 v9 hj H locs hP hD hS ls hl
    refine lv_aload_n hx hb d_O_multiplication_21 rfl (lv_at hl 2 rfl) ?_
    refine lv_aload_n hx hb d_O_multiplication_22 rfl (lv_at hl 3 rfl) ?_
    refine va_get (D := (dC, dI)) (ci := 0) (v := .long (z1.1)) (C := R_V) (T := F_V) (N := 7) hx hb hts (fun w h => List.mem_cons_of_mem _ (uw_V w h)) hown hK hP 1 rfl rfl 0 (by decide) (hG (.fieldLink R_O 36 "ValueSieve$Value" "bits" "J") gw19) (fun _ h9 => h9) rfl d_O_multiplication_23 ?_
    refine lv_aload_n hx hb d_O_multiplication_26 rfl (lv_at hl 4 rfl) ?_
    refine va_get (D := (dC, dI)) (ci := 0) (v := .long (z2.1)) (C := R_V) (T := F_V) (N := 7) hx hb hts (fun w h => List.mem_cons_of_mem _ (uw_V w h)) hown hK hP 2 rfl rfl 0 (by decide) (hG (.fieldLink R_O 36 "ValueSieve$Value" "bits" "J") gw19) (fun _ h9 => h9) rfl d_O_multiplication_27 ?_
    refine lv_lmul hx hb d_O_multiplication_30 ?_
    refine lv_iload_n hx hb d_O_multiplication_31 rfl (lv_at hl 1 rfl) ?_
    refine lv_iload hx hb d_O_multiplication_32 (lv_at hl 0 rfl) ?_
    refine va_mmin hx hb (hml.trans hl.1.symm) hown (hG (.methodLink R_O 101 Lib.Math.min.name) gw222) (hG (.static Lib.Math.min.name) gw223) (hG (.initialized "java/lang/Math") gw3) (hG (.code Lib.Math.min.name Lib.Math.min.code 2 (some .int)) gw224) (Nat.le_of_ble_eq_true rfl) (Nat.le_of_ble_eq_true rfl) (Nat.zero_le _) (Nat.zero_le _) d_O_multiplication_34 ?_
    refine rc_l (W.runS (As := [.int (jnmin v9 v19)]) (rest := [.long (z1.1 * z2.1), .ref h0]) ⟨hx, hb, hml, hown, hts⟩ (c_N_lowest l (jnmin v9 v19)) (va_cwS 1 hts (gS gw225 gw168 gw2 gw169) rfl rfl rfl (by decide +kernel) ⟨(Nat.le_of_ble_eq_true rfl), (Nat.le_of_ble_eq_true rfl)⟩) ⟨bl0, fun U hU hW => ⟨rfl, trivial⟩⟩ rfl rfl hl.1 rfl (lv_room (Nat.le_of_ble_eq_true rfl)) d_O_multiplication_37 ⟨Nat.zero_le _, Nat.zero_le _⟩) ?_
    refine lv_ldc2 (v := -1) hx hb hown (hG (.constantLong R_O 43 (-1)) gw226) d_O_multiplication_40 ?_
    refine lv_lxor hx hb d_O_multiplication_43 ?_
    refine mg_v (F := f_V_sayBits z0 (z1.1 * z2.1) ((f_N_lowest (jnmin v9 v19)) ^^^ (-1 : Int64))) (wc := [(h0, vE z0)]) (w1 := fun g44 => [(h0, vE g44)]) (wr := [(h1, .inr (0, [.long (z1.1), .long (z1.2.1), .long (z1.2.2.1), .long (z1.2.2.2.1), .long (z1.2.2.2.2.1), .long (z1.2.2.2.2.2.1), .int (bI z1.2.2.2.2.2.2)])), (h2, .inr (0, [.long (z2.1), .long (z2.2.1), .long (z2.2.2.1), .long (z2.2.2.2.1), .long (z2.2.2.2.2.1), .long (z2.2.2.2.2.2.1), .int (bI z2.2.2.2.2.2.2)]))]) (ws' := fun g44 => [(h0, .inr (0, [.long (g44.1), .long (g44.2.1), .long (g44.2.2.1), .long (g44.2.2.2.1), .long (g44.2.2.2.2.1), .long (g44.2.2.2.2.2.1), .int (bI g44.2.2.2.2.2.2)])), (h1, .inr (0, [.long (z1.1), .long (z1.2.1), .long (z1.2.2.1), .long (z1.2.2.2.1), .long (z1.2.2.2.2.1), .long (z1.2.2.2.2.2.1), .int (bI z1.2.2.2.2.2.2)])), (h2, .inr (0, [.long (z2.1), .long (z2.2.1), .long (z2.2.2.1), .long (z2.2.2.2.1), .long (z2.2.2.2.2.1), .long (z2.2.2.2.2.2.1), .int (bI z2.2.2.2.2.2.2)]))]) (va_runV (As := [.long (z1.1 * z2.1), .long ((f_N_lowest (jnmin v9 v19)) ^^^ (-1 : Int64))]) (rest := []) ⟨hx, hb, hml, hown, hts⟩ (c_V_sayBits l dC dI h0 H.size z0 (z1.1 * z2.1) ((f_N_lowest (jnmin v9 v19)) ^^^ (-1 : Int64))) (cwV 2 hts (gV gw191 gw80 gw81 gw1 gw82) rfl rfl rfl (by decide +kernel) ⟨(Nat.le_of_ble_eq_true rfl), (Nat.le_of_ble_eq_true rfl)⟩) ⟨blm, va_recv hK hP (ci := 0) (q0 := 0) rfl rfl, fun U hU hW => ⟨rfl, by rw [hU], by rw [hU]; exact hP.sub [0] rfl, va_K.moved hW.alike hK, (hD.sub [0] (by decide) rfl).weaken (fun _ _ _ _ => trivial)⟩⟩ rfl rfl hl.1 rfl (lv_room (Nat.le_of_ble_eq_true rfl)) d_O_multiplication_44 ⟨Nat.zero_le _, Nat.zero_le _⟩) hP hD hS hA [0] [1, 2] [2, 0, 1] rfl rfl (by decide) (by decide) (fun _ => rfl) (by decide) (fun g44 eg44 H locs hP hD hS => ?_)
    refine K44g g44 (Eq.trans (hj.trans rfl) (congrArg (fun g44 => f_O_multiplication_44g z0 z1 z2 g44) eg44)) H locs ?_ ?_ hS ls (lv_sub hl [2, 3, 4] rfl)
    · with_reducible exact hP
    · with_reducible exact hD
  have K9v : ∀ (v9 : Int32) (hj : f_O_multiplication z0 z1 z2 = f_O_multiplication_9v z0 z1 z2 v9) (H : Heap) (locs : List Loc) (hP : va_P (dC, dI) classes [(h0, .inr (0, [.long (z0.1), .long (z0.2.1), .long (z0.2.2.1), .long (z0.2.2.2.1), .long (z0.2.2.2.2.1), .long (z0.2.2.2.2.2.1), .int (bI z0.2.2.2.2.2.2)])), (h1, .inr (0, [.long (z1.1), .long (z1.2.1), .long (z1.2.2.1), .long (z1.2.2.2.1), .long (z1.2.2.2.2.1), .long (z1.2.2.2.2.2.1), .int (bI z1.2.2.2.2.2.2)])), (h2, .inr (0, [.long (z2.1), .long (z2.2.1), .long (z2.2.2.1), .long (z2.2.2.2.1), .long (z2.2.2.2.2.1), .long (z2.2.2.2.2.2.1), .int (bI z2.2.2.2.2.2.2)]))] H) (hD : va_D A [(h0, .inr (0, [.long (z0.1), .long (z0.2.1), .long (z0.2.2.1), .long (z0.2.2.2.1), .long (z0.2.2.2.2.1), .long (z0.2.2.2.2.2.1), .int (bI z0.2.2.2.2.2.2)])), (h1, .inr (0, [.long (z1.1), .long (z1.2.1), .long (z1.2.2.1), .long (z1.2.2.2.1), .long (z1.2.2.2.2.1), .long (z1.2.2.2.2.2.1), .int (bI z1.2.2.2.2.2.2)])), (h2, .inr (0, [.long (z2.1), .long (z2.2.1), .long (z2.2.2.1), .long (z2.2.2.2.1), .long (z2.2.2.2.2.1), .long (z2.2.2.2.2.2.1), .int (bI z2.2.2.2.2.2.2)]))]) (hS : va_S A s.heap H locs) (ls : Array Slot) (hl : lv_has ls 13 [(3, .int (v9)), (0, .ref h0), (1, .ref h1), (2, .ref h2)]), W p l e (headSpec w_O_multiplication ({ frames := 3, cells := 0, slots := 0, locals := 71 } : Room)).room s m ([.ref h0, .ref h1, .ref h2] : List Value).toArray below meth c H locs 0 0 (MQ below (va_Qv (fun _ : Unit => True) (mB (dC, dI) A [(h0, vE (f_O_multiplication z0 z1 z2)), (h1, vE z1), (h2, vE z2)]) A) ([.ref h0, .ref h1, .ref h2] : List Value).toArray s 0 0 A) (F0 m 10 ls []) := by
    intro v9 hj H locs hP hD hS ls hl
    refine lv_aload_n hx hb d_O_multiplication_10 rfl (lv_at hl 3 rfl) ?_
    refine rc_i (W.runS (As := [.ref h2]) (rest := []) ⟨hx, hb, hml, hown, hts⟩ (c_O_knownBelow l dC dI h2 z2) (va_cwS 1 hts (gS gw207 gw208 gw4 gw209) rfl rfl rfl (by decide +kernel) ⟨(Nat.le_of_ble_eq_true rfl), (Nat.le_of_ble_eq_true rfl)⟩) ⟨blr, fun U hU hW => ⟨rfl, by rw [hU]; exact hP.sub [2] rfl, va_K.moved hW.alike hK⟩⟩ rfl rfl hl.1 rfl (lv_room (Nat.le_of_ble_eq_true rfl)) d_O_multiplication_11 ⟨Nat.zero_le _, Nat.zero_le _⟩) ?_
    refine lv_aload_n hx hb d_O_multiplication_14 rfl (lv_at hl 2 rfl) ?_
    refine rc_i (W.runS (As := [.ref h1]) (rest := [.int (f_O_knownBelow z2)]) ⟨hx, hb, hml, hown, hts⟩ (c_O_zerosBelow l dC dI h1 z1) (va_cwS 1 hts (gS gw219 gw220 gw4 gw221) rfl rfl rfl (by decide +kernel) ⟨(Nat.le_of_ble_eq_true rfl), (Nat.le_of_ble_eq_true rfl)⟩) ⟨blr, fun U hU hW => ⟨rfl, by rw [hU]; exact hP.sub [1] rfl, va_K.moved hW.alike hK⟩⟩ rfl rfl hl.1 rfl (lv_room (Nat.le_of_ble_eq_true rfl)) d_O_multiplication_15 ⟨Nat.zero_le _, Nat.zero_le _⟩) ?_
    refine lv_iadd hx hb d_O_multiplication_18 ?_
    refine lv_topi (fun v19 ev19 => ?_)
    refine lv_istore (lv' := [(4, .int (v19)), (3, .int (v9)), (0, .ref h0), (1, .ref h1), (2, .ref h2)]) hx hb d_O_multiplication_19 hl (by decide) rfl (fun ls hl => ?_)
    refine K19v v19 v9 (Eq.trans (hj.trans rfl) (congrArg (fun v19 => f_O_multiplication_19v z0 z1 z2 v19 v9) ev19.symm)) H locs ?_ ?_ hS ls (lv_sub hl [0, 1, 2, 3, 4] rfl)
    · with_reducible exact hP
    · with_reducible exact hD
  refine lv_aload_n hx hb d_O_multiplication_0 rfl (lv_at hl 1 rfl) ?_
  refine rc_i (W.runS (As := [.ref h1]) (rest := []) ⟨hx, hb, hml, hown, hts⟩ (c_O_knownBelow l dC dI h1 z1) (va_cwS 1 hts (gS gw207 gw208 gw4 gw209) rfl rfl rfl (by decide +kernel) ⟨(Nat.le_of_ble_eq_true rfl), (Nat.le_of_ble_eq_true rfl)⟩) ⟨blr, fun U hU hW => ⟨rfl, by rw [hU]; exact hP.sub [1] rfl, va_K.moved hW.alike hK⟩⟩ rfl rfl hl.1 rfl (lv_room (Nat.le_of_ble_eq_true rfl)) d_O_multiplication_1 ⟨Nat.zero_le _, Nat.zero_le _⟩) ?_
  refine lv_aload_n hx hb d_O_multiplication_4 rfl (lv_at hl 2 rfl) ?_
  refine rc_i (W.runS (As := [.ref h2]) (rest := [.int (f_O_knownBelow z1)]) ⟨hx, hb, hml, hown, hts⟩ (c_O_zerosBelow l dC dI h2 z2) (va_cwS 1 hts (gS gw219 gw220 gw4 gw221) rfl rfl rfl (by decide +kernel) ⟨(Nat.le_of_ble_eq_true rfl), (Nat.le_of_ble_eq_true rfl)⟩) ⟨blr, fun U hU hW => ⟨rfl, by rw [hU]; exact hP.sub [2] rfl, va_K.moved hW.alike hK⟩⟩ rfl rfl hl.1 rfl (lv_room (Nat.le_of_ble_eq_true rfl)) d_O_multiplication_5 ⟨Nat.zero_le _, Nat.zero_le _⟩) ?_
  refine lv_iadd hx hb d_O_multiplication_8 ?_
  refine lv_topi (fun v9 ev9 => ?_)
  refine lv_istore_n (lv' := [(3, .int (v9)), (0, .ref h0), (1, .ref h1), (2, .ref h2)]) hx hb d_O_multiplication_9 rfl hl (by decide) rfl (fun ls hl => ?_)
  refine K9v v9 (Eq.trans (rfl) (congrArg (fun v9 => f_O_multiplication_9v z0 z1 z2 v9) ev9.symm)) s.heap [] ?_ ?_ hS ls (lv_sub hl [0, 1, 2, 3] rfl)
  · with_reducible exact hP
  · with_reducible exact hD
-- ValueSieve$Operations.division
theorem d_O_division_0 : decode b_O_division 0 = .ok (.aload_n 2, 1) := by decide +kernel
theorem d_O_division_1 : decode b_O_division 1 = .ok (.getfield 55, 3) := by decide +kernel
theorem d_O_division_4 : decode b_O_division 4 = .ok (.lconst 0, 1) := by decide +kernel
theorem d_O_division_5 : decode b_O_division 5 = .ok (.lcmp, 1) := by decide +kernel
theorem d_O_division_6 : decode b_O_division 6 = .ok (.ifCond .ne 15, 3) := by decide +kernel
theorem d_O_division_9 : decode b_O_division 9 = .ok (.aload_n 0, 1) := by decide +kernel
theorem d_O_division_10 : decode b_O_division 10 = .ok (.lconst 0, 1) := by decide +kernel
theorem d_O_division_11 : decode b_O_division 11 = .ok (.aload_n 1, 1) := by decide +kernel
theorem d_O_division_12 : decode b_O_division 12 = .ok (.getfield 49, 3) := by decide +kernel
theorem d_O_division_15 : decode b_O_division 15 = .ok (.invokevirtual 76, 3) := by decide +kernel
theorem d_O_division_18 : decode b_O_division 18 = .ok (.goto 29, 3) := by decide +kernel
theorem d_O_division_21 : decode b_O_division 21 = .ok (.aload_n 0, 1) := by decide +kernel
theorem d_O_division_22 : decode b_O_division 22 = .ok (.aload_n 1, 1) := by decide +kernel
theorem d_O_division_23 : decode b_O_division 23 = .ok (.getfield 55, 3) := by decide +kernel
theorem d_O_division_26 : decode b_O_division 26 = .ok (.aload_n 2, 1) := by decide +kernel
theorem d_O_division_27 : decode b_O_division 27 = .ok (.getfield 49, 3) := by decide +kernel
theorem d_O_division_30 : decode b_O_division 30 = .ok (.invokestatic 7, 3) := by decide +kernel
theorem d_O_division_33 : decode b_O_division 33 = .ok (.aload_n 1, 1) := by decide +kernel
theorem d_O_division_34 : decode b_O_division 34 = .ok (.getfield 49, 3) := by decide +kernel
theorem d_O_division_37 : decode b_O_division 37 = .ok (.aload_n 2, 1) := by decide +kernel
theorem d_O_division_38 : decode b_O_division 38 = .ok (.getfield 55, 3) := by decide +kernel
theorem d_O_division_41 : decode b_O_division 41 = .ok (.invokestatic 7, 3) := by decide +kernel
theorem d_O_division_44 : decode b_O_division 44 = .ok (.invokevirtual 76, 3) := by decide +kernel
theorem d_O_division_47 : decode b_O_division 47 = .ok (.return_, 1) := by decide +kernel
def f_O_division_44g (z0 : VV) (z1 : VV) (z2 : VV) (g44 : VV) : VV := g44
def f_O_division_15g (z0 : VV) (z1 : VV) (z2 : VV) (g15 : VV) : VV := g15
def f_O_division (z0 : VV) (z1 : VV) (z2 : VV) : VV := (if z2.2.2.1 = 0 then f_O_division_15g z0 z1 z2 (f_V_sayUnsigned z0 (0) z1.2.2.2.1) else f_O_division_44g z0 z1 z2 (f_V_sayUnsigned z0 (f_N_quotient z1.2.2.1 z2.2.2.2.1) (f_N_quotient z1.2.2.2.1 z2.2.2.1)))
set_option maxRecDepth 100000 in
set_option maxHeartbeats 4000000 in
theorem c_O_division (l : Launch) (dC : Nat → ClassId) (dI : Nat → Nat → Nat) (h0 : Nat) (h1 : Nat) (h2 : Nat) (sz : Nat) (z0 : VV) (z1 : VV) (z2 : VV) : Met l y_O_division w_O_division ({ frames := 2, cells := 0, slots := 0, locals := 48 } : Room) (va_Pc [.ref h0, .ref h1, .ref h2] (mP (dC, dI) [(h0, vE z0), (h1, vE z1), (h2, vE z2)] sz)) (va_Qv (fun _ : Unit => True) (mB (dC, dI) (va_A [(h0, vE z0), (h1, vE z1), (h2, vE z2)] sz) [(h0, vE (f_O_division z0 z1 z2)), (h1, vE z1), (h2, vE z2)]) (va_A [(h0, vE z0), (h1, vE z1), (h2, vE z2)] sz)) 0 0 (va_A [(h0, vE z0), (h1, vE z1), (h2, vE z2)] sz) := by
  refine Met.ofW (cc := b_O_division) (maxL := 3) (ret := none) (by decide) rfl ?_
  intro p e s m args below meth c s₁ B hml hv
  obtain ⟨rfl, hsz, hP, hK, hD0⟩ := hv
  have hx := B.exec
  have hb := B.bytes
  have hr := B.returns
  have hts := atoms_spec (ws := w_O_division) B.pre
  have hG : ∀ w ∈ gG, w.before _ s = true := fun w h => hts w (List.mem_cons_of_mem _ h)
  have hown : s.vm.findClass R_O = some m.cls := findClass_of_methodNamed B.named
  have hlocks := B.notSynchronized
  subst hsz
  have hD := hD0.self (sz := s.heap.size)
  generalize hAe : va_A [(h0, vE z0), (h1, vE z1), (h2, vE z2)] s.heap.size = A at hD ⊢
  have hA : ∀ q : Nat, s.heap.size ≤ q → A q := fun q h => by rw [← hAe]; exact Or.inr h
  have hS : va_S A s.heap s.heap [] := va_S.rf
  have hP : va_P (dC, dI) classes [(h0, .inr (0, [.long (z0.1), .long (z0.2.1), .long (z0.2.2.1), .long (z0.2.2.2.1), .long (z0.2.2.2.2.1), .long (z0.2.2.2.2.2.1), .int (bI z0.2.2.2.2.2.2)])), (h1, .inr (0, [.long (z1.1), .long (z1.2.1), .long (z1.2.2.1), .long (z1.2.2.2.1), .long (z1.2.2.2.2.1), .long (z1.2.2.2.2.2.1), .int (bI z1.2.2.2.2.2.2)])), (h2, .inr (0, [.long (z2.1), .long (z2.2.1), .long (z2.2.2.1), .long (z2.2.2.2.1), .long (z2.2.2.2.2.1), .long (z2.2.2.2.2.2.1), .int (bI z2.2.2.2.2.2.2)]))] s.heap := hP
  have hD : va_D A [(h0, .inr (0, [.long (z0.1), .long (z0.2.1), .long (z0.2.2.1), .long (z0.2.2.2.1), .long (z0.2.2.2.2.1), .long (z0.2.2.2.2.2.1), .int (bI z0.2.2.2.2.2.2)])), (h1, .inr (0, [.long (z1.1), .long (z1.2.1), .long (z1.2.2.1), .long (z1.2.2.2.1), .long (z1.2.2.2.2.1), .long (z1.2.2.2.2.2.1), .int (bI z1.2.2.2.2.2.2)])), (h2, .inr (0, [.long (z2.1), .long (z2.2.1), .long (z2.2.2.1), .long (z2.2.2.2.1), .long (z2.2.2.2.2.1), .long (z2.2.2.2.2.2.1), .int (bI z2.2.2.2.2.2.2)]))] := hD
  have hl := lv_entry ([.ref h0, .ref h1, .ref h2]) (n := 3) (Nat.le_of_ble_eq_true rfl)
  rw [lg_entry_eq]
  generalize (lg_sl ([.ref h0, .ref h1, .ref h2]) ++ List.replicate (3 - (lg_sl ([.ref h0, .ref h1, .ref h2])).length) Slot.unset).toArray = ls at hl ⊢
  have hl : lv_has ls 3 [(0, .ref h0), (1, .ref h1), (2, .ref h2)] := hl
  have K44g : ∀ (g44 : VV) (hj : f_O_division z0 z1 z2 = f_O_division_44g z0 z1 z2 g44) (H : Heap) (locs : List Loc) (hP : va_P (dC, dI) classes [(h0, .inr (0, [.long (g44.1), .long (g44.2.1), .long (g44.2.2.1), .long (g44.2.2.2.1), .long (g44.2.2.2.2.1), .long (g44.2.2.2.2.2.1), .int (bI g44.2.2.2.2.2.2)])), (h1, .inr (0, [.long (z1.1), .long (z1.2.1), .long (z1.2.2.1), .long (z1.2.2.2.1), .long (z1.2.2.2.2.1), .long (z1.2.2.2.2.2.1), .int (bI z1.2.2.2.2.2.2)])), (h2, .inr (0, [.long (z2.1), .long (z2.2.1), .long (z2.2.2.1), .long (z2.2.2.2.1), .long (z2.2.2.2.2.1), .long (z2.2.2.2.2.2.1), .int (bI z2.2.2.2.2.2.2)]))] H) (hD : va_D A [(h0, .inr (0, [.long (g44.1), .long (g44.2.1), .long (g44.2.2.1), .long (g44.2.2.2.1), .long (g44.2.2.2.2.1), .long (g44.2.2.2.2.2.1), .int (bI g44.2.2.2.2.2.2)])), (h1, .inr (0, [.long (z1.1), .long (z1.2.1), .long (z1.2.2.1), .long (z1.2.2.2.1), .long (z1.2.2.2.2.1), .long (z1.2.2.2.2.2.1), .int (bI z1.2.2.2.2.2.2)])), (h2, .inr (0, [.long (z2.1), .long (z2.2.1), .long (z2.2.2.1), .long (z2.2.2.2.1), .long (z2.2.2.2.2.1), .long (z2.2.2.2.2.2.1), .int (bI z2.2.2.2.2.2.2)]))]) (hS : va_S A s.heap H locs) (ls : Array Slot) (hl : lv_has ls 3 []), W p l e (headSpec w_O_division ({ frames := 2, cells := 0, slots := 0, locals := 48 } : Room)).room s m ([.ref h0, .ref h1, .ref h2] : List Value).toArray below meth c H locs 0 0 (MQ below (va_Qv (fun _ : Unit => True) (mB (dC, dI) A [(h0, vE (f_O_division z0 z1 z2)), (h1, vE z1), (h2, vE z2)]) A) ([.ref h0, .ref h1, .ref h2] : List Value).toArray s 0 0 A) (F0 m 47 ls []) := by
    intro g44 hj H locs hP hD hS ls hl
    have fe : f_O_division z0 z1 z2 = g44 := hj.trans rfl
    exact W.vret hx hb hr (fun t ht hW => ⟨⟨(), rfl, trivial, by rw [ht, fe]; (try simp only [vE_mk]); exact hP, by rw [fe]; (try simp only [vE_mk]); exact hD⟩, hS.F ht⟩) hS.2.2 d_O_division_47
  have K15g : ∀ (g15 : VV) (hj : f_O_division z0 z1 z2 = f_O_division_15g z0 z1 z2 g15) (H : Heap) (locs : List Loc) (hP : va_P (dC, dI) classes [(h0, .inr (0, [.long (g15.1), .long (g15.2.1), .long (g15.2.2.1), .long (g15.2.2.2.1), .long (g15.2.2.2.2.1), .long (g15.2.2.2.2.2.1), .int (bI g15.2.2.2.2.2.2)])), (h1, .inr (0, [.long (z1.1), .long (z1.2.1), .long (z1.2.2.1), .long (z1.2.2.2.1), .long (z1.2.2.2.2.1), .long (z1.2.2.2.2.2.1), .int (bI z1.2.2.2.2.2.2)])), (h2, .inr (0, [.long (z2.1), .long (z2.2.1), .long (z2.2.2.1), .long (z2.2.2.2.1), .long (z2.2.2.2.2.1), .long (z2.2.2.2.2.2.1), .int (bI z2.2.2.2.2.2.2)]))] H) (hD : va_D A [(h0, .inr (0, [.long (g15.1), .long (g15.2.1), .long (g15.2.2.1), .long (g15.2.2.2.1), .long (g15.2.2.2.2.1), .long (g15.2.2.2.2.2.1), .int (bI g15.2.2.2.2.2.2)])), (h1, .inr (0, [.long (z1.1), .long (z1.2.1), .long (z1.2.2.1), .long (z1.2.2.2.1), .long (z1.2.2.2.2.1), .long (z1.2.2.2.2.2.1), .int (bI z1.2.2.2.2.2.2)])), (h2, .inr (0, [.long (z2.1), .long (z2.2.1), .long (z2.2.2.1), .long (z2.2.2.2.1), .long (z2.2.2.2.2.1), .long (z2.2.2.2.2.2.1), .int (bI z2.2.2.2.2.2.2)]))]) (hS : va_S A s.heap H locs) (ls : Array Slot) (hl : lv_has ls 3 []), W p l e (headSpec w_O_division ({ frames := 2, cells := 0, slots := 0, locals := 48 } : Room)).room s m ([.ref h0, .ref h1, .ref h2] : List Value).toArray below meth c H locs 0 0 (MQ below (va_Qv (fun _ : Unit => True) (mB (dC, dI) A [(h0, vE (f_O_division z0 z1 z2)), (h1, vE z1), (h2, vE z2)]) A) ([.ref h0, .ref h1, .ref h2] : List Value).toArray s 0 0 A) (F0 m 18 ls []) := by
    intro g15 hj H locs hP hD hS ls hl
    refine lv_goto (tgt := 47) hx hb d_O_division_18 (by decide) ?_
    have fe : f_O_division z0 z1 z2 = g15 := hj.trans rfl
    exact W.vret hx hb hr (fun t ht hW => ⟨⟨(), rfl, trivial, by rw [ht, fe]; (try simp only [vE_mk]); exact hP, by rw [fe]; (try simp only [vE_mk]); exact hD⟩, hS.F ht⟩) hS.2.2 d_O_division_47
  refine lv_aload_n hx hb d_O_division_0 rfl (lv_at hl 2 rfl) ?_
  refine va_get (D := (dC, dI)) (ci := 0) (v := .long (z2.2.2.1)) (C := R_V) (T := F_V) (N := 7) hx hb hts (fun w h => List.mem_cons_of_mem _ (uw_V w h)) hown hK hP 2 rfl rfl 2 (by decide) (hG (.fieldLink R_O 55 "ValueSieve$Value" "low" "J") gw26) (fun _ h9 => h9) rfl d_O_division_1 ?_
  refine lv_lconst (v := 0) hx hb d_O_division_4 (by decide) ?_
  refine wl_ne (tgt := 21) hx hb d_O_division_5 d_O_division_6 (by decide) (fun e1_21 => ?_) (fun e1_21 => ?_)
  · refine lv_aload_n hx hb d_O_division_21 rfl (lv_at hl 0 rfl) ?_
    refine lv_aload_n hx hb d_O_division_22 rfl (lv_at hl 1 rfl) ?_
    refine va_get (D := (dC, dI)) (ci := 0) (v := .long (z1.2.2.1)) (C := R_V) (T := F_V) (N := 7) hx hb hts (fun w h => List.mem_cons_of_mem _ (uw_V w h)) hown hK hP 1 rfl rfl 2 (by decide) (hG (.fieldLink R_O 55 "ValueSieve$Value" "low" "J") gw26) (fun _ h9 => h9) rfl d_O_division_23 ?_
    refine lv_aload_n hx hb d_O_division_26 rfl (lv_at hl 2 rfl) ?_
    refine va_get (D := (dC, dI)) (ci := 0) (v := .long (z2.2.2.2.1)) (C := R_V) (T := F_V) (N := 7) hx hb hts (fun w h => List.mem_cons_of_mem _ (uw_V w h)) hown hK hP 2 rfl rfl 3 (by decide) (hG (.fieldLink R_O 49 "ValueSieve$Value" "high" "J") gw30) (fun _ h9 => h9) rfl d_O_division_27 ?_
    refine rc_l (W.runS (As := [.long (z1.2.2.1), .long (z2.2.2.2.1)]) (rest := [.ref h0]) ⟨hx, hb, hml, hown, hts⟩ (c_N_quotient l z1.2.2.1 z2.2.2.2.1) (va_cwS 2 hts (gS gw241 gw231 gw2 gw232) rfl rfl rfl (by decide +kernel) ⟨(Nat.le_of_ble_eq_true rfl), (Nat.le_of_ble_eq_true rfl)⟩) ⟨bl0, fun U hU hW => ⟨rfl, trivial⟩⟩ rfl rfl hl.1 rfl (lv_room (Nat.le_of_ble_eq_true rfl)) d_O_division_30 ⟨Nat.zero_le _, Nat.zero_le _⟩) ?_
    refine lv_aload_n hx hb d_O_division_33 rfl (lv_at hl 1 rfl) ?_
    refine va_get (D := (dC, dI)) (ci := 0) (v := .long (z1.2.2.2.1)) (C := R_V) (T := F_V) (N := 7) hx hb hts (fun w h => List.mem_cons_of_mem _ (uw_V w h)) hown hK hP 1 rfl rfl 3 (by decide) (hG (.fieldLink R_O 49 "ValueSieve$Value" "high" "J") gw30) (fun _ h9 => h9) rfl d_O_division_34 ?_
    refine lv_aload_n hx hb d_O_division_37 rfl (lv_at hl 2 rfl) ?_
    refine va_get (D := (dC, dI)) (ci := 0) (v := .long (z2.2.2.1)) (C := R_V) (T := F_V) (N := 7) hx hb hts (fun w h => List.mem_cons_of_mem _ (uw_V w h)) hown hK hP 2 rfl rfl 2 (by decide) (hG (.fieldLink R_O 55 "ValueSieve$Value" "low" "J") gw26) (fun _ h9 => h9) rfl d_O_division_38 ?_
    refine rc_l (W.runS (As := [.long (z1.2.2.2.1), .long (z2.2.2.1)]) (rest := [.long (f_N_quotient z1.2.2.1 z2.2.2.2.1), .ref h0]) ⟨hx, hb, hml, hown, hts⟩ (c_N_quotient l z1.2.2.2.1 z2.2.2.1) (va_cwS 2 hts (gS gw241 gw231 gw2 gw232) rfl rfl rfl (by decide +kernel) ⟨(Nat.le_of_ble_eq_true rfl), (Nat.le_of_ble_eq_true rfl)⟩) ⟨bl0, fun U hU hW => ⟨rfl, trivial⟩⟩ rfl rfl hl.1 rfl (lv_room (Nat.le_of_ble_eq_true rfl)) d_O_division_41 ⟨Nat.zero_le _, Nat.zero_le _⟩) ?_
    refine mg_v (F := f_V_sayUnsigned z0 (f_N_quotient z1.2.2.1 z2.2.2.2.1) (f_N_quotient z1.2.2.2.1 z2.2.2.1)) (wc := [(h0, vE z0)]) (w1 := fun g44 => [(h0, vE g44)]) (wr := [(h1, .inr (0, [.long (z1.1), .long (z1.2.1), .long (z1.2.2.1), .long (z1.2.2.2.1), .long (z1.2.2.2.2.1), .long (z1.2.2.2.2.2.1), .int (bI z1.2.2.2.2.2.2)])), (h2, .inr (0, [.long (z2.1), .long (z2.2.1), .long (z2.2.2.1), .long (z2.2.2.2.1), .long (z2.2.2.2.2.1), .long (z2.2.2.2.2.2.1), .int (bI z2.2.2.2.2.2.2)]))]) (ws' := fun g44 => [(h0, .inr (0, [.long (g44.1), .long (g44.2.1), .long (g44.2.2.1), .long (g44.2.2.2.1), .long (g44.2.2.2.2.1), .long (g44.2.2.2.2.2.1), .int (bI g44.2.2.2.2.2.2)])), (h1, .inr (0, [.long (z1.1), .long (z1.2.1), .long (z1.2.2.1), .long (z1.2.2.2.1), .long (z1.2.2.2.2.1), .long (z1.2.2.2.2.2.1), .int (bI z1.2.2.2.2.2.2)])), (h2, .inr (0, [.long (z2.1), .long (z2.2.1), .long (z2.2.2.1), .long (z2.2.2.2.1), .long (z2.2.2.2.2.1), .long (z2.2.2.2.2.2.1), .int (bI z2.2.2.2.2.2.2)]))]) (va_runV (As := [.long (f_N_quotient z1.2.2.1 z2.2.2.2.1), .long (f_N_quotient z1.2.2.2.1 z2.2.2.1)]) (rest := []) ⟨hx, hb, hml, hown, hts⟩ (c_V_sayUnsigned l dC dI h0 s.heap.size z0 (f_N_quotient z1.2.2.1 z2.2.2.2.1) (f_N_quotient z1.2.2.2.1 z2.2.2.1)) (cwV 2 hts (gV gw193 gw84 gw85 gw1 gw86) rfl rfl rfl (by decide +kernel) ⟨(Nat.le_of_ble_eq_true rfl), (Nat.le_of_ble_eq_true rfl)⟩) ⟨blm, va_recv hK hP (ci := 0) (q0 := 0) rfl rfl, fun U hU hW => ⟨rfl, by rw [hU], by rw [hU]; exact hP.sub [0] rfl, va_K.moved hW.alike hK, (hD.sub [0] (by decide) rfl).weaken (fun _ _ _ _ => trivial)⟩⟩ rfl rfl hl.1 rfl (lv_room (Nat.le_of_ble_eq_true rfl)) d_O_division_44 ⟨Nat.zero_le _, Nat.zero_le _⟩) hP hD hS hA [0] [1, 2] [2, 0, 1] rfl rfl (by decide) (by decide) (fun _ => rfl) (by decide) (fun g44 eg44 H locs hP hD hS => ?_)
    refine K44g g44 (Eq.trans (by unfold f_O_division; first | with_reducible exact if_neg e1_21 | exact if_neg e1_21) (congrArg (fun g44 => f_O_division_44g z0 z1 z2 g44) eg44)) H locs ?_ ?_ hS ls (lv_sub hl [] rfl)
    · with_reducible exact hP
    · with_reducible exact hD
  · refine lv_aload_n hx hb d_O_division_9 rfl (lv_at hl 0 rfl) ?_
    refine lv_lconst (v := 0) hx hb d_O_division_10 (by decide) ?_
    refine lv_aload_n hx hb d_O_division_11 rfl (lv_at hl 1 rfl) ?_
    refine va_get (D := (dC, dI)) (ci := 0) (v := .long (z1.2.2.2.1)) (C := R_V) (T := F_V) (N := 7) hx hb hts (fun w h => List.mem_cons_of_mem _ (uw_V w h)) hown hK hP 1 rfl rfl 3 (by decide) (hG (.fieldLink R_O 49 "ValueSieve$Value" "high" "J") gw30) (fun _ h9 => h9) rfl d_O_division_12 ?_
    refine mg_v (F := f_V_sayUnsigned z0 (0) z1.2.2.2.1) (wc := [(h0, vE z0)]) (w1 := fun g15 => [(h0, vE g15)]) (wr := [(h1, .inr (0, [.long (z1.1), .long (z1.2.1), .long (z1.2.2.1), .long (z1.2.2.2.1), .long (z1.2.2.2.2.1), .long (z1.2.2.2.2.2.1), .int (bI z1.2.2.2.2.2.2)])), (h2, .inr (0, [.long (z2.1), .long (z2.2.1), .long (z2.2.2.1), .long (z2.2.2.2.1), .long (z2.2.2.2.2.1), .long (z2.2.2.2.2.2.1), .int (bI z2.2.2.2.2.2.2)]))]) (ws' := fun g15 => [(h0, .inr (0, [.long (g15.1), .long (g15.2.1), .long (g15.2.2.1), .long (g15.2.2.2.1), .long (g15.2.2.2.2.1), .long (g15.2.2.2.2.2.1), .int (bI g15.2.2.2.2.2.2)])), (h1, .inr (0, [.long (z1.1), .long (z1.2.1), .long (z1.2.2.1), .long (z1.2.2.2.1), .long (z1.2.2.2.2.1), .long (z1.2.2.2.2.2.1), .int (bI z1.2.2.2.2.2.2)])), (h2, .inr (0, [.long (z2.1), .long (z2.2.1), .long (z2.2.2.1), .long (z2.2.2.2.1), .long (z2.2.2.2.2.1), .long (z2.2.2.2.2.2.1), .int (bI z2.2.2.2.2.2.2)]))]) (va_runV (As := [.long (0), .long (z1.2.2.2.1)]) (rest := []) ⟨hx, hb, hml, hown, hts⟩ (c_V_sayUnsigned l dC dI h0 s.heap.size z0 (0) z1.2.2.2.1) (cwV 2 hts (gV gw193 gw84 gw85 gw1 gw86) rfl rfl rfl (by decide +kernel) ⟨(Nat.le_of_ble_eq_true rfl), (Nat.le_of_ble_eq_true rfl)⟩) ⟨blm, va_recv hK hP (ci := 0) (q0 := 0) rfl rfl, fun U hU hW => ⟨rfl, by rw [hU], by rw [hU]; exact hP.sub [0] rfl, va_K.moved hW.alike hK, (hD.sub [0] (by decide) rfl).weaken (fun _ _ _ _ => trivial)⟩⟩ rfl rfl hl.1 rfl (lv_room (Nat.le_of_ble_eq_true rfl)) d_O_division_15 ⟨Nat.zero_le _, Nat.zero_le _⟩) hP hD hS hA [0] [1, 2] [2, 0, 1] rfl rfl (by decide) (by decide) (fun _ => rfl) (by decide) (fun g15 eg15 H locs hP hD hS => ?_)
    refine K15g g15 (Eq.trans (by unfold f_O_division; first | with_reducible exact if_pos e1_21 | exact if_pos e1_21) (congrArg (fun g15 => f_O_division_15g z0 z1 z2 g15) eg15)) H locs ?_ ?_ hS ls (lv_sub hl [] rfl)
    · with_reducible exact hP
    · with_reducible exact hD
-- ValueSieve$Operations.remainder
theorem d_O_remainder_0 : decode b_O_remainder 0 = .ok (.aload_n 1, 1) := by decide +kernel
theorem d_O_remainder_1 : decode b_O_remainder 1 = .ok (.getfield 49, 3) := by decide +kernel
theorem d_O_remainder_4 : decode b_O_remainder 4 = .ok (.aload_n 2, 1) := by decide +kernel
theorem d_O_remainder_5 : decode b_O_remainder 5 = .ok (.getfield 55, 3) := by decide +kernel
theorem d_O_remainder_8 : decode b_O_remainder 8 = .ok (.invokestatic 72, 3) := by decide +kernel
theorem d_O_remainder_11 : decode b_O_remainder 11 = .ok (.ifCond .eq 11, 3) := by decide +kernel
theorem d_O_remainder_14 : decode b_O_remainder 14 = .ok (.aload_n 0, 1) := by decide +kernel
theorem d_O_remainder_15 : decode b_O_remainder 15 = .ok (.aload_n 1, 1) := by decide +kernel
theorem d_O_remainder_16 : decode b_O_remainder 16 = .ok (.invokevirtual 65, 3) := by decide +kernel
theorem d_O_remainder_19 : decode b_O_remainder 19 = .ok (.goto 42, 3) := by decide +kernel
theorem d_O_remainder_22 : decode b_O_remainder 22 = .ok (.aload_n 2, 1) := by decide +kernel
theorem d_O_remainder_23 : decode b_O_remainder 23 = .ok (.getfield 55, 3) := by decide +kernel
theorem d_O_remainder_26 : decode b_O_remainder 26 = .ok (.lconst 0, 1) := by decide +kernel
theorem d_O_remainder_27 : decode b_O_remainder 27 = .ok (.lcmp, 1) := by decide +kernel
theorem d_O_remainder_28 : decode b_O_remainder 28 = .ok (.ifCond .ne 15, 3) := by decide +kernel
theorem d_O_remainder_31 : decode b_O_remainder 31 = .ok (.aload_n 0, 1) := by decide +kernel
theorem d_O_remainder_32 : decode b_O_remainder 32 = .ok (.lconst 0, 1) := by decide +kernel
theorem d_O_remainder_33 : decode b_O_remainder 33 = .ok (.aload_n 1, 1) := by decide +kernel
theorem d_O_remainder_34 : decode b_O_remainder 34 = .ok (.getfield 49, 3) := by decide +kernel
theorem d_O_remainder_37 : decode b_O_remainder 37 = .ok (.invokevirtual 76, 3) := by decide +kernel
theorem d_O_remainder_40 : decode b_O_remainder 40 = .ok (.goto 21, 3) := by decide +kernel
theorem d_O_remainder_43 : decode b_O_remainder 43 = .ok (.aload_n 0, 1) := by decide +kernel
theorem d_O_remainder_44 : decode b_O_remainder 44 = .ok (.lconst 0, 1) := by decide +kernel
theorem d_O_remainder_45 : decode b_O_remainder 45 = .ok (.aload_n 1, 1) := by decide +kernel
theorem d_O_remainder_46 : decode b_O_remainder 46 = .ok (.getfield 49, 3) := by decide +kernel
theorem d_O_remainder_49 : decode b_O_remainder 49 = .ok (.aload_n 2, 1) := by decide +kernel
theorem d_O_remainder_50 : decode b_O_remainder 50 = .ok (.getfield 49, 3) := by decide +kernel
theorem d_O_remainder_53 : decode b_O_remainder 53 = .ok (.lconst 1, 1) := by decide +kernel
theorem d_O_remainder_54 : decode b_O_remainder 54 = .ok (.lsub, 1) := by decide +kernel
theorem d_O_remainder_55 : decode b_O_remainder 55 = .ok (.invokestatic 52, 3) := by decide +kernel
theorem d_O_remainder_58 : decode b_O_remainder 58 = .ok (.invokevirtual 76, 3) := by decide +kernel
theorem d_O_remainder_61 : decode b_O_remainder 61 = .ok (.return_, 1) := by decide +kernel
def f_O_remainder_58g (z0 : VV) (z1 : VV) (z2 : VV) (g58 : VV) : VV := g58
def f_O_remainder_37g (z0 : VV) (z1 : VV) (z2 : VV) (g37 : VV) : VV := g37
def f_O_remainder_16g (z0 : VV) (z1 : VV) (z2 : VV) (g16 : VV) : VV := g16
def f_O_remainder (z0 : VV) (z1 : VV) (z2 : VV) : VV := (if (f_N_below z1.2.2.2.1 z2.2.2.1) = 0 then (if z2.2.2.1 = 0 then f_O_remainder_37g z0 z1 z2 (f_V_sayUnsigned z0 (0) z1.2.2.2.1) else f_O_remainder_58g z0 z1 z2 (f_V_sayUnsigned z0 (0) (f_N_less z1.2.2.2.1 (z2.2.2.2.1 - (1 : Int64))))) else f_O_remainder_16g z0 z1 z2 (f_V_take z0 z1))
set_option maxRecDepth 100000 in
set_option maxHeartbeats 4000000 in
theorem c_O_remainder (l : Launch) (dC : Nat → ClassId) (dI : Nat → Nat → Nat) (h0 : Nat) (h1 : Nat) (h2 : Nat) (sz : Nat) (z0 : VV) (z1 : VV) (z2 : VV) : Met l y_O_remainder w_O_remainder ({ frames := 2, cells := 0, slots := 0, locals := 46 } : Room) (va_Pc [.ref h0, .ref h1, .ref h2] (mP (dC, dI) [(h0, vE z0), (h1, vE z1), (h2, vE z2)] sz)) (va_Qv (fun _ : Unit => True) (mB (dC, dI) (va_A [(h0, vE z0), (h1, vE z1), (h2, vE z2)] sz) [(h0, vE (f_O_remainder z0 z1 z2)), (h1, vE z1), (h2, vE z2)]) (va_A [(h0, vE z0), (h1, vE z1), (h2, vE z2)] sz)) 0 0 (va_A [(h0, vE z0), (h1, vE z1), (h2, vE z2)] sz) := by
  refine Met.ofW (cc := b_O_remainder) (maxL := 3) (ret := none) (by decide) rfl ?_
  intro p e s m args below meth c s₁ B hml hv
  obtain ⟨rfl, hsz, hP, hK, hD0⟩ := hv
  have hx := B.exec
  have hb := B.bytes
  have hr := B.returns
  have hts := atoms_spec (ws := w_O_remainder) B.pre
  have hG : ∀ w ∈ gG, w.before _ s = true := fun w h => hts w (List.mem_cons_of_mem _ h)
  have hown : s.vm.findClass R_O = some m.cls := findClass_of_methodNamed B.named
  have hlocks := B.notSynchronized
  subst hsz
  have hD := hD0.self (sz := s.heap.size)
  generalize hAe : va_A [(h0, vE z0), (h1, vE z1), (h2, vE z2)] s.heap.size = A at hD ⊢
  have hA : ∀ q : Nat, s.heap.size ≤ q → A q := fun q h => by rw [← hAe]; exact Or.inr h
  have hS : va_S A s.heap s.heap [] := va_S.rf
  have hP : va_P (dC, dI) classes [(h0, .inr (0, [.long (z0.1), .long (z0.2.1), .long (z0.2.2.1), .long (z0.2.2.2.1), .long (z0.2.2.2.2.1), .long (z0.2.2.2.2.2.1), .int (bI z0.2.2.2.2.2.2)])), (h1, .inr (0, [.long (z1.1), .long (z1.2.1), .long (z1.2.2.1), .long (z1.2.2.2.1), .long (z1.2.2.2.2.1), .long (z1.2.2.2.2.2.1), .int (bI z1.2.2.2.2.2.2)])), (h2, .inr (0, [.long (z2.1), .long (z2.2.1), .long (z2.2.2.1), .long (z2.2.2.2.1), .long (z2.2.2.2.2.1), .long (z2.2.2.2.2.2.1), .int (bI z2.2.2.2.2.2.2)]))] s.heap := hP
  have hD : va_D A [(h0, .inr (0, [.long (z0.1), .long (z0.2.1), .long (z0.2.2.1), .long (z0.2.2.2.1), .long (z0.2.2.2.2.1), .long (z0.2.2.2.2.2.1), .int (bI z0.2.2.2.2.2.2)])), (h1, .inr (0, [.long (z1.1), .long (z1.2.1), .long (z1.2.2.1), .long (z1.2.2.2.1), .long (z1.2.2.2.2.1), .long (z1.2.2.2.2.2.1), .int (bI z1.2.2.2.2.2.2)])), (h2, .inr (0, [.long (z2.1), .long (z2.2.1), .long (z2.2.2.1), .long (z2.2.2.2.1), .long (z2.2.2.2.2.1), .long (z2.2.2.2.2.2.1), .int (bI z2.2.2.2.2.2.2)]))] := hD
  have hl := lv_entry ([.ref h0, .ref h1, .ref h2]) (n := 3) (Nat.le_of_ble_eq_true rfl)
  rw [lg_entry_eq]
  generalize (lg_sl ([.ref h0, .ref h1, .ref h2]) ++ List.replicate (3 - (lg_sl ([.ref h0, .ref h1, .ref h2])).length) Slot.unset).toArray = ls at hl ⊢
  have hl : lv_has ls 3 [(0, .ref h0), (1, .ref h1), (2, .ref h2)] := hl
  have K58g : ∀ (g58 : VV) (hj : f_O_remainder z0 z1 z2 = f_O_remainder_58g z0 z1 z2 g58) (H : Heap) (locs : List Loc) (hP : va_P (dC, dI) classes [(h0, .inr (0, [.long (g58.1), .long (g58.2.1), .long (g58.2.2.1), .long (g58.2.2.2.1), .long (g58.2.2.2.2.1), .long (g58.2.2.2.2.2.1), .int (bI g58.2.2.2.2.2.2)])), (h1, .inr (0, [.long (z1.1), .long (z1.2.1), .long (z1.2.2.1), .long (z1.2.2.2.1), .long (z1.2.2.2.2.1), .long (z1.2.2.2.2.2.1), .int (bI z1.2.2.2.2.2.2)])), (h2, .inr (0, [.long (z2.1), .long (z2.2.1), .long (z2.2.2.1), .long (z2.2.2.2.1), .long (z2.2.2.2.2.1), .long (z2.2.2.2.2.2.1), .int (bI z2.2.2.2.2.2.2)]))] H) (hD : va_D A [(h0, .inr (0, [.long (g58.1), .long (g58.2.1), .long (g58.2.2.1), .long (g58.2.2.2.1), .long (g58.2.2.2.2.1), .long (g58.2.2.2.2.2.1), .int (bI g58.2.2.2.2.2.2)])), (h1, .inr (0, [.long (z1.1), .long (z1.2.1), .long (z1.2.2.1), .long (z1.2.2.2.1), .long (z1.2.2.2.2.1), .long (z1.2.2.2.2.2.1), .int (bI z1.2.2.2.2.2.2)])), (h2, .inr (0, [.long (z2.1), .long (z2.2.1), .long (z2.2.2.1), .long (z2.2.2.2.1), .long (z2.2.2.2.2.1), .long (z2.2.2.2.2.2.1), .int (bI z2.2.2.2.2.2.2)]))]) (hS : va_S A s.heap H locs) (ls : Array Slot) (hl : lv_has ls 3 []), W p l e (headSpec w_O_remainder ({ frames := 2, cells := 0, slots := 0, locals := 46 } : Room)).room s m ([.ref h0, .ref h1, .ref h2] : List Value).toArray below meth c H locs 0 0 (MQ below (va_Qv (fun _ : Unit => True) (mB (dC, dI) A [(h0, vE (f_O_remainder z0 z1 z2)), (h1, vE z1), (h2, vE z2)]) A) ([.ref h0, .ref h1, .ref h2] : List Value).toArray s 0 0 A) (F0 m 61 ls []) := by
    intro g58 hj H locs hP hD hS ls hl
    have fe : f_O_remainder z0 z1 z2 = g58 := hj.trans rfl
    exact W.vret hx hb hr (fun t ht hW => ⟨⟨(), rfl, trivial, by rw [ht, fe]; (try simp only [vE_mk]); exact hP, by rw [fe]; (try simp only [vE_mk]); exact hD⟩, hS.F ht⟩) hS.2.2 d_O_remainder_61
  have K37g : ∀ (g37 : VV) (hj : f_O_remainder z0 z1 z2 = f_O_remainder_37g z0 z1 z2 g37) (H : Heap) (locs : List Loc) (hP : va_P (dC, dI) classes [(h0, .inr (0, [.long (g37.1), .long (g37.2.1), .long (g37.2.2.1), .long (g37.2.2.2.1), .long (g37.2.2.2.2.1), .long (g37.2.2.2.2.2.1), .int (bI g37.2.2.2.2.2.2)])), (h1, .inr (0, [.long (z1.1), .long (z1.2.1), .long (z1.2.2.1), .long (z1.2.2.2.1), .long (z1.2.2.2.2.1), .long (z1.2.2.2.2.2.1), .int (bI z1.2.2.2.2.2.2)])), (h2, .inr (0, [.long (z2.1), .long (z2.2.1), .long (z2.2.2.1), .long (z2.2.2.2.1), .long (z2.2.2.2.2.1), .long (z2.2.2.2.2.2.1), .int (bI z2.2.2.2.2.2.2)]))] H) (hD : va_D A [(h0, .inr (0, [.long (g37.1), .long (g37.2.1), .long (g37.2.2.1), .long (g37.2.2.2.1), .long (g37.2.2.2.2.1), .long (g37.2.2.2.2.2.1), .int (bI g37.2.2.2.2.2.2)])), (h1, .inr (0, [.long (z1.1), .long (z1.2.1), .long (z1.2.2.1), .long (z1.2.2.2.1), .long (z1.2.2.2.2.1), .long (z1.2.2.2.2.2.1), .int (bI z1.2.2.2.2.2.2)])), (h2, .inr (0, [.long (z2.1), .long (z2.2.1), .long (z2.2.2.1), .long (z2.2.2.2.1), .long (z2.2.2.2.2.1), .long (z2.2.2.2.2.2.1), .int (bI z2.2.2.2.2.2.2)]))]) (hS : va_S A s.heap H locs) (ls : Array Slot) (hl : lv_has ls 3 []), W p l e (headSpec w_O_remainder ({ frames := 2, cells := 0, slots := 0, locals := 46 } : Room)).room s m ([.ref h0, .ref h1, .ref h2] : List Value).toArray below meth c H locs 0 0 (MQ below (va_Qv (fun _ : Unit => True) (mB (dC, dI) A [(h0, vE (f_O_remainder z0 z1 z2)), (h1, vE z1), (h2, vE z2)]) A) ([.ref h0, .ref h1, .ref h2] : List Value).toArray s 0 0 A) (F0 m 40 ls []) := by
    intro g37 hj H locs hP hD hS ls hl
    refine lv_goto (tgt := 61) hx hb d_O_remainder_40 (by decide) ?_
    have fe : f_O_remainder z0 z1 z2 = g37 := hj.trans rfl
    exact W.vret hx hb hr (fun t ht hW => ⟨⟨(), rfl, trivial, by rw [ht, fe]; (try simp only [vE_mk]); exact hP, by rw [fe]; (try simp only [vE_mk]); exact hD⟩, hS.F ht⟩) hS.2.2 d_O_remainder_61
  have K16g : ∀ (g16 : VV) (hj : f_O_remainder z0 z1 z2 = f_O_remainder_16g z0 z1 z2 g16) (H : Heap) (locs : List Loc) (hP : va_P (dC, dI) classes [(h0, .inr (0, [.long (g16.1), .long (g16.2.1), .long (g16.2.2.1), .long (g16.2.2.2.1), .long (g16.2.2.2.2.1), .long (g16.2.2.2.2.2.1), .int (bI g16.2.2.2.2.2.2)])), (h1, .inr (0, [.long (z1.1), .long (z1.2.1), .long (z1.2.2.1), .long (z1.2.2.2.1), .long (z1.2.2.2.2.1), .long (z1.2.2.2.2.2.1), .int (bI z1.2.2.2.2.2.2)])), (h2, .inr (0, [.long (z2.1), .long (z2.2.1), .long (z2.2.2.1), .long (z2.2.2.2.1), .long (z2.2.2.2.2.1), .long (z2.2.2.2.2.2.1), .int (bI z2.2.2.2.2.2.2)]))] H) (hD : va_D A [(h0, .inr (0, [.long (g16.1), .long (g16.2.1), .long (g16.2.2.1), .long (g16.2.2.2.1), .long (g16.2.2.2.2.1), .long (g16.2.2.2.2.2.1), .int (bI g16.2.2.2.2.2.2)])), (h1, .inr (0, [.long (z1.1), .long (z1.2.1), .long (z1.2.2.1), .long (z1.2.2.2.1), .long (z1.2.2.2.2.1), .long (z1.2.2.2.2.2.1), .int (bI z1.2.2.2.2.2.2)])), (h2, .inr (0, [.long (z2.1), .long (z2.2.1), .long (z2.2.2.1), .long (z2.2.2.2.1), .long (z2.2.2.2.2.1), .long (z2.2.2.2.2.2.1), .int (bI z2.2.2.2.2.2.2)]))]) (hS : va_S A s.heap H locs) (ls : Array Slot) (hl : lv_has ls 3 []), W p l e (headSpec w_O_remainder ({ frames := 2, cells := 0, slots := 0, locals := 46 } : Room)).room s m ([.ref h0, .ref h1, .ref h2] : List Value).toArray below meth c H locs 0 0 (MQ below (va_Qv (fun _ : Unit => True) (mB (dC, dI) A [(h0, vE (f_O_remainder z0 z1 z2)), (h1, vE z1), (h2, vE z2)]) A) ([.ref h0, .ref h1, .ref h2] : List Value).toArray s 0 0 A) (F0 m 19 ls []) := by
    intro g16 hj H locs hP hD hS ls hl
    refine lv_goto (tgt := 61) hx hb d_O_remainder_19 (by decide) ?_
    have fe : f_O_remainder z0 z1 z2 = g16 := hj.trans rfl
    exact W.vret hx hb hr (fun t ht hW => ⟨⟨(), rfl, trivial, by rw [ht, fe]; (try simp only [vE_mk]); exact hP, by rw [fe]; (try simp only [vE_mk]); exact hD⟩, hS.F ht⟩) hS.2.2 d_O_remainder_61
  refine lv_aload_n hx hb d_O_remainder_0 rfl (lv_at hl 1 rfl) ?_
  refine va_get (D := (dC, dI)) (ci := 0) (v := .long (z1.2.2.2.1)) (C := R_V) (T := F_V) (N := 7) hx hb hts (fun w h => List.mem_cons_of_mem _ (uw_V w h)) hown hK hP 1 rfl rfl 3 (by decide) (hG (.fieldLink R_O 49 "ValueSieve$Value" "high" "J") gw30) (fun _ h9 => h9) rfl d_O_remainder_1 ?_
  refine lv_aload_n hx hb d_O_remainder_4 rfl (lv_at hl 2 rfl) ?_
  refine va_get (D := (dC, dI)) (ci := 0) (v := .long (z2.2.2.1)) (C := R_V) (T := F_V) (N := 7) hx hb hts (fun w h => List.mem_cons_of_mem _ (uw_V w h)) hown hK hP 2 rfl rfl 2 (by decide) (hG (.fieldLink R_O 55 "ValueSieve$Value" "low" "J") gw26) (fun _ h9 => h9) rfl d_O_remainder_5 ?_
  refine rc_i (W.runS (As := [.long (z1.2.2.2.1), .long (z2.2.2.1)]) (rest := []) ⟨hx, hb, hml, hown, hts⟩ (c_N_below l z1.2.2.2.1 z2.2.2.1) (va_cwS 2 hts (gS gw192 gw105 gw2 gw106) rfl rfl rfl (by decide +kernel) ⟨(Nat.le_of_ble_eq_true rfl), (Nat.le_of_ble_eq_true rfl)⟩) ⟨bl0, fun U hU hW => ⟨rfl, trivial⟩⟩ rfl rfl hl.1 rfl (lv_room (Nat.le_of_ble_eq_true rfl)) d_O_remainder_8 ⟨Nat.zero_le _, Nat.zero_le _⟩) ?_
  refine lv_if_eq (tgt := 22) hx hb d_O_remainder_11 (by decide) (fun e1_22 => ?_) (fun e1_22 => ?_)
  · refine lv_aload_n hx hb d_O_remainder_22 rfl (lv_at hl 2 rfl) ?_
    refine va_get (D := (dC, dI)) (ci := 0) (v := .long (z2.2.2.1)) (C := R_V) (T := F_V) (N := 7) hx hb hts (fun w h => List.mem_cons_of_mem _ (uw_V w h)) hown hK hP 2 rfl rfl 2 (by decide) (hG (.fieldLink R_O 55 "ValueSieve$Value" "low" "J") gw26) (fun _ h9 => h9) rfl d_O_remainder_23 ?_
    refine lv_lconst (v := 0) hx hb d_O_remainder_26 (by decide) ?_
    refine wl_ne (tgt := 43) hx hb d_O_remainder_27 d_O_remainder_28 (by decide) (fun e2_43 => ?_) (fun e2_43 => ?_)
    · refine lv_aload_n hx hb d_O_remainder_43 rfl (lv_at hl 0 rfl) ?_
      refine lv_lconst (v := 0) hx hb d_O_remainder_44 (by decide) ?_
      refine lv_aload_n hx hb d_O_remainder_45 rfl (lv_at hl 1 rfl) ?_
      refine va_get (D := (dC, dI)) (ci := 0) (v := .long (z1.2.2.2.1)) (C := R_V) (T := F_V) (N := 7) hx hb hts (fun w h => List.mem_cons_of_mem _ (uw_V w h)) hown hK hP 1 rfl rfl 3 (by decide) (hG (.fieldLink R_O 49 "ValueSieve$Value" "high" "J") gw30) (fun _ h9 => h9) rfl d_O_remainder_46 ?_
      refine lv_aload_n hx hb d_O_remainder_49 rfl (lv_at hl 2 rfl) ?_
      refine va_get (D := (dC, dI)) (ci := 0) (v := .long (z2.2.2.2.1)) (C := R_V) (T := F_V) (N := 7) hx hb hts (fun w h => List.mem_cons_of_mem _ (uw_V w h)) hown hK hP 2 rfl rfl 3 (by decide) (hG (.fieldLink R_O 49 "ValueSieve$Value" "high" "J") gw30) (fun _ h9 => h9) rfl d_O_remainder_50 ?_
      refine lv_lconst (v := 1) hx hb d_O_remainder_53 (by decide) ?_
      refine lv_lsub hx hb d_O_remainder_54 ?_
      refine rc_l (W.runS (As := [.long (z1.2.2.2.1), .long (z2.2.2.2.1 - (1 : Int64))]) (rest := [.long (0), .ref h0]) ⟨hx, hb, hml, hown, hts⟩ (c_N_less l z1.2.2.2.1 (z2.2.2.2.1 - (1 : Int64))) (va_cwS 2 hts (gS gw246 gw140 gw2 gw141) rfl rfl rfl (by decide +kernel) ⟨(Nat.le_of_ble_eq_true rfl), (Nat.le_of_ble_eq_true rfl)⟩) ⟨bl0, fun U hU hW => ⟨rfl, trivial⟩⟩ rfl rfl hl.1 rfl (lv_room (Nat.le_of_ble_eq_true rfl)) d_O_remainder_55 ⟨Nat.zero_le _, Nat.zero_le _⟩) ?_
      refine mg_v (F := f_V_sayUnsigned z0 (0) (f_N_less z1.2.2.2.1 (z2.2.2.2.1 - (1 : Int64)))) (wc := [(h0, vE z0)]) (w1 := fun g58 => [(h0, vE g58)]) (wr := [(h1, .inr (0, [.long (z1.1), .long (z1.2.1), .long (z1.2.2.1), .long (z1.2.2.2.1), .long (z1.2.2.2.2.1), .long (z1.2.2.2.2.2.1), .int (bI z1.2.2.2.2.2.2)])), (h2, .inr (0, [.long (z2.1), .long (z2.2.1), .long (z2.2.2.1), .long (z2.2.2.2.1), .long (z2.2.2.2.2.1), .long (z2.2.2.2.2.2.1), .int (bI z2.2.2.2.2.2.2)]))]) (ws' := fun g58 => [(h0, .inr (0, [.long (g58.1), .long (g58.2.1), .long (g58.2.2.1), .long (g58.2.2.2.1), .long (g58.2.2.2.2.1), .long (g58.2.2.2.2.2.1), .int (bI g58.2.2.2.2.2.2)])), (h1, .inr (0, [.long (z1.1), .long (z1.2.1), .long (z1.2.2.1), .long (z1.2.2.2.1), .long (z1.2.2.2.2.1), .long (z1.2.2.2.2.2.1), .int (bI z1.2.2.2.2.2.2)])), (h2, .inr (0, [.long (z2.1), .long (z2.2.1), .long (z2.2.2.1), .long (z2.2.2.2.1), .long (z2.2.2.2.2.1), .long (z2.2.2.2.2.2.1), .int (bI z2.2.2.2.2.2.2)]))]) (va_runV (As := [.long (0), .long (f_N_less z1.2.2.2.1 (z2.2.2.2.1 - (1 : Int64)))]) (rest := []) ⟨hx, hb, hml, hown, hts⟩ (c_V_sayUnsigned l dC dI h0 s.heap.size z0 (0) (f_N_less z1.2.2.2.1 (z2.2.2.2.1 - (1 : Int64)))) (cwV 2 hts (gV gw193 gw84 gw85 gw1 gw86) rfl rfl rfl (by decide +kernel) ⟨(Nat.le_of_ble_eq_true rfl), (Nat.le_of_ble_eq_true rfl)⟩) ⟨blm, va_recv hK hP (ci := 0) (q0 := 0) rfl rfl, fun U hU hW => ⟨rfl, by rw [hU], by rw [hU]; exact hP.sub [0] rfl, va_K.moved hW.alike hK, (hD.sub [0] (by decide) rfl).weaken (fun _ _ _ _ => trivial)⟩⟩ rfl rfl hl.1 rfl (lv_room (Nat.le_of_ble_eq_true rfl)) d_O_remainder_58 ⟨Nat.zero_le _, Nat.zero_le _⟩) hP hD hS hA [0] [1, 2] [2, 0, 1] rfl rfl (by decide) (by decide) (fun _ => rfl) (by decide) (fun g58 eg58 H locs hP hD hS => ?_)
      refine K58g g58 (Eq.trans (by unfold f_O_remainder; first | with_reducible exact (if_pos e1_22).trans (if_neg e2_43) | exact (if_pos e1_22).trans (if_neg e2_43)) (congrArg (fun g58 => f_O_remainder_58g z0 z1 z2 g58) eg58)) H locs ?_ ?_ hS ls (lv_sub hl [] rfl)
      · with_reducible exact hP
      · with_reducible exact hD
    · refine lv_aload_n hx hb d_O_remainder_31 rfl (lv_at hl 0 rfl) ?_
      refine lv_lconst (v := 0) hx hb d_O_remainder_32 (by decide) ?_
      refine lv_aload_n hx hb d_O_remainder_33 rfl (lv_at hl 1 rfl) ?_
      refine va_get (D := (dC, dI)) (ci := 0) (v := .long (z1.2.2.2.1)) (C := R_V) (T := F_V) (N := 7) hx hb hts (fun w h => List.mem_cons_of_mem _ (uw_V w h)) hown hK hP 1 rfl rfl 3 (by decide) (hG (.fieldLink R_O 49 "ValueSieve$Value" "high" "J") gw30) (fun _ h9 => h9) rfl d_O_remainder_34 ?_
      refine mg_v (F := f_V_sayUnsigned z0 (0) z1.2.2.2.1) (wc := [(h0, vE z0)]) (w1 := fun g37 => [(h0, vE g37)]) (wr := [(h1, .inr (0, [.long (z1.1), .long (z1.2.1), .long (z1.2.2.1), .long (z1.2.2.2.1), .long (z1.2.2.2.2.1), .long (z1.2.2.2.2.2.1), .int (bI z1.2.2.2.2.2.2)])), (h2, .inr (0, [.long (z2.1), .long (z2.2.1), .long (z2.2.2.1), .long (z2.2.2.2.1), .long (z2.2.2.2.2.1), .long (z2.2.2.2.2.2.1), .int (bI z2.2.2.2.2.2.2)]))]) (ws' := fun g37 => [(h0, .inr (0, [.long (g37.1), .long (g37.2.1), .long (g37.2.2.1), .long (g37.2.2.2.1), .long (g37.2.2.2.2.1), .long (g37.2.2.2.2.2.1), .int (bI g37.2.2.2.2.2.2)])), (h1, .inr (0, [.long (z1.1), .long (z1.2.1), .long (z1.2.2.1), .long (z1.2.2.2.1), .long (z1.2.2.2.2.1), .long (z1.2.2.2.2.2.1), .int (bI z1.2.2.2.2.2.2)])), (h2, .inr (0, [.long (z2.1), .long (z2.2.1), .long (z2.2.2.1), .long (z2.2.2.2.1), .long (z2.2.2.2.2.1), .long (z2.2.2.2.2.2.1), .int (bI z2.2.2.2.2.2.2)]))]) (va_runV (As := [.long (0), .long (z1.2.2.2.1)]) (rest := []) ⟨hx, hb, hml, hown, hts⟩ (c_V_sayUnsigned l dC dI h0 s.heap.size z0 (0) z1.2.2.2.1) (cwV 2 hts (gV gw193 gw84 gw85 gw1 gw86) rfl rfl rfl (by decide +kernel) ⟨(Nat.le_of_ble_eq_true rfl), (Nat.le_of_ble_eq_true rfl)⟩) ⟨blm, va_recv hK hP (ci := 0) (q0 := 0) rfl rfl, fun U hU hW => ⟨rfl, by rw [hU], by rw [hU]; exact hP.sub [0] rfl, va_K.moved hW.alike hK, (hD.sub [0] (by decide) rfl).weaken (fun _ _ _ _ => trivial)⟩⟩ rfl rfl hl.1 rfl (lv_room (Nat.le_of_ble_eq_true rfl)) d_O_remainder_37 ⟨Nat.zero_le _, Nat.zero_le _⟩) hP hD hS hA [0] [1, 2] [2, 0, 1] rfl rfl (by decide) (by decide) (fun _ => rfl) (by decide) (fun g37 eg37 H locs hP hD hS => ?_)
      refine K37g g37 (Eq.trans (by unfold f_O_remainder; first | with_reducible exact (if_pos e1_22).trans (if_pos e2_43) | exact (if_pos e1_22).trans (if_pos e2_43)) (congrArg (fun g37 => f_O_remainder_37g z0 z1 z2 g37) eg37)) H locs ?_ ?_ hS ls (lv_sub hl [] rfl)
      · with_reducible exact hP
      · with_reducible exact hD
  · refine lv_aload_n hx hb d_O_remainder_14 rfl (lv_at hl 0 rfl) ?_
    refine lv_aload_n hx hb d_O_remainder_15 rfl (lv_at hl 1 rfl) ?_
    refine mg_v (F := f_V_take z0 z1) (wc := [(h0, vE z0), (h1, vE z1)]) (w1 := fun g16 => [(h0, vE g16), (h1, vE z1)]) (wr := [(h2, .inr (0, [.long (z2.1), .long (z2.2.1), .long (z2.2.2.1), .long (z2.2.2.2.1), .long (z2.2.2.2.2.1), .long (z2.2.2.2.2.2.1), .int (bI z2.2.2.2.2.2.2)]))]) (ws' := fun g16 => [(h0, .inr (0, [.long (g16.1), .long (g16.2.1), .long (g16.2.2.1), .long (g16.2.2.2.1), .long (g16.2.2.2.2.1), .long (g16.2.2.2.2.2.1), .int (bI g16.2.2.2.2.2.2)])), (h1, .inr (0, [.long (z1.1), .long (z1.2.1), .long (z1.2.2.1), .long (z1.2.2.2.1), .long (z1.2.2.2.2.1), .long (z1.2.2.2.2.2.1), .int (bI z1.2.2.2.2.2.2)])), (h2, .inr (0, [.long (z2.1), .long (z2.2.1), .long (z2.2.2.1), .long (z2.2.2.2.1), .long (z2.2.2.2.2.1), .long (z2.2.2.2.2.2.1), .int (bI z2.2.2.2.2.2.2)]))]) (va_runV (As := [.ref h1]) (rest := []) ⟨hx, hb, hml, hown, hts⟩ (c_V_take l dC dI h0 h1 s.heap.size z0 z1) (cwV 1 hts (gV gw245 gw97 gw98 gw1 gw99) rfl rfl rfl (by decide +kernel) ⟨(Nat.le_of_ble_eq_true rfl), (Nat.le_of_ble_eq_true rfl)⟩) ⟨blm, va_recv hK hP (ci := 0) (q0 := 0) rfl rfl, fun U hU hW => ⟨rfl, by rw [hU], by rw [hU]; exact hP.sub [0, 1] rfl, va_K.moved hW.alike hK, (hD.sub [0, 1] (by decide) rfl).weaken (fun _ _ _ _ => trivial)⟩⟩ rfl rfl hl.1 rfl (lv_room (Nat.le_of_ble_eq_true rfl)) d_O_remainder_16 ⟨Nat.zero_le _, Nat.zero_le _⟩) hP hD hS hA [0, 1] [2] [1, 2, 0] rfl rfl (by decide) (by decide) (fun _ => rfl) (by decide) (fun g16 eg16 H locs hP hD hS => ?_)
    refine K16g g16 (Eq.trans (by unfold f_O_remainder; first | with_reducible exact if_neg e1_22 | exact if_neg e1_22) (congrArg (fun g16 => f_O_remainder_16g z0 z1 z2 g16) eg16)) H locs ?_ ?_ hS ls (lv_sub hl [] rfl)
    · with_reducible exact hP
    · with_reducible exact hD
