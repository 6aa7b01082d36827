-- ValueSieve$Value.tighten
theorem d_V_tighten_0 : decode b_V_tighten 0 = .ok (.aload_n 0, 1) := by decide +kernel
theorem d_V_tighten_1 : decode b_V_tighten 1 = .ok (.getfield 28, 3) := by decide +kernel
theorem d_V_tighten_4 : decode b_V_tighten 4 = .ok (.ifCond .eq 4, 3) := by decide +kernel
theorem d_V_tighten_7 : decode b_V_tighten 7 = .ok (.return_, 1) := by decide +kernel
theorem d_V_tighten_8 : decode b_V_tighten 8 = .ok (.aload_n 0, 1) := by decide +kernel
theorem d_V_tighten_9 : decode b_V_tighten 9 = .ok (.lconst 0, 1) := by decide +kernel
theorem d_V_tighten_10 : decode b_V_tighten 10 = .ok (.invokevirtual 56, 3) := by decide +kernel
theorem d_V_tighten_13 : decode b_V_tighten 13 = .ok (.lstore_n 1, 1) := by decide +kernel
theorem d_V_tighten_14 : decode b_V_tighten 14 = .ok (.aload_n 0, 1) := by decide +kernel
theorem d_V_tighten_15 : decode b_V_tighten 15 = .ok (.lconst 0, 1) := by decide +kernel
theorem d_V_tighten_16 : decode b_V_tighten 16 = .ok (.invokevirtual 60, 3) := by decide +kernel
theorem d_V_tighten_19 : decode b_V_tighten 19 = .ok (.lstore_n 3, 1) := by decide +kernel
theorem d_V_tighten_20 : decode b_V_tighten 20 = .ok (.aload_n 0, 1) := by decide +kernel
theorem d_V_tighten_21 : decode b_V_tighten 21 = .ok (.ldc2_w 43, 3) := by decide +kernel
theorem d_V_tighten_24 : decode b_V_tighten 24 = .ok (.invokevirtual 56, 3) := by decide +kernel
theorem d_V_tighten_27 : decode b_V_tighten 27 = .ok (.lstore 5, 2) := by decide +kernel
theorem d_V_tighten_29 : decode b_V_tighten 29 = .ok (.aload_n 0, 1) := by decide +kernel
theorem d_V_tighten_30 : decode b_V_tighten 30 = .ok (.ldc2_w 43, 3) := by decide +kernel
theorem d_V_tighten_33 : decode b_V_tighten 33 = .ok (.invokevirtual 60, 3) := by decide +kernel
theorem d_V_tighten_36 : decode b_V_tighten 36 = .ok (.lstore 7, 2) := by decide +kernel
theorem d_V_tighten_38 : decode b_V_tighten 38 = .ok (.aload_n 0, 1) := by decide +kernel
theorem d_V_tighten_39 : decode b_V_tighten 39 = .ok (.lload_n 1, 1) := by decide +kernel
theorem d_V_tighten_40 : decode b_V_tighten 40 = .ok (.invokevirtual 63, 3) := by decide +kernel
theorem d_V_tighten_43 : decode b_V_tighten 43 = .ok (.istore 9, 2) := by decide +kernel
theorem d_V_tighten_45 : decode b_V_tighten 45 = .ok (.aload_n 0, 1) := by decide +kernel
theorem d_V_tighten_46 : decode b_V_tighten 46 = .ok (.lload 5, 2) := by decide +kernel
theorem d_V_tighten_48 : decode b_V_tighten 48 = .ok (.invokevirtual 63, 3) := by decide +kernel
theorem d_V_tighten_51 : decode b_V_tighten 51 = .ok (.istore 10, 2) := by decide +kernel
theorem d_V_tighten_53 : decode b_V_tighten 53 = .ok (.iload 9, 2) := by decide +kernel
theorem d_V_tighten_55 : decode b_V_tighten 55 = .ok (.ifCond .eq 54, 3) := by decide +kernel
theorem d_V_tighten_58 : decode b_V_tighten 58 = .ok (.iload 10, 2) := by decide +kernel
theorem d_V_tighten_60 : decode b_V_tighten 60 = .ok (.ifCond .eq 49, 3) := by decide +kernel
theorem d_V_tighten_63 : decode b_V_tighten 63 = .ok (.aload_n 0, 1) := by decide +kernel
theorem d_V_tighten_64 : decode b_V_tighten 64 = .ok (.lload_n 1, 1) := by decide +kernel
theorem d_V_tighten_65 : decode b_V_tighten 65 = .ok (.lload_n 3, 1) := by decide +kernel
theorem d_V_tighten_66 : decode b_V_tighten 66 = .ok (.invokevirtual 67, 3) := by decide +kernel
theorem d_V_tighten_69 : decode b_V_tighten 69 = .ok (.aload_n 0, 1) := by decide +kernel
theorem d_V_tighten_70 : decode b_V_tighten 70 = .ok (.lload 5, 2) := by decide +kernel
theorem d_V_tighten_72 : decode b_V_tighten 72 = .ok (.lload 7, 2) := by decide +kernel
theorem d_V_tighten_74 : decode b_V_tighten 74 = .ok (.invokevirtual 67, 3) := by decide +kernel
theorem d_V_tighten_77 : decode b_V_tighten 77 = .ok (.lor, 1) := by decide +kernel
theorem d_V_tighten_78 : decode b_V_tighten 78 = .ok (.lstore 11, 2) := by decide +kernel
theorem d_V_tighten_80 : decode b_V_tighten 80 = .ok (.aload_n 0, 1) := by decide +kernel
theorem d_V_tighten_81 : decode b_V_tighten 81 = .ok (.lload_n 1, 1) := by decide +kernel
theorem d_V_tighten_82 : decode b_V_tighten 82 = .ok (.lload 7, 2) := by decide +kernel
theorem d_V_tighten_84 : decode b_V_tighten 84 = .ok (.invokevirtual 38, 3) := by decide +kernel
theorem d_V_tighten_87 : decode b_V_tighten 87 = .ok (.aload_n 0, 1) := by decide +kernel
theorem d_V_tighten_88 : decode b_V_tighten 88 = .ok (.lload 5, 2) := by decide +kernel
theorem d_V_tighten_90 : decode b_V_tighten 90 = .ok (.lload_n 3, 1) := by decide +kernel
theorem d_V_tighten_91 : decode b_V_tighten 91 = .ok (.invokevirtual 47, 3) := by decide +kernel
theorem d_V_tighten_94 : decode b_V_tighten 94 = .ok (.aload_n 0, 1) := by decide +kernel
theorem d_V_tighten_95 : decode b_V_tighten 95 = .ok (.lload_n 1, 1) := by decide +kernel
theorem d_V_tighten_96 : decode b_V_tighten 96 = .ok (.lload 11, 2) := by decide +kernel
theorem d_V_tighten_98 : decode b_V_tighten 98 = .ok (.lload_n 1, 1) := by decide +kernel
theorem d_V_tighten_99 : decode b_V_tighten 99 = .ok (.lload 5, 2) := by decide +kernel
theorem d_V_tighten_101 : decode b_V_tighten 101 = .ok (.lxor, 1) := by decide +kernel
theorem d_V_tighten_102 : decode b_V_tighten 102 = .ok (.lor, 1) := by decide +kernel
theorem d_V_tighten_103 : decode b_V_tighten 103 = .ok (.invokevirtual 34, 3) := by decide +kernel
theorem d_V_tighten_106 : decode b_V_tighten 106 = .ok (.goto 38, 3) := by decide +kernel
theorem d_V_tighten_109 : decode b_V_tighten 109 = .ok (.iload 9, 2) := by decide +kernel
theorem d_V_tighten_111 : decode b_V_tighten 111 = .ok (.ifCond .eq 12, 3) := by decide +kernel
theorem d_V_tighten_114 : decode b_V_tighten 114 = .ok (.aload_n 0, 1) := by decide +kernel
theorem d_V_tighten_115 : decode b_V_tighten 115 = .ok (.lload_n 1, 1) := by decide +kernel
theorem d_V_tighten_116 : decode b_V_tighten 116 = .ok (.lload_n 3, 1) := by decide +kernel
theorem d_V_tighten_117 : decode b_V_tighten 117 = .ok (.invokevirtual 71, 3) := by decide +kernel
theorem d_V_tighten_120 : decode b_V_tighten 120 = .ok (.goto 24, 3) := by decide +kernel
theorem d_V_tighten_123 : decode b_V_tighten 123 = .ok (.iload 10, 2) := by decide +kernel
theorem d_V_tighten_125 : decode b_V_tighten 125 = .ok (.ifCond .eq 14, 3) := by decide +kernel
theorem d_V_tighten_128 : decode b_V_tighten 128 = .ok (.aload_n 0, 1) := by decide +kernel
theorem d_V_tighten_129 : decode b_V_tighten 129 = .ok (.lload 5, 2) := by decide +kernel
theorem d_V_tighten_131 : decode b_V_tighten 131 = .ok (.lload 7, 2) := by decide +kernel
theorem d_V_tighten_133 : decode b_V_tighten 133 = .ok (.invokevirtual 71, 3) := by decide +kernel
theorem d_V_tighten_136 : decode b_V_tighten 136 = .ok (.goto 8, 3) := by decide +kernel
theorem d_V_tighten_139 : decode b_V_tighten 139 = .ok (.aload_n 0, 1) := by decide +kernel
theorem d_V_tighten_140 : decode b_V_tighten 140 = .ok (.iconst 1, 1) := by decide +kernel
theorem d_V_tighten_141 : decode b_V_tighten 141 = .ok (.putfield 28, 3) := by decide +kernel
theorem d_V_tighten_144 : decode b_V_tighten 144 = .ok (.return_, 1) := by decide +kernel
def f_V_tighten_133g (z0 : VV) (g133 : VV) : VV := g133
def f_V_tighten_117g (z0 : VV) (g117 : VV) : VV := g117
def f_V_tighten_109 (z0 : VV) (v51 : Int32) (v43 : Int32) (v36 : Int64) (v27 : Int64) (v19 : Int64) (v13 : Int64) : VV := (if v43 = 0 then (if v51 = 0 then ((z0.1, z0.2.1, z0.2.2.1, z0.2.2.2.1, z0.2.2.2.2.1, z0.2.2.2.2.2.1, true)) else f_V_tighten_133g z0 (f_V_sayStretch z0 v27 v36)) else f_V_tighten_117g z0 (f_V_sayStretch z0 v13 v19))
def f_V_tighten_103g (z0 : VV) (g103 : VV) : VV := g103
def f_V_tighten_91g (z0 : VV) (v78 : Int64) (v27 : Int64) (v13 : Int64) (g91 : VV) : VV := f_V_tighten_103g z0 (f_V_sayBits g91 v13 (v78 ||| (v13 ^^^ v27)))
def f_V_tighten_84g (z0 : VV) (v78 : Int64) (v27 : Int64) (v19 : Int64) (v13 : Int64) (g84 : VV) : VV := f_V_tighten_91g z0 v78 v27 v13 (f_V_saySigned g84 v27 v19)
def f_V_tighten_78v (z0 : VV) (v78 : Int64) (v36 : Int64) (v27 : Int64) (v19 : Int64) (v13 : Int64) : VV := f_V_tighten_84g z0 v78 v27 v19 v13 (f_V_sayUnsigned z0 v13 v36)
def f_V_tighten_51v (z0 : VV) (v51 : Int32) (v43 : Int32) (v36 : Int64) (v27 : Int64) (v19 : Int64) (v13 : Int64) : VV := (if v43 = 0 then f_V_tighten_109 z0 v51 v43 v36 v27 v19 v13 else (if v51 = 0 then f_V_tighten_109 z0 v51 v43 v36 v27 v19 v13 else f_V_tighten_78v z0 ((f_V_openBetween z0 v13 v19) ||| (f_V_openBetween z0 v27 v36)) v36 v27 v19 v13))
def f_V_tighten_43v (z0 : VV) (v43 : Int32) (v36 : Int64) (v27 : Int64) (v19 : Int64) (v13 : Int64) : VV := f_V_tighten_51v z0 (f_V_holds z0 v27) v43 v36 v27 v19 v13
def f_V_tighten_36v (z0 : VV) (v36 : Int64) (v27 : Int64) (v19 : Int64) (v13 : Int64) : VV := f_V_tighten_43v z0 (f_V_holds z0 v13) v36 v27 v19 v13
def f_V_tighten_27v (z0 : VV) (v27 : Int64) (v19 : Int64) (v13 : Int64) : VV := f_V_tighten_36v z0 (f_V_lastOfHalf z0 (-9223372036854775808)) v27 v19 v13
def f_V_tighten_19v (z0 : VV) (v19 : Int64) (v13 : Int64) : VV := f_V_tighten_27v z0 (f_V_firstOfHalf z0 (-9223372036854775808)) v19 v13
def f_V_tighten_13v (z0 : VV) (v13 : Int64) : VV := f_V_tighten_19v z0 (f_V_lastOfHalf z0 (0)) v13
def f_V_tighten (z0 : VV) : VV := (if (bI z0.2.2.2.2.2.2) = 0 then f_V_tighten_13v z0 (f_V_firstOfHalf z0 (0)) else z0)
set_option maxRecDepth 100000 in
set_option maxHeartbeats 4000000 in
theorem c_V_tighten (l : Launch) (dC : Nat → ClassId) (dI : Nat → Nat → Nat) (h0 : Nat) (sz : Nat) (z0 : VV) : Met l y_V_tighten w_V_tighten ({ frames := 3, cells := 0, slots := 0, locals := 86 } : Room) (va_Pc [.ref h0] (mP (dC, dI) [(h0, vE z0)] sz)) (va_Qv (fun _ : Unit => True) (mB (dC, dI) (va_A [(h0, vE z0)] sz) [(h0, vE (f_V_tighten z0))]) (va_A [(h0, vE z0)] sz)) 0 0 (va_A [(h0, vE z0)] sz) := by
  refine Met.ofW (cc := b_V_tighten) (maxL := 13) (ret := none) (by decide) rfl ?_
  intro p e s m args below meth c s₁ B hml hv
  obtain ⟨rfl, hsz, hP, hK, hD0⟩ := hv
  have hx := B.exec
  have hb := B.bytes
  have hr := B.returns
  have hts := atoms_spec (ws := w_V_tighten) B.pre
  have hG : ∀ w ∈ gG, w.before _ s = true := fun w h => hts w (List.mem_cons_of_mem _ h)
  have hown : s.vm.findClass R_V = some m.cls := findClass_of_methodNamed B.named
  have hlocks := B.notSynchronized
  subst hsz
  have hD := hD0.self (sz := s.heap.size)
  generalize hAe : va_A [(h0, vE z0)] s.heap.size = A at hD ⊢
  have hA : ∀ q : Nat, s.heap.size ≤ q → A q := fun q h => by rw [← hAe]; exact Or.inr h
  have hS : va_S A s.heap s.heap [] := va_S.rf
  have hP : va_P (dC, dI) classes [(h0, .inr (0, [.long (z0.1), .long (z0.2.1), .long (z0.2.2.1), .long (z0.2.2.2.1), .long (z0.2.2.2.2.1), .long (z0.2.2.2.2.2.1), .int (bI z0.2.2.2.2.2.2)]))] s.heap := hP
  have hD : va_D A [(h0, .inr (0, [.long (z0.1), .long (z0.2.1), .long (z0.2.2.1), .long (z0.2.2.2.1), .long (z0.2.2.2.2.1), .long (z0.2.2.2.2.2.1), .int (bI z0.2.2.2.2.2.2)]))] := hD
  have hl := lv_entry ([.ref h0]) (n := 13) (Nat.le_of_ble_eq_true rfl)
  rw [lg_entry_eq]
  generalize (lg_sl ([.ref h0]) ++ List.replicate (13 - (lg_sl ([.ref h0])).length) Slot.unset).toArray = ls at hl ⊢
  have hl : lv_has ls 13 [(0, .ref h0)] := hl
  have K133g : ∀ (g133 : VV) (hj : f_V_tighten z0 = f_V_tighten_133g z0 g133) (H : Heap) (locs : List Loc) (hP : va_P (dC, dI) classes [(h0, .inr (0, [.long (g133.1), .long (g133.2.1), .long (g133.2.2.1), .long (g133.2.2.2.1), .long (g133.2.2.2.2.1), .long (g133.2.2.2.2.2.1), .int (bI g133.2.2.2.2.2.2)]))] H) (hD : va_D A [(h0, .inr (0, [.long (g133.1), .long (g133.2.1), .long (g133.2.2.1), .long (g133.2.2.2.1), .long (g133.2.2.2.2.1), .long (g133.2.2.2.2.2.1), .int (bI g133.2.2.2.2.2.2)]))]) (hS : va_S A s.heap H locs) (ls : Array Slot) (hl : lv_has ls 13 []), W p l e (headSpec w_V_tighten ({ frames := 3, cells := 0, slots := 0, locals := 86 } : Room)).room s m ([.ref h0] : List Value).toArray below meth c H locs 0 0 (MQ below (va_Qv (fun _ : Unit => True) (mB (dC, dI) A [(h0, vE (f_V_tighten z0))]) A) ([.ref h0] : List Value).toArray s 0 0 A) (F0 m 136 ls []) := by
    intro g133 hj H locs hP hD hS ls hl
    refine lv_goto (tgt := 144) hx hb d_V_tighten_136 (by decide) ?_
    have fe : f_V_tighten z0 = g133 := hj.trans rfl
    exact W.vret hx hb hr (fun t ht hW => ⟨⟨(), rfl, trivial, by rw [ht, fe]; (try simp only [vE_mk]); exact hP, by rw [fe]; (try simp only [vE_mk]); exact hD⟩, hS.F ht⟩) hS.2.2 d_V_tighten_144
  have K117g : ∀ (g117 : VV) (hj : f_V_tighten z0 = f_V_tighten_117g z0 g117) (H : Heap) (locs : List Loc) (hP : va_P (dC, dI) classes [(h0, .inr (0, [.long (g117.1), .long (g117.2.1), .long (g117.2.2.1), .long (g117.2.2.2.1), .long (g117.2.2.2.2.1), .long (g117.2.2.2.2.2.1), .int (bI g117.2.2.2.2.2.2)]))] H) (hD : va_D A [(h0, .inr (0, [.long (g117.1), .long (g117.2.1), .long (g117.2.2.1), .long (g117.2.2.2.1), .long (g117.2.2.2.2.1), .long (g117.2.2.2.2.2.1), .int (bI g117.2.2.2.2.2.2)]))]) (hS : va_S A s.heap H locs) (ls : Array Slot) (hl : lv_has ls 13 []), W p l e (headSpec w_V_tighten ({ frames := 3, cells := 0, slots := 0, locals := 86 } : Room)).room s m ([.ref h0] : List Value).toArray below meth c H locs 0 0 (MQ below (va_Qv (fun _ : Unit => True) (mB (dC, dI) A [(h0, vE (f_V_tighten z0))]) A) ([.ref h0] : List Value).toArray s 0 0 A) (F0 m 120 ls []) := by
    intro g117 hj H locs hP hD hS ls hl
    refine lv_goto (tgt := 144) hx hb d_V_tighten_120 (by decide) ?_
    have fe : f_V_tighten z0 = g117 := hj.trans rfl
    exact W.vret hx hb hr (fun t ht hW => ⟨⟨(), rfl, trivial, by rw [ht, fe]; (try simp only [vE_mk]); exact hP, by rw [fe]; (try simp only [vE_mk]); exact hD⟩, hS.F ht⟩) hS.2.2 d_V_tighten_144
  have K109 : ∀ (v51 : Int32) (v43 : Int32) (v36 : Int64) (v27 : Int64) (v19 : Int64) (v13 : Int64) (hj : f_V_tighten z0 = f_V_tighten_109 z0 v51 v43 v36 v27 v19 v13) (H : Heap) (locs : List Loc) (hP : va_P (dC, dI) classes [(h0, .inr (0, [.long (z0.1), .long (z0.2.1), .long (z0.2.2.1), .long (z0.2.2.2.1), .long (z0.2.2.2.2.1), .long (z0.2.2.2.2.2.1), .int (bI z0.2.2.2.2.2.2)]))] H) (hD : va_D A [(h0, .inr (0, [.long (z0.1), .long (z0.2.1), .long (z0.2.2.1), .long (z0.2.2.2.1), .long (z0.2.2.2.2.1), .long (z0.2.2.2.2.2.1), .int (bI z0.2.2.2.2.2.2)]))]) (hS : va_S A s.heap H locs) (ls : Array Slot) (hl : lv_has ls 13 [(10, .int (v51)), (9, .int (v43)), (7, .long (v36)), (5, .long (v27)), (3, .long (v19)), (1, .long (v13)), (0, .ref h0)]), W p l e (headSpec w_V_tighten ({ frames := 3, cells := 0, slots := 0, locals := 86 } : Room)).room s m ([.ref h0] : List Value).toArray below meth c H locs 0 0 (MQ below (va_Qv (fun _ : Unit => True) (mB (dC, dI) A [(h0, vE (f_V_tighten z0))]) A) ([.ref h0] : List Value).toArray s 0 0 A) (F0 m 109 ls []) := by
    intro v51 v43 v36 v27 v19 v13 hj H locs hP hD hS ls hl
    refine lv_iload hx hb d_V_tighten_109 (lv_at hl 1 rfl) ?_
    refine lv_if_eq (tgt := 123) hx hb d_V_tighten_111 (by decide) (fun e1_123 => ?_) (fun e1_123 => ?_)
    · refine lv_iload hx hb d_V_tighten_123 (lv_at hl 0 rfl) ?_
      refine lv_if_eq (tgt := 139) hx hb d_V_tighten_125 (by decide) (fun e2_139 => ?_) (fun e2_139 => ?_)
      · refine lv_aload_n hx hb d_V_tighten_139 rfl (lv_at hl 6 rfl) ?_
        refine lv_iconst (v := 1) hx hb d_V_tighten_140 (by decide) ?_
        refine va_put (D := (dC, dI)) (ci := 0) (v := .int (bI true)) (ty := .boolean) (C := R_V) (T := F_V) (N := 7) hx hb hts (fun w h => List.mem_cons_of_mem _ (uw_V w h)) t_V t_V_ok n_V hown hK hP hD hS 0 rfl rfl 6 (by decide) (hG (.fieldLink R_V 28 "ValueSieve$Value" "nothing" "Z") gw41) (fun _ h9 => h9) rfl (by decide +kernel) (bI_n true) (bI_f true) (Nat.le_of_ble_eq_true rfl) d_V_tighten_141 (fun H locs hP hD hS => ?_)
        have hP : va_P (dC, dI) classes [(h0, .inr (0, [.long (z0.1), .long (z0.2.1), .long (z0.2.2.1), .long (z0.2.2.2.1), .long (z0.2.2.2.2.1), .long (z0.2.2.2.2.2.1), .int (bI true)]))] H := hP
        have hD : va_D A [(h0, .inr (0, [.long (z0.1), .long (z0.2.1), .long (z0.2.2.1), .long (z0.2.2.2.1), .long (z0.2.2.2.2.1), .long (z0.2.2.2.2.2.1), .int (bI true)]))] := hD
        have fe : f_V_tighten z0 = ((z0.1, z0.2.1, z0.2.2.1, z0.2.2.2.1, z0.2.2.2.2.1, z0.2.2.2.2.2.1, true)) := hj.trans (by unfold f_V_tighten_109; first | with_reducible exact (if_pos e1_123).trans (if_pos e2_139) | exact (if_pos e1_123).trans (if_pos e2_139))
        exact W.vret hx hb hr (fun t ht hW => ⟨⟨(), rfl, trivial, by rw [ht, fe]; (try simp only [vE_mk]); exact hP, by rw [fe]; (try simp only [vE_mk]); exact hD⟩, hS.F ht⟩) hS.2.2 d_V_tighten_144
      · refine lv_aload_n hx hb d_V_tighten_128 rfl (lv_at hl 6 rfl) ?_
        refine lv_lload hx hb d_V_tighten_129 (lv_at hl 3 rfl) ?_
        refine lv_lload hx hb d_V_tighten_131 (lv_at hl 2 rfl) ?_
        refine mg_v (F := f_V_sayStretch z0 v27 v36) (wc := [(h0, vE z0)]) (w1 := fun g133 => [(h0, vE g133)]) (wr := []) (ws' := fun g133 => [(h0, .inr (0, [.long (g133.1), .long (g133.2.1), .long (g133.2.2.1), .long (g133.2.2.2.1), .long (g133.2.2.2.2.1), .long (g133.2.2.2.2.2.1), .int (bI g133.2.2.2.2.2.2)]))]) (va_runV (As := [.long (v27), .long (v36)]) (rest := []) ⟨hx, hb, hml, hown, hts⟩ (c_V_sayStretch l dC dI h0 H.size z0 v27 v36) (cwV 2 hts (gV gw147 gw148 gw378 gw1 gw149) rfl rfl rfl (by decide +kernel) ⟨(Nat.le_of_ble_eq_true rfl), (Nat.le_of_ble_eq_true rfl)⟩) ⟨blm, va_recv hK hP (ci := 0) (q0 := 0) rfl rfl, fun U hU hW => ⟨rfl, by rw [hU], by rw [hU]; exact hP.sub [0] rfl, va_K.moved hW.alike hK, (hD.sub [0] (by decide) rfl).weaken (fun _ _ _ _ => trivial)⟩⟩ rfl rfl hl.1 rfl (lv_room (Nat.le_of_ble_eq_true rfl)) d_V_tighten_133 ⟨Nat.zero_le _, Nat.zero_le _⟩) hP hD hS hA [0] [] [0] rfl rfl (by decide) (by decide) (fun _ => rfl) (by decide) (fun g133 eg133 H locs hP hD hS => ?_)
        refine K133g g133 (Eq.trans (hj.trans (by unfold f_V_tighten_109; first | with_reducible exact (if_pos e1_123).trans (if_neg e2_139) | exact (if_pos e1_123).trans (if_neg e2_139))) (congrArg (fun g133 => f_V_tighten_133g z0 g133) eg133)) H locs ?_ ?_ hS ls (lv_sub hl [] rfl)
        · with_reducible exact hP
        · with_reducible exact hD
    · refine lv_aload_n hx hb d_V_tighten_114 rfl (lv_at hl 6 rfl) ?_
      refine lv_lload_n hx hb d_V_tighten_115 rfl (lv_at hl 5 rfl) ?_
      refine lv_lload_n hx hb d_V_tighten_116 rfl (lv_at hl 4 rfl) ?_
      refine mg_v (F := f_V_sayStretch z0 v13 v19) (wc := [(h0, vE z0)]) (w1 := fun g117 => [(h0, vE g117)]) (wr := []) (ws' := fun g117 => [(h0, .inr (0, [.long (g117.1), .long (g117.2.1), .long (g117.2.2.1), .long (g117.2.2.2.1), .long (g117.2.2.2.2.1), .long (g117.2.2.2.2.2.1), .int (bI g117.2.2.2.2.2.2)]))]) (va_runV (As := [.long (v13), .long (v19)]) (rest := []) ⟨hx, hb, hml, hown, hts⟩ (c_V_sayStretch l dC dI h0 H.size z0 v13 v19) (cwV 2 hts (gV gw147 gw148 gw378 gw1 gw149) rfl rfl rfl (by decide +kernel) ⟨(Nat.le_of_ble_eq_true rfl), (Nat.le_of_ble_eq_true rfl)⟩) ⟨blm, va_recv hK hP (ci := 0) (q0 := 0) rfl rfl, fun U hU hW => ⟨rfl, by rw [hU], by rw [hU]; exact hP.sub [0] rfl, va_K.moved hW.alike hK, (hD.sub [0] (by decide) rfl).weaken (fun _ _ _ _ => trivial)⟩⟩ rfl rfl hl.1 rfl (lv_room (Nat.le_of_ble_eq_true rfl)) d_V_tighten_117 ⟨Nat.zero_le _, Nat.zero_le _⟩) hP hD hS hA [0] [] [0] rfl rfl (by decide) (by decide) (fun _ => rfl) (by decide) (fun g117 eg117 H locs hP hD hS => ?_)
      refine K117g g117 (Eq.trans (hj.trans (by unfold f_V_tighten_109; first | with_reducible exact if_neg e1_123 | exact if_neg e1_123)) (congrArg (fun g117 => f_V_tighten_117g z0 g117) eg117)) H locs ?_ ?_ hS ls (lv_sub hl [] rfl)
      · with_reducible exact hP
      · with_reducible exact hD
  have K103g : ∀ (g103 : VV) (hj : f_V_tighten z0 = f_V_tighten_103g z0 g103) (H : Heap) (locs : List Loc) (hP : va_P (dC, dI) classes [(h0, .inr (0, [.long (g103.1), .long (g103.2.1), .long (g103.2.2.1), .long (g103.2.2.2.1), .long (g103.2.2.2.2.1), .long (g103.2.2.2.2.2.1), .int (bI g103.2.2.2.2.2.2)]))] H) (hD : va_D A [(h0, .inr (0, [.long (g103.1), .long (g103.2.1), .long (g103.2.2.1), .long (g103.2.2.2.1), .long (g103.2.2.2.2.1), .long (g103.2.2.2.2.2.1), .int (bI g103.2.2.2.2.2.2)]))]) (hS : va_S A s.heap H locs) (ls : Array Slot) (hl : lv_has ls 13 []), W p l e (headSpec w_V_tighten ({ frames := 3, cells := 0, slots := 0, locals := 86 } : Room)).room s m ([.ref h0] : List Value).toArray below meth c H locs 0 0 (MQ below (va_Qv (fun _ : Unit => True) (mB (dC, dI) A [(h0, vE (f_V_tighten z0))]) A) ([.ref h0] : List Value).toArray s 0 0 A) (F0 m 106 ls []) := by
    intro g103 hj H locs hP hD hS ls hl
    refine lv_goto (tgt := 144) hx hb d_V_tighten_106 (by decide) ?_
    have fe : f_V_tighten z0 = g103 := hj.trans rfl
    exact W.vret hx hb hr (fun t ht hW => ⟨⟨(), rfl, trivial, by rw [ht, fe]; (try simp only [vE_mk]); exact hP, by rw [fe]; (try simp only [vE_mk]); exact hD⟩, hS.F ht⟩) hS.2.2 d_V_tighten_144
  have K91g : ∀ (v78 : Int64) (v27 : Int64) (v13 : Int64) (g91 : VV) (hj : f_V_tighten z0 = f_V_tighten_91g z0 v78 v27 v13 g91) (H : Heap) (locs : List Loc) (hP : va_P (dC, dI) classes [(h0, .inr (0, [.long (g91.1), .long (g91.2.1), .long (g91.2.2.1), .long (g91.2.2.2.1), .long (g91.2.2.2.2.1), .long (g91.2.2.2.2.2.1), .int (bI g91.2.2.2.2.2.2)]))] H) (hD : va_D A [(h0, .inr (0, [.long (g91.1), .long (g91.2.1), .long (g91.2.2.1), .long (g91.2.2.2.1), .long (g91.2.2.2.2.1), .long (g91.2.2.2.2.2.1), .int (bI g91.2.2.2.2.2.2)]))]) (hS : va_S A s.heap H locs) (ls : Array Slot) (hl : lv_has ls 13 [(11, .long (v78)), (5, .long (v27)), (1, .long (v13)), (0, .ref h0)]), W p l e (headSpec w_V_tighten ({ frames := 3, cells := 0, slots := 0, locals := 86 } : Room)).room s m ([.ref h0] : List Value).toArray below meth c H locs 0 0 (MQ below (va_Qv (fun _ : Unit => True) (mB (dC, dI) A [(h0, vE (f_V_tighten z0))]) A) ([.ref h0] : List Value).toArray s 0 0 A) (F0 m 94 ls []) := by
    intro v78 v27 v13 g91 hj H locs hP hD hS ls hl
    refine lv_aload_n hx hb d_V_tighten_94 rfl (lv_at hl 3 rfl) ?_
    refine lv_lload_n hx hb d_V_tighten_95 rfl (lv_at hl 2 rfl) ?_
    refine lv_lload hx hb d_V_tighten_96 (lv_at hl 0 rfl) ?_
    refine lv_lload_n hx hb d_V_tighten_98 rfl (lv_at hl 2 rfl) ?_
    refine lv_lload hx hb d_V_tighten_99 (lv_at hl 1 rfl) ?_
    refine lv_lxor hx hb d_V_tighten_101 ?_
    refine lv_lor hx hb d_V_tighten_102 ?_
    refine mg_v (F := f_V_sayBits g91 v13 (v78 ||| (v13 ^^^ v27))) (wc := [(h0, vE g91)]) (w1 := fun g103 => [(h0, vE g103)]) (wr := []) (ws' := fun g103 => [(h0, .inr (0, [.long (g103.1), .long (g103.2.1), .long (g103.2.2.1), .long (g103.2.2.2.1), .long (g103.2.2.2.2.1), .long (g103.2.2.2.2.2.1), .int (bI g103.2.2.2.2.2.2)]))]) (va_runV (As := [.long (v13), .long (v78 ||| (v13 ^^^ v27))]) (rest := []) ⟨hx, hb, hml, hown, hts⟩ (c_V_sayBits l dC dI h0 H.size g91 v13 (v78 ||| (v13 ^^^ v27))) (cwV 2 hts (gV gw79 gw80 gw81 gw1 gw82) rfl rfl rfl (by decide +kernel) ⟨(Nat.le_of_ble_eq_true rfl), (Nat.le_of_ble_eq_true rfl)⟩) ⟨blm, va_recv hK hP (ci := 0) (q0 := 0) rfl rfl, fun U hU hW => ⟨rfl, by rw [hU], by rw [hU]; exact hP.sub [0] rfl, va_K.moved hW.alike hK, (hD.sub [0] (by decide) rfl).weaken (fun _ _ _ _ => trivial)⟩⟩ rfl rfl hl.1 rfl (lv_room (Nat.le_of_ble_eq_true rfl)) d_V_tighten_103 ⟨Nat.zero_le _, Nat.zero_le _⟩) hP hD hS hA [0] [] [0] rfl rfl (by decide) (by decide) (fun _ => rfl) (by decide) (fun g103 eg103 H locs hP hD hS => ?_)
    refine K103g g103 (Eq.trans (hj.trans rfl) (congrArg (fun g103 => f_V_tighten_103g z0 g103) eg103)) H locs ?_ ?_ hS ls (lv_sub hl [] rfl)
    · with_reducible exact hP
    · with_reducible exact hD
  have K84g : ∀ (v78 : Int64) (v27 : Int64) (v19 : Int64) (v13 : Int64) (g84 : VV) (hj : f_V_tighten z0 = f_V_tighten_84g z0 v78 v27 v19 v13 g84) (H : Heap) (locs : List Loc) (hP : va_P (dC, dI) classes [(h0, .inr (0, [.long (g84.1), .long (g84.2.1), .long (g84.2.2.1), .long (g84.2.2.2.1), .long (g84.2.2.2.2.1), .long (g84.2.2.2.2.2.1), .int (bI g84.2.2.2.2.2.2)]))] H) (hD : va_D A [(h0, .inr (0, [.long (g84.1), .long (g84.2.1), .long (g84.2.2.1), .long (g84.2.2.2.1), .long (g84.2.2.2.2.1), .long (g84.2.2.2.2.2.1), .int (bI g84.2.2.2.2.2.2)]))]) (hS : va_S A s.heap H locs) (ls : Array Slot) (hl : lv_has ls 13 [(11, .long (v78)), (5, .long (v27)), (3, .long (v19)), (1, .long (v13)), (0, .ref h0)]), W p l e (headSpec w_V_tighten ({ frames := 3, cells := 0, slots := 0, locals := 86 } : Room)).room s m ([.ref h0] : List Value).toArray below meth c H locs 0 0 (MQ below (va_Qv (fun _ : Unit => True) (mB (dC, dI) A [(h0, vE (f_V_tighten z0))]) A) ([.ref h0] : List Value).toArray s 0 0 A) (F0 m 87 ls []) := by
    intro v78 v27 v19 v13 g84 hj H locs hP hD hS ls hl
    refine lv_aload_n hx hb d_V_tighten_87 rfl (lv_at hl 4 rfl) ?_
    refine lv_lload hx hb d_V_tighten_88 (lv_at hl 1 rfl) ?_
    refine lv_lload_n hx hb d_V_tighten_90 rfl (lv_at hl 2 rfl) ?_
    refine mg_v (F := f_V_saySigned g84 v27 v19) (wc := [(h0, vE g84)]) (w1 := fun g91 => [(h0, vE g91)]) (wr := []) (ws' := fun g91 => [(h0, .inr (0, [.long (g91.1), .long (g91.2.1), .long (g91.2.2.1), .long (g91.2.2.2.1), .long (g91.2.2.2.2.1), .long (g91.2.2.2.2.2.1), .int (bI g91.2.2.2.2.2.2)]))]) (va_runV (As := [.long (v27), .long (v19)]) (rest := []) ⟨hx, hb, hml, hown, hts⟩ (c_V_saySigned l dC dI h0 H.size g84 v27 v19) (cwV 2 hts (gV gw89 gw90 gw91 gw1 gw92) rfl rfl rfl (by decide +kernel) ⟨(Nat.le_of_ble_eq_true rfl), (Nat.le_of_ble_eq_true rfl)⟩) ⟨blm, va_recv hK hP (ci := 0) (q0 := 0) rfl rfl, fun U hU hW => ⟨rfl, by rw [hU], by rw [hU]; exact hP.sub [0] rfl, va_K.moved hW.alike hK, (hD.sub [0] (by decide) rfl).weaken (fun _ _ _ _ => trivial)⟩⟩ rfl rfl hl.1 rfl (lv_room (Nat.le_of_ble_eq_true rfl)) d_V_tighten_91 ⟨Nat.zero_le _, Nat.zero_le _⟩) hP hD hS hA [0] [] [0] rfl rfl (by decide) (by decide) (fun _ => rfl) (by decide) (fun g91 eg91 H locs hP hD hS => ?_)
    refine K91g v78 v27 v13 g91 (Eq.trans (hj.trans rfl) (congrArg (fun g91 => f_V_tighten_91g z0 v78 v27 v13 g91) eg91)) H locs ?_ ?_ hS ls (lv_sub hl [0, 1, 3, 4] rfl)
    · with_reducible exact hP
    · with_reducible exact hD
  have K78v : ∀ (v78 : Int64) (v36 : Int64) (v27 : Int64) (v19 : Int64) (v13 : Int64) (hj : f_V_tighten z0 = f_V_tighten_78v z0 v78 v36 v27 v19 v13) (H : Heap) (locs : List Loc) (hP : va_P (dC, dI) classes [(h0, .inr (0, [.long (z0.1), .long (z0.2.1), .long (z0.2.2.1), .long (z0.2.2.2.1), .long (z0.2.2.2.2.1), .long (z0.2.2.2.2.2.1), .int (bI z0.2.2.2.2.2.2)]))] H) (hD : va_D A [(h0, .inr (0, [.long (z0.1), .long (z0.2.1), .long (z0.2.2.1), .long (z0.2.2.2.1), .long (z0.2.2.2.2.1), .long (z0.2.2.2.2.2.1), .int (bI z0.2.2.2.2.2.2)]))]) (hS : va_S A s.heap H locs) (ls : Array Slot) (hl : lv_has ls 13 [(11, .long (v78)), (7, .long (v36)), (5, .long (v27)), (3, .long (v19)), (1, .long (v13)), (0, .ref h0)]), W p l e (headSpec w_V_tighten ({ frames := 3, cells := 0, slots := 0, locals := 86 } : Room)).room s m ([.ref h0] : List Value).toArray below meth c H locs 0 0 (MQ below (va_Qv (fun _ : Unit => True) (mB (dC, dI) A [(h0, vE (f_V_tighten z0))]) A) ([.ref h0] : List Value).toArray s 0 0 A) (F0 m 80 ls []) := by
    intro v78 v36 v27 v19 v13 hj H locs hP hD hS ls hl
    refine lv_aload_n hx hb d_V_tighten_80 rfl (lv_at hl 5 rfl) ?_
    refine lv_lload_n hx hb d_V_tighten_81 rfl (lv_at hl 4 rfl) ?_
    refine lv_lload hx hb d_V_tighten_82 (lv_at hl 1 rfl) ?_
    refine mg_v (F := f_V_sayUnsigned z0 v13 v36) (wc := [(h0, vE z0)]) (w1 := fun g84 => [(h0, vE g84)]) (wr := []) (ws' := fun g84 => [(h0, .inr (0, [.long (g84.1), .long (g84.2.1), .long (g84.2.2.1), .long (g84.2.2.2.1), .long (g84.2.2.2.2.1), .long (g84.2.2.2.2.2.1), .int (bI g84.2.2.2.2.2.2)]))]) (va_runV (As := [.long (v13), .long (v36)]) (rest := []) ⟨hx, hb, hml, hown, hts⟩ (c_V_sayUnsigned l dC dI h0 H.size z0 v13 v36) (cwV 2 hts (gV gw83 gw84 gw85 gw1 gw86) rfl rfl rfl (by decide +kernel) ⟨(Nat.le_of_ble_eq_true rfl), (Nat.le_of_ble_eq_true rfl)⟩) ⟨blm, va_recv hK hP (ci := 0) (q0 := 0) rfl rfl, fun U hU hW => ⟨rfl, by rw [hU], by rw [hU]; exact hP.sub [0] rfl, va_K.moved hW.alike hK, (hD.sub [0] (by decide) rfl).weaken (fun _ _ _ _ => trivial)⟩⟩ rfl rfl hl.1 rfl (lv_room (Nat.le_of_ble_eq_true rfl)) d_V_tighten_84 ⟨Nat.zero_le _, Nat.zero_le _⟩) hP hD hS hA [0] [] [0] rfl rfl (by decide) (by decide) (fun _ => rfl) (by decide) (fun g84 eg84 H locs hP hD hS => ?_)
    refine K84g v78 v27 v19 v13 g84 (Eq.trans (hj.trans rfl) (congrArg (fun g84 => f_V_tighten_84g z0 v78 v27 v19 v13 g84) eg84)) H locs ?_ ?_ hS ls (lv_sub hl [0, 2, 3, 4, 5] rfl)
    · with_reducible exact hP
    · with_reducible exact hD
  have K51v : ∀ (v51 : Int32) (v43 : Int32) (v36 : Int64) (v27 : Int64) (v19 : Int64) (v13 : Int64) (hj : f_V_tighten z0 = f_V_tighten_51v z0 v51 v43 v36 v27 v19 v13) (H : Heap) (locs : List Loc) (hP : va_P (dC, dI) classes [(h0, .inr (0, [.long (z0.1), .long (z0.2.1), .long (z0.2.2.1), .long (z0.2.2.2.1), .long (z0.2.2.2.2.1), .long (z0.2.2.2.2.2.1), .int (bI z0.2.2.2.2.2.2)]))] H) (hD : va_D A [(h0, .inr (0, [.long (z0.1), .long (z0.2.1), .long (z0.2.2.1), .long (z0.2.2.2.1), .long (z0.2.2.2.2.1), .long (z0.2.2.2.2.2.1), .int (bI z0.2.2.2.2.2.2)]))]) (hS : va_S A s.heap H locs) (ls : Array Slot) (hl : lv_has ls 13 [(10, .int (v51)), (9, .int (v43)), (7, .long (v36)), (5, .long (v27)), (3, .long (v19)), (1, .long (v13)), (0, .ref h0)]), W p l e (headSpec w_V_tighten ({ frames := 3, cells := 0, slots := 0, locals := 86 } : Room)).room s m ([.ref h0] : List Value).toArray below meth c H locs 0 0 (MQ below (va_Qv (fun _ : Unit => True) (mB (dC, dI) A [(h0, vE (f_V_tighten z0))]) A) ([.ref h0] : List Value).toArray s 0 0 A) (F0 m 53 ls []) := by
    intro v51 v43 v36 v27 v19 v13 hj H locs hP hD hS ls hl
    refine lv_iload hx hb d_V_tighten_53 (lv_at hl 1 rfl) ?_
    refine lv_if_eq (tgt := 109) hx hb d_V_tighten_55 (by decide) (fun e1_109 => ?_) (fun e1_109 => ?_)
    · refine K109 v51 v43 v36 v27 v19 v13 (hj.trans (by unfold f_V_tighten_51v; first | with_reducible exact if_pos e1_109 | exact if_pos e1_109)) H locs ?_ ?_ hS ls (lv_sub hl [0, 1, 2, 3, 4, 5, 6] rfl)
      · with_reducible exact hP
      · with_reducible exact hD
    · refine lv_iload hx hb d_V_tighten_58 (lv_at hl 0 rfl) ?_
      refine lv_if_eq (tgt := 109) hx hb d_V_tighten_60 (by decide) (fun e2_109 => ?_) (fun e2_109 => ?_)
      · refine K109 v51 v43 v36 v27 v19 v13 (hj.trans (by unfold f_V_tighten_51v; first | with_reducible exact (if_neg e1_109).trans (if_pos e2_109) | exact (if_neg e1_109).trans (if_pos e2_109))) H locs ?_ ?_ hS ls (lv_sub hl [0, 1, 2, 3, 4, 5, 6] rfl)
        · with_reducible exact hP
        · with_reducible exact hD
      · refine lv_aload_n hx hb d_V_tighten_63 rfl (lv_at hl 6 rfl) ?_
        refine lv_lload_n hx hb d_V_tighten_64 rfl (lv_at hl 5 rfl) ?_
        refine lv_lload_n hx hb d_V_tighten_65 rfl (lv_at hl 4 rfl) ?_
        refine rc_l (W.runV (As := [.long (v13), .long (v19)]) (rest := []) ⟨hx, hb, hml, hown, hts⟩ (c_V_openBetween l dC dI h0 z0 v13 v19) (cwV 2 hts (gV gw143 gw144 gw379 gw1 gw145) rfl rfl rfl (by decide +kernel) ⟨(Nat.le_of_ble_eq_true rfl), (Nat.le_of_ble_eq_true rfl)⟩) ⟨blr, va_recv hK hP (ci := 0) (q0 := 0) rfl rfl, fun U hU hW => ⟨rfl, by rw [hU]; exact hP.sub [0] rfl, va_K.moved hW.alike hK⟩⟩ rfl rfl hl.1 rfl (lv_room (Nat.le_of_ble_eq_true rfl)) d_V_tighten_66 ⟨Nat.zero_le _, Nat.zero_le _⟩) ?_
        refine lv_aload_n hx hb d_V_tighten_69 rfl (lv_at hl 6 rfl) ?_
        refine lv_lload hx hb d_V_tighten_70 (lv_at hl 3 rfl) ?_
        refine lv_lload hx hb d_V_tighten_72 (lv_at hl 2 rfl) ?_
        refine rc_l (W.runV (As := [.long (v27), .long (v36)]) (rest := [.long (f_V_openBetween z0 v13 v19)]) ⟨hx, hb, hml, hown, hts⟩ (c_V_openBetween l dC dI h0 z0 v27 v36) (cwV 2 hts (gV gw143 gw144 gw379 gw1 gw145) rfl rfl rfl (by decide +kernel) ⟨(Nat.le_of_ble_eq_true rfl), (Nat.le_of_ble_eq_true rfl)⟩) ⟨blr, va_recv hK hP (ci := 0) (q0 := 0) rfl rfl, fun U hU hW => ⟨rfl, by rw [hU]; exact hP.sub [0] rfl, va_K.moved hW.alike hK⟩⟩ rfl rfl hl.1 rfl (lv_room (Nat.le_of_ble_eq_true rfl)) d_V_tighten_74 ⟨Nat.zero_le _, Nat.zero_le _⟩) ?_
        refine lv_lor hx hb d_V_tighten_77 ?_
        refine lv_topl (fun v78 ev78 => ?_)
        refine lv_lstore (lv' := [(11, .long (v78)), (10, .int (v51)), (9, .int (v43)), (7, .long (v36)), (5, .long (v27)), (3, .long (v19)), (1, .long (v13)), (0, .ref h0)]) hx hb d_V_tighten_78 hl (by decide) rfl (fun ls hl => ?_)
        refine K78v v78 v36 v27 v19 v13 (Eq.trans (hj.trans (by unfold f_V_tighten_51v; first | with_reducible exact (if_neg e1_109).trans (if_neg e2_109) | exact (if_neg e1_109).trans (if_neg e2_109))) (congrArg (fun v78 => f_V_tighten_78v z0 v78 v36 v27 v19 v13) ev78.symm)) H locs ?_ ?_ hS ls (lv_sub hl [0, 3, 4, 5, 6, 7] rfl)
        · with_reducible exact hP
        · with_reducible exact hD
  have K43v : ∀ (v43 : Int32) (v36 : Int64) (v27 : Int64) (v19 : Int64) (v13 : Int64) (hj : f_V_tighten z0 = f_V_tighten_43v z0 v43 v36 v27 v19 v13) (H : Heap) (locs : List Loc) (hP : va_P (dC, dI) classes [(h0, .inr (0, [.long (z0.1), .long (z0.2.1), .long (z0.2.2.1), .long (z0.2.2.2.1), .long (z0.2.2.2.2.1), .long (z0.2.2.2.2.2.1), .int (bI z0.2.2.2.2.2.2)]))] H) (hD : va_D A [(h0, .inr (0, [.long (z0.1), .long (z0.2.1), .long (z0.2.2.1), .long (z0.2.2.2.1), .long (z0.2.2.2.2.1), .long (z0.2.2.2.2.2.1), .int (bI z0.2.2.2.2.2.2)]))]) (hS : va_S A s.heap H locs) (ls : Array Slot) (hl : lv_has ls 13 [(9, .int (v43)), (7, .long (v36)), (5, .long (v27)), (3, .long (v19)), (1, .long (v13)), (0, .ref h0)]), W p l e (headSpec w_V_tighten ({ frames := 3, cells := 0, slots := 0, locals := 86 } : Room)).room s m ([.ref h0] : List Value).toArray below meth c H locs 0 0 (MQ below (va_Qv (fun _ : Unit => True) (mB (dC, dI) A [(h0, vE (f_V_tighten z0))]) A) ([.ref h0] : List Value).toArray s 0 0 A) (F0 m 45 ls []) := by
    intro v43 v36 v27 v19 v13 hj H locs hP hD hS ls hl
    refine lv_aload_n hx hb d_V_tighten_45 rfl (lv_at hl 5 rfl) ?_
    refine lv_lload hx hb d_V_tighten_46 (lv_at hl 2 rfl) ?_
    refine rc_i (W.runV (As := [.long (v27)]) (rest := []) ⟨hx, hb, hml, hown, hts⟩ (c_V_holds l dC dI h0 z0 v27) (cwV 1 hts (gV gw142 gw101 gw102 gw1 gw103) rfl rfl rfl (by decide +kernel) ⟨(Nat.le_of_ble_eq_true rfl), (Nat.le_of_ble_eq_true rfl)⟩) ⟨blr, va_recv hK hP (ci := 0) (q0 := 0) rfl rfl, fun U hU hW => ⟨rfl, by rw [hU]; exact hP.sub [0] rfl, va_K.moved hW.alike hK⟩⟩ rfl rfl hl.1 rfl (lv_room (Nat.le_of_ble_eq_true rfl)) d_V_tighten_48 ⟨Nat.zero_le _, Nat.zero_le _⟩) ?_
    refine lv_topi (fun v51 ev51 => ?_)
    refine lv_istore (lv' := [(10, .int (v51)), (9, .int (v43)), (7, .long (v36)), (5, .long (v27)), (3, .long (v19)), (1, .long (v13)), (0, .ref h0)]) hx hb d_V_tighten_51 hl (by decide) rfl (fun ls hl => ?_)
    refine K51v v51 v43 v36 v27 v19 v13 (Eq.trans (hj.trans rfl) (congrArg (fun v51 => f_V_tighten_51v z0 v51 v43 v36 v27 v19 v13) ev51.symm)) H locs ?_ ?_ hS ls (lv_sub hl [0, 1, 2, 3, 4, 5, 6] rfl)
    · with_reducible exact hP
    · with_reducible exact hD
  have K36v : ∀ (v36 : Int64) (v27 : Int64) (v19 : Int64) (v13 : Int64) (hj : f_V_tighten z0 = f_V_tighten_36v z0 v36 v27 v19 v13) (H : Heap) (locs : List Loc) (hP : va_P (dC, dI) classes [(h0, .inr (0, [.long (z0.1), .long (z0.2.1), .long (z0.2.2.1), .long (z0.2.2.2.1), .long (z0.2.2.2.2.1), .long (z0.2.2.2.2.2.1), .int (bI z0.2.2.2.2.2.2)]))] H) (hD : va_D A [(h0, .inr (0, [.long (z0.1), .long (z0.2.1), .long (z0.2.2.1), .long (z0.2.2.2.1), .long (z0.2.2.2.2.1), .long (z0.2.2.2.2.2.1), .int (bI z0.2.2.2.2.2.2)]))]) (hS : va_S A s.heap H locs) (ls : Array Slot) (hl : lv_has ls 13 [(7, .long (v36)), (5, .long (v27)), (3, .long (v19)), (1, .long (v13)), (0, .ref h0)]), W p l e (headSpec w_V_tighten ({ frames := 3, cells := 0, slots := 0, locals := 86 } : Room)).room s m ([.ref h0] : List Value).toArray below meth c H locs 0 0 (MQ below (va_Qv (fun _ : Unit => True) (mB (dC, dI) A [(h0, vE (f_V_tighten z0))]) A) ([.ref h0] : List Value).toArray s 0 0 A) (F0 m 38 ls []) := by
    intro v36 v27 v19 v13 hj H locs hP hD hS ls hl
    refine lv_aload_n hx hb d_V_tighten_38 rfl (lv_at hl 4 rfl) ?_
    refine lv_lload_n hx hb d_V_tighten_39 rfl (lv_at hl 3 rfl) ?_
    refine rc_i (W.runV (As := [.long (v13)]) (rest := []) ⟨hx, hb, hml, hown, hts⟩ (c_V_holds l dC dI h0 z0 v13) (cwV 1 hts (gV gw142 gw101 gw102 gw1 gw103) rfl rfl rfl (by decide +kernel) ⟨(Nat.le_of_ble_eq_true rfl), (Nat.le_of_ble_eq_true rfl)⟩) ⟨blr, va_recv hK hP (ci := 0) (q0 := 0) rfl rfl, fun U hU hW => ⟨rfl, by rw [hU]; exact hP.sub [0] rfl, va_K.moved hW.alike hK⟩⟩ rfl rfl hl.1 rfl (lv_room (Nat.le_of_ble_eq_true rfl)) d_V_tighten_40 ⟨Nat.zero_le _, Nat.zero_le _⟩) ?_
    refine lv_topi (fun v43 ev43 => ?_)
    refine lv_istore (lv' := [(9, .int (v43)), (7, .long (v36)), (5, .long (v27)), (3, .long (v19)), (1, .long (v13)), (0, .ref h0)]) hx hb d_V_tighten_43 hl (by decide) rfl (fun ls hl => ?_)
    refine K43v v43 v36 v27 v19 v13 (Eq.trans (hj.trans rfl) (congrArg (fun v43 => f_V_tighten_43v z0 v43 v36 v27 v19 v13) ev43.symm)) H locs ?_ ?_ hS ls (lv_sub hl [0, 1, 2, 3, 4, 5] rfl)
    · with_reducible exact hP
    · with_reducible exact hD
  have K27v : ∀ (v27 : Int64) (v19 : Int64) (v13 : Int64) (hj : f_V_tighten z0 = f_V_tighten_27v z0 v27 v19 v13) (H : Heap) (locs : List Loc) (hP : va_P (dC, dI) classes [(h0, .inr (0, [.long (z0.1), .long (z0.2.1), .long (z0.2.2.1), .long (z0.2.2.2.1), .long (z0.2.2.2.2.1), .long (z0.2.2.2.2.2.1), .int (bI z0.2.2.2.2.2.2)]))] H) (hD : va_D A [(h0, .inr (0, [.long (z0.1), .long (z0.2.1), .long (z0.2.2.1), .long (z0.2.2.2.1), .long (z0.2.2.2.2.1), .long (z0.2.2.2.2.2.1), .int (bI z0.2.2.2.2.2.2)]))]) (hS : va_S A s.heap H locs) (ls : Array Slot) (hl : lv_has ls 13 [(5, .long (v27)), (3, .long (v19)), (1, .long (v13)), (0, .ref h0)]), W p l e (headSpec w_V_tighten ({ frames := 3, cells := 0, slots := 0, locals := 86 } : Room)).room s m ([.ref h0] : List Value).toArray below meth c H locs 0 0 (MQ below (va_Qv (fun _ : Unit => True) (mB (dC, dI) A [(h0, vE (f_V_tighten z0))]) A) ([.ref h0] : List Value).toArray s 0 0 A) (F0 m 29 ls []) := by
    intro v27 v19 v13 hj H locs hP hD hS ls hl
    refine lv_aload_n hx hb d_V_tighten_29 rfl (lv_at hl 3 rfl) ?_
    refine lv_ldc2 (v := -9223372036854775808) hx hb hown (hG (.constantLong R_V 43 (-9223372036854775808)) gw87) d_V_tighten_30 ?_
    refine rc_l (W.runV (As := [.long (-9223372036854775808)]) (rest := []) ⟨hx, hb, hml, hown, hts⟩ (c_V_lastOfHalf l dC dI h0 z0 (-9223372036854775808)) (cwV 1 hts (gV gw133 gw134 gw381 gw1 gw135) rfl rfl rfl (by decide +kernel) ⟨(Nat.le_of_ble_eq_true rfl), (Nat.le_of_ble_eq_true rfl)⟩) ⟨blr, va_recv hK hP (ci := 0) (q0 := 0) rfl rfl, fun U hU hW => ⟨rfl, by rw [hU]; exact hP.sub [0] rfl, va_K.moved hW.alike hK⟩⟩ rfl rfl hl.1 rfl (lv_room (Nat.le_of_ble_eq_true rfl)) d_V_tighten_33 ⟨Nat.zero_le _, Nat.zero_le _⟩) ?_
    refine lv_topl (fun v36 ev36 => ?_)
    refine lv_lstore (lv' := [(7, .long (v36)), (5, .long (v27)), (3, .long (v19)), (1, .long (v13)), (0, .ref h0)]) hx hb d_V_tighten_36 hl (by decide) rfl (fun ls hl => ?_)
    refine K36v v36 v27 v19 v13 (Eq.trans (hj.trans rfl) (congrArg (fun v36 => f_V_tighten_36v z0 v36 v27 v19 v13) ev36.symm)) H locs ?_ ?_ hS ls (lv_sub hl [0, 1, 2, 3, 4] rfl)
    · with_reducible exact hP
    · with_reducible exact hD
  have K19v : ∀ (v19 : Int64) (v13 : Int64) (hj : f_V_tighten z0 = f_V_tighten_19v z0 v19 v13) (H : Heap) (locs : List Loc) (hP : va_P (dC, dI) classes [(h0, .inr (0, [.long (z0.1), .long (z0.2.1), .long (z0.2.2.1), .long (z0.2.2.2.1), .long (z0.2.2.2.2.1), .long (z0.2.2.2.2.2.1), .int (bI z0.2.2.2.2.2.2)]))] H) (hD : va_D A [(h0, .inr (0, [.long (z0.1), .long (z0.2.1), .long (z0.2.2.1), .long (z0.2.2.2.1), .long (z0.2.2.2.2.1), .long (z0.2.2.2.2.2.1), .int (bI z0.2.2.2.2.2.2)]))]) (hS : va_S A s.heap H locs) (ls : Array Slot) (hl : lv_has ls 13 [(3, .long (v19)), (1, .long (v13)), (0, .ref h0)]), W p l e (headSpec w_V_tighten ({ frames := 3, cells := 0, slots := 0, locals := 86 } : Room)).room s m ([.ref h0] : List Value).toArray below meth c H locs 0 0 (MQ below (va_Qv (fun _ : Unit => True) (mB (dC, dI) A [(h0, vE (f_V_tighten z0))]) A) ([.ref h0] : List Value).toArray s 0 0 A) (F0 m 20 ls []) := by
    intro v19 v13 hj H locs hP hD hS ls hl
    refine lv_aload_n hx hb d_V_tighten_20 rfl (lv_at hl 2 rfl) ?_
    refine lv_ldc2 (v := -9223372036854775808) hx hb hown (hG (.constantLong R_V 43 (-9223372036854775808)) gw87) d_V_tighten_21 ?_
    refine rc_l (W.runV (As := [.long (-9223372036854775808)]) (rest := []) ⟨hx, hb, hml, hown, hts⟩ (c_V_firstOfHalf l dC dI h0 z0 (-9223372036854775808)) (cwV 1 hts (gV gw116 gw117 gw380 gw1 gw118) rfl rfl rfl (by decide +kernel) ⟨(Nat.le_of_ble_eq_true rfl), (Nat.le_of_ble_eq_true rfl)⟩) ⟨blr, va_recv hK hP (ci := 0) (q0 := 0) rfl rfl, fun U hU hW => ⟨rfl, by rw [hU]; exact hP.sub [0] rfl, va_K.moved hW.alike hK⟩⟩ rfl rfl hl.1 rfl (lv_room (Nat.le_of_ble_eq_true rfl)) d_V_tighten_24 ⟨Nat.zero_le _, Nat.zero_le _⟩) ?_
    refine lv_topl (fun v27 ev27 => ?_)
    refine lv_lstore (lv' := [(5, .long (v27)), (3, .long (v19)), (1, .long (v13)), (0, .ref h0)]) hx hb d_V_tighten_27 hl (by decide) rfl (fun ls hl => ?_)
    refine K27v v27 v19 v13 (Eq.trans (hj.trans rfl) (congrArg (fun v27 => f_V_tighten_27v z0 v27 v19 v13) ev27.symm)) H locs ?_ ?_ hS ls (lv_sub hl [0, 1, 2, 3] rfl)
    · with_reducible exact hP
    · with_reducible exact hD
  have K13v : ∀ (v13 : Int64) (hj : f_V_tighten z0 = f_V_tighten_13v z0 v13) (H : Heap) (locs : List Loc) (hP : va_P (dC, dI) classes [(h0, .inr (0, [.long (z0.1), .long (z0.2.1), .long (z0.2.2.1), .long (z0.2.2.2.1), .long (z0.2.2.2.2.1), .long (z0.2.2.2.2.2.1), .int (bI z0.2.2.2.2.2.2)]))] H) (hD : va_D A [(h0, .inr (0, [.long (z0.1), .long (z0.2.1), .long (z0.2.2.1), .long (z0.2.2.2.1), .long (z0.2.2.2.2.1), .long (z0.2.2.2.2.2.1), .int (bI z0.2.2.2.2.2.2)]))]) (hS : va_S A s.heap H locs) (ls : Array Slot) (hl : lv_has ls 13 [(1, .long (v13)), (0, .ref h0)]), W p l e (headSpec w_V_tighten ({ frames := 3, cells := 0, slots := 0, locals := 86 } : Room)).room s m ([.ref h0] : List Value).toArray below meth c H locs 0 0 (MQ below (va_Qv (fun _ : Unit => True) (mB (dC, dI) A [(h0, vE (f_V_tighten z0))]) A) ([.ref h0] : List Value).toArray s 0 0 A) (F0 m 14 ls []) := by
    intro v13 hj H locs hP hD hS ls hl
    refine lv_aload_n hx hb d_V_tighten_14 rfl (lv_at hl 1 rfl) ?_
    refine lv_lconst (v := 0) hx hb d_V_tighten_15 (by decide) ?_
    refine rc_l (W.runV (As := [.long (0)]) (rest := []) ⟨hx, hb, hml, hown, hts⟩ (c_V_lastOfHalf l dC dI h0 z0 (0)) (cwV 1 hts (gV gw133 gw134 gw381 gw1 gw135) rfl rfl rfl (by decide +kernel) ⟨(Nat.le_of_ble_eq_true rfl), (Nat.le_of_ble_eq_true rfl)⟩) ⟨blr, va_recv hK hP (ci := 0) (q0 := 0) rfl rfl, fun U hU hW => ⟨rfl, by rw [hU]; exact hP.sub [0] rfl, va_K.moved hW.alike hK⟩⟩ rfl rfl hl.1 rfl (lv_room (Nat.le_of_ble_eq_true rfl)) d_V_tighten_16 ⟨Nat.zero_le _, Nat.zero_le _⟩) ?_
    refine lv_topl (fun v19 ev19 => ?_)
    refine lv_lstore_n (lv' := [(3, .long (v19)), (1, .long (v13)), (0, .ref h0)]) hx hb d_V_tighten_19 rfl hl (by decide) rfl (fun ls hl => ?_)
    refine K19v v19 v13 (Eq.trans (hj.trans rfl) (congrArg (fun v19 => f_V_tighten_19v z0 v19 v13) ev19.symm)) H locs ?_ ?_ hS ls (lv_sub hl [0, 1, 2] rfl)
    · with_reducible exact hP
    · with_reducible exact hD
  refine lv_aload_n hx hb d_V_tighten_0 rfl (lv_at hl 0 rfl) ?_
  refine va_get (D := (dC, dI)) (ci := 0) (v := .int (bI z0.2.2.2.2.2.2)) (C := R_V) (T := F_V) (N := 7) hx hb hts (fun w h => List.mem_cons_of_mem _ (uw_V w h)) hown hK hP 0 rfl rfl 6 (by decide) (hG (.fieldLink R_V 28 "ValueSieve$Value" "nothing" "Z") gw41) (fun _ h9 => h9) rfl d_V_tighten_1 ?_
  refine lv_if_eq (tgt := 8) hx hb d_V_tighten_4 (by decide) (fun e1_8 => ?_) (fun e1_8 => ?_)
  · refine lv_aload_n hx hb d_V_tighten_8 rfl (lv_at hl 0 rfl) ?_
    refine lv_lconst (v := 0) hx hb d_V_tighten_9 (by decide) ?_
    refine rc_l (W.runV (As := [.long (0)]) (rest := []) ⟨hx, hb, hml, hown, hts⟩ (c_V_firstOfHalf l dC dI h0 z0 (0)) (cwV 1 hts (gV gw116 gw117 gw380 gw1 gw118) rfl rfl rfl (by decide +kernel) ⟨(Nat.le_of_ble_eq_true rfl), (Nat.le_of_ble_eq_true rfl)⟩) ⟨blr, va_recv hK hP (ci := 0) (q0 := 0) rfl rfl, fun U hU hW => ⟨rfl, by rw [hU]; exact hP.sub [0] rfl, va_K.moved hW.alike hK⟩⟩ rfl rfl hl.1 rfl (lv_room (Nat.le_of_ble_eq_true rfl)) d_V_tighten_10 ⟨Nat.zero_le _, Nat.zero_le _⟩) ?_
    refine lv_topl (fun v13 ev13 => ?_)
    refine lv_lstore_n (lv' := [(1, .long (v13)), (0, .ref h0)]) hx hb d_V_tighten_13 rfl hl (by decide) rfl (fun ls hl => ?_)
    refine K13v v13 (Eq.trans (by unfold f_V_tighten; first | with_reducible exact if_pos e1_8 | exact if_pos e1_8) (congrArg (fun v13 => f_V_tighten_13v z0 v13) ev13.symm)) s.heap [] ?_ ?_ hS ls (lv_sub hl [0, 1] rfl)
    · with_reducible exact hP
    · with_reducible exact hD
  · have fe : f_V_tighten z0 = z0 := by unfold f_V_tighten; first | with_reducible exact if_neg e1_8 | exact if_neg e1_8
    exact W.vret hx hb hr (fun t ht hW => ⟨⟨(), rfl, trivial, by rw [ht, fe]; (try simp only [vE_mk]); exact hP, by rw [fe]; (try simp only [vE_mk]); exact hD⟩, hS.F ht⟩) hS.2.2 d_V_tighten_7
-- ValueSieve$Value.trim
theorem d_V_trim_0 : decode b_V_trim 0 = .ok (.iload_n 1, 1) := by decide +kernel
theorem d_V_trim_1 : decode b_V_trim 1 = .ok (.bipush 64, 2) := by decide +kernel
theorem d_V_trim_3 : decode b_V_trim 3 = .ok (.if_icmp .lt 4, 3) := by decide +kernel
theorem d_V_trim_6 : decode b_V_trim 6 = .ok (.return_, 1) := by decide +kernel
theorem d_V_trim_7 : decode b_V_trim 7 = .ok (.iload_n 1, 1) := by decide +kernel
theorem d_V_trim_8 : decode b_V_trim 8 = .ok (.invokestatic 95, 3) := by decide +kernel
theorem d_V_trim_11 : decode b_V_trim 11 = .ok (.lstore_n 2, 1) := by decide +kernel
theorem d_V_trim_12 : decode b_V_trim 12 = .ok (.aload_n 0, 1) := by decide +kernel
theorem d_V_trim_13 : decode b_V_trim 13 = .ok (.getfield 16, 3) := by decide +kernel
theorem d_V_trim_16 : decode b_V_trim 16 = .ok (.aload_n 0, 1) := by decide +kernel
theorem d_V_trim_17 : decode b_V_trim 17 = .ok (.getfield 19, 3) := by decide +kernel
theorem d_V_trim_20 : decode b_V_trim 20 = .ok (.lxor, 1) := by decide +kernel
theorem d_V_trim_21 : decode b_V_trim 21 = .ok (.lload_n 2, 1) := by decide +kernel
theorem d_V_trim_22 : decode b_V_trim 22 = .ok (.ldc2_w 32, 3) := by decide +kernel
theorem d_V_trim_25 : decode b_V_trim 25 = .ok (.lxor, 1) := by decide +kernel
theorem d_V_trim_26 : decode b_V_trim 26 = .ok (.land, 1) := by decide +kernel
theorem d_V_trim_27 : decode b_V_trim 27 = .ok (.lconst 0, 1) := by decide +kernel
theorem d_V_trim_28 : decode b_V_trim 28 = .ok (.lcmp, 1) := by decide +kernel
theorem d_V_trim_29 : decode b_V_trim 29 = .ok (.ifCond .ne 7, 3) := by decide +kernel
theorem d_V_trim_32 : decode b_V_trim 32 = .ok (.iconst 1, 1) := by decide +kernel
theorem d_V_trim_33 : decode b_V_trim 33 = .ok (.goto 4, 3) := by decide +kernel
theorem d_V_trim_36 : decode b_V_trim 36 = .ok (.iconst 0, 1) := by decide +kernel
theorem d_V_trim_37 : decode b_V_trim 37 = .ok (.istore 4, 2) := by decide +kernel
theorem d_V_trim_39 : decode b_V_trim 39 = .ok (.aload_n 0, 1) := by decide +kernel
theorem d_V_trim_40 : decode b_V_trim 40 = .ok (.getfield 16, 3) := by decide +kernel
theorem d_V_trim_43 : decode b_V_trim 43 = .ok (.lload_n 2, 1) := by decide +kernel
theorem d_V_trim_44 : decode b_V_trim 44 = .ok (.land, 1) := by decide +kernel
theorem d_V_trim_45 : decode b_V_trim 45 = .ok (.lstore 5, 2) := by decide +kernel
theorem d_V_trim_47 : decode b_V_trim 47 = .ok (.aload_n 0, 1) := by decide +kernel
theorem d_V_trim_48 : decode b_V_trim 48 = .ok (.getfield 19, 3) := by decide +kernel
theorem d_V_trim_51 : decode b_V_trim 51 = .ok (.lload_n 2, 1) := by decide +kernel
theorem d_V_trim_52 : decode b_V_trim 52 = .ok (.land, 1) := by decide +kernel
theorem d_V_trim_53 : decode b_V_trim 53 = .ok (.lstore 7, 2) := by decide +kernel
theorem d_V_trim_55 : decode b_V_trim 55 = .ok (.aload_n 0, 1) := by decide +kernel
theorem d_V_trim_56 : decode b_V_trim 56 = .ok (.getfield 7, 3) := by decide +kernel
theorem d_V_trim_59 : decode b_V_trim 59 = .ok (.lload_n 2, 1) := by decide +kernel
theorem d_V_trim_60 : decode b_V_trim 60 = .ok (.land, 1) := by decide +kernel
theorem d_V_trim_61 : decode b_V_trim 61 = .ok (.lstore 9, 2) := by decide +kernel
theorem d_V_trim_63 : decode b_V_trim 63 = .ok (.aload_n 0, 1) := by decide +kernel
theorem d_V_trim_64 : decode b_V_trim 64 = .ok (.getfield 13, 3) := by decide +kernel
theorem d_V_trim_67 : decode b_V_trim 67 = .ok (.lload_n 2, 1) := by decide +kernel
theorem d_V_trim_68 : decode b_V_trim 68 = .ok (.land, 1) := by decide +kernel
theorem d_V_trim_69 : decode b_V_trim 69 = .ok (.lstore 11, 2) := by decide +kernel
theorem d_V_trim_71 : decode b_V_trim 71 = .ok (.aload_n 0, 1) := by decide +kernel
theorem d_V_trim_72 : decode b_V_trim 72 = .ok (.invokevirtual 99, 3) := by decide +kernel
theorem d_V_trim_75 : decode b_V_trim 75 = .ok (.aload_n 0, 1) := by decide +kernel
theorem d_V_trim_76 : decode b_V_trim 76 = .ok (.lload 9, 2) := by decide +kernel
theorem d_V_trim_78 : decode b_V_trim 78 = .ok (.lload 11, 2) := by decide +kernel
theorem d_V_trim_80 : decode b_V_trim 80 = .ok (.invokevirtual 34, 3) := by decide +kernel
theorem d_V_trim_83 : decode b_V_trim 83 = .ok (.iload 4, 2) := by decide +kernel
theorem d_V_trim_85 : decode b_V_trim 85 = .ok (.ifCond .eq 11, 3) := by decide +kernel
theorem d_V_trim_88 : decode b_V_trim 88 = .ok (.aload_n 0, 1) := by decide +kernel
theorem d_V_trim_89 : decode b_V_trim 89 = .ok (.lload 5, 2) := by decide +kernel
theorem d_V_trim_91 : decode b_V_trim 91 = .ok (.lload 7, 2) := by decide +kernel
theorem d_V_trim_93 : decode b_V_trim 93 = .ok (.invokevirtual 38, 3) := by decide +kernel
theorem d_V_trim_96 : decode b_V_trim 96 = .ok (.aload_n 0, 1) := by decide +kernel
theorem d_V_trim_97 : decode b_V_trim 97 = .ok (.invokevirtual 102, 3) := by decide +kernel
theorem d_V_trim_100 : decode b_V_trim 100 = .ok (.return_, 1) := by decide +kernel
def f_V_trim_97g (z0 : VV) (p1 : Int32) (g97 : VV) : VV := g97
def f_V_trim_96 (z0 : VV) (p1 : Int32) (w96_0_0 : Int64) (w96_0_1 : Int64) (w96_0_2 : Int64) (w96_0_3 : Int64) (w96_0_4 : Int64) (w96_0_5 : Int64) (w96_0_6 : Bool) : VV := f_V_trim_97g z0 p1 (f_V_tighten ((w96_0_0, w96_0_1, w96_0_2, w96_0_3, w96_0_4, w96_0_5, w96_0_6)))
def f_V_trim_93g (z0 : VV) (p1 : Int32) (g93 : VV) : VV := f_V_trim_96 z0 p1 g93.1 g93.2.1 g93.2.2.1 g93.2.2.2.1 g93.2.2.2.2.1 g93.2.2.2.2.2.1 g93.2.2.2.2.2.2
def f_V_trim_80g (z0 : VV) (p1 : Int32) (v53 : Int64) (v45 : Int64) (s37_0 : Int32) (g80 : VV) : VV := (if s37_0 = 0 then f_V_trim_96 z0 p1 g80.1 g80.2.1 g80.2.2.1 g80.2.2.2.1 g80.2.2.2.2.1 g80.2.2.2.2.2.1 g80.2.2.2.2.2.2 else f_V_trim_93g z0 p1 (f_V_sayUnsigned g80 v45 v53))
def f_V_trim_72g (z0 : VV) (p1 : Int32) (v69 : Int64) (v61 : Int64) (v53 : Int64) (v45 : Int64) (s37_0 : Int32) (g72 : VV) : VV := f_V_trim_80g z0 p1 v53 v45 s37_0 (f_V_sayBits g72 v61 v69)
def f_V_trim_69v (z0 : VV) (p1 : Int32) (v69 : Int64) (v61 : Int64) (v53 : Int64) (v45 : Int64) (s37_0 : Int32) : VV := f_V_trim_72g z0 p1 v69 v61 v53 v45 s37_0 (f_V_sayAll z0)
def f_V_trim_61v (z0 : VV) (p1 : Int32) (v61 : Int64) (v53 : Int64) (v45 : Int64) (s37_0 : Int32) (v11 : Int64) : VV := f_V_trim_69v z0 p1 (z0.2.1 &&& v11) v61 v53 v45 s37_0
def f_V_trim_53v (z0 : VV) (p1 : Int32) (v53 : Int64) (v45 : Int64) (s37_0 : Int32) (v11 : Int64) : VV := f_V_trim_61v z0 p1 (z0.1 &&& v11) v53 v45 s37_0 v11
def f_V_trim_45v (z0 : VV) (p1 : Int32) (v45 : Int64) (s37_0 : Int32) (v11 : Int64) : VV := f_V_trim_53v z0 p1 (z0.2.2.2.1 &&& v11) v45 s37_0 v11
def f_V_trim_37 (z0 : VV) (p1 : Int32) (v11 : Int64) (s37_0 : Int32) : VV := f_V_trim_45v z0 p1 (z0.2.2.1 &&& v11) s37_0 v11
def f_V_trim_11v (z0 : VV) (p1 : Int32) (v11 : Int64) : VV := (if ((z0.2.2.1 ^^^ z0.2.2.2.1) &&& (v11 ^^^ (-1 : Int64))) = 0 then f_V_trim_37 z0 p1 v11 1 else f_V_trim_37 z0 p1 v11 0)
def f_V_trim (z0 : VV) (p1 : Int32) : VV := (if p1 < 64 then f_V_trim_11v z0 p1 (f_N_lowest p1) else z0)
set_option maxRecDepth 100000 in
set_option maxHeartbeats 4000000 in
theorem c_V_trim (l : Launch) (dC : Nat → ClassId) (dI : Nat → Nat → Nat) (h0 : Nat) (sz : Nat) (z0 : VV) (p1 : Int32) : Met l y_V_trim w_V_trim ({ frames := 4, cells := 0, slots := 0, locals := 118 } : Room) (va_Pc [.ref h0, .int (p1)] (mP (dC, dI) [(h0, vE z0)] sz)) (va_Qv (fun _ : Unit => True) (mB (dC, dI) (va_A [(h0, vE z0)] sz) [(h0, vE (f_V_trim z0 p1))]) (va_A [(h0, vE z0)] sz)) 0 0 (va_A [(h0, vE z0)] sz) := by
  refine Met.ofW (cc := b_V_trim) (maxL := 13) (ret := none) (by decide) rfl ?_
  intro p e s m args below meth c s₁ B hml hv
  obtain ⟨rfl, hsz, hP, hK, hD0⟩ := hv
  have hx := B.exec
  have hb := B.bytes
  have hr := B.returns
  have hts := atoms_spec (ws := w_V_trim) B.pre
  have hG : ∀ w ∈ gG, w.before _ s = true := fun w h => hts w (List.mem_cons_of_mem _ h)
  have hown : s.vm.findClass R_V = some m.cls := findClass_of_methodNamed B.named
  have hlocks := B.notSynchronized
  subst hsz
  have hD := hD0.self (sz := s.heap.size)
  generalize hAe : va_A [(h0, vE z0)] s.heap.size = A at hD ⊢
  have hA : ∀ q : Nat, s.heap.size ≤ q → A q := fun q h => by rw [← hAe]; exact Or.inr h
  have hS : va_S A s.heap s.heap [] := va_S.rf
  have hP : va_P (dC, dI) classes [(h0, .inr (0, [.long (z0.1), .long (z0.2.1), .long (z0.2.2.1), .long (z0.2.2.2.1), .long (z0.2.2.2.2.1), .long (z0.2.2.2.2.2.1), .int (bI z0.2.2.2.2.2.2)]))] s.heap := hP
  have hD : va_D A [(h0, .inr (0, [.long (z0.1), .long (z0.2.1), .long (z0.2.2.1), .long (z0.2.2.2.1), .long (z0.2.2.2.2.1), .long (z0.2.2.2.2.2.1), .int (bI z0.2.2.2.2.2.2)]))] := hD
  have hl := lv_entry ([.ref h0, .int (p1)]) (n := 13) (Nat.le_of_ble_eq_true rfl)
  rw [lg_entry_eq]
  generalize (lg_sl ([.ref h0, .int (p1)]) ++ List.replicate (13 - (lg_sl ([.ref h0, .int (p1)])).length) Slot.unset).toArray = ls at hl ⊢
  have hl : lv_has ls 13 [(0, .ref h0), (1, .int (p1))] := hl
  have K97g : ∀ (g97 : VV) (hj : f_V_trim z0 p1 = f_V_trim_97g z0 p1 g97) (H : Heap) (locs : List Loc) (hP : va_P (dC, dI) classes [(h0, .inr (0, [.long (g97.1), .long (g97.2.1), .long (g97.2.2.1), .long (g97.2.2.2.1), .long (g97.2.2.2.2.1), .long (g97.2.2.2.2.2.1), .int (bI g97.2.2.2.2.2.2)]))] H) (hD : va_D A [(h0, .inr (0, [.long (g97.1), .long (g97.2.1), .long (g97.2.2.1), .long (g97.2.2.2.1), .long (g97.2.2.2.2.1), .long (g97.2.2.2.2.2.1), .int (bI g97.2.2.2.2.2.2)]))]) (hS : va_S A s.heap H locs) (ls : Array Slot) (hl : lv_has ls 13 []), W p l e (headSpec w_V_trim ({ frames := 4, cells := 0, slots := 0, locals := 118 } : Room)).room s m ([.ref h0, .int (p1)] : List Value).toArray below meth c H locs 0 0 (MQ below (va_Qv (fun _ : Unit => True) (mB (dC, dI) A [(h0, vE (f_V_trim z0 p1))]) A) ([.ref h0, .int (p1)] : List Value).toArray s 0 0 A) (F0 m 100 ls []) := by
    intro g97 hj H locs hP hD hS ls hl
    have fe : f_V_trim z0 p1 = g97 := hj.trans rfl
    exact W.vret hx hb hr (fun t ht hW => ⟨⟨(), rfl, trivial, by rw [ht, fe]; (try simp only [vE_mk]); exact hP, by rw [fe]; (try simp only [vE_mk]); exact hD⟩, hS.F ht⟩) hS.2.2 d_V_trim_100
  have K96 : ∀ (w96_0_0 : Int64) (w96_0_1 : Int64) (w96_0_2 : Int64) (w96_0_3 : Int64) (w96_0_4 : Int64) (w96_0_5 : Int64) (w96_0_6 : Bool) (hj : f_V_trim z0 p1 = f_V_trim_96 z0 p1 w96_0_0 w96_0_1 w96_0_2 w96_0_3 w96_0_4 w96_0_5 w96_0_6) (H : Heap) (locs : List Loc) (hP : va_P (dC, dI) classes [(h0, .inr (0, [.long (w96_0_0), .long (w96_0_1), .long (w96_0_2), .long (w96_0_3), .long (w96_0_4), .long (w96_0_5), .int (bI w96_0_6)]))] H) (hD : va_D A [(h0, .inr (0, [.long (w96_0_0), .long (w96_0_1), .long (w96_0_2), .long (w96_0_3), .long (w96_0_4), .long (w96_0_5), .int (bI w96_0_6)]))]) (hS : va_S A s.heap H locs) (ls : Array Slot) (hl : lv_has ls 13 [(0, .ref h0)]), W p l e (headSpec w_V_trim ({ frames := 4, cells := 0, slots := 0, locals := 118 } : Room)).room s m ([.ref h0, .int (p1)] : List Value).toArray below meth c H locs 0 0 (MQ below (va_Qv (fun _ : Unit => True) (mB (dC, dI) A [(h0, vE (f_V_trim z0 p1))]) A) ([.ref h0, .int (p1)] : List Value).toArray s 0 0 A) (F0 m 96 ls []) := by
    intro w96_0_0 w96_0_1 w96_0_2 w96_0_3 w96_0_4 w96_0_5 w96_0_6 hj H locs hP hD hS ls hl
    refine lv_aload_n hx hb d_V_trim_96 rfl (lv_at hl 0 rfl) ?_
    refine mg_v (F := f_V_tighten ((w96_0_0, w96_0_1, w96_0_2, w96_0_3, w96_0_4, w96_0_5, w96_0_6))) (wc := [(h0, vE ((w96_0_0, w96_0_1, w96_0_2, w96_0_3, w96_0_4, w96_0_5, w96_0_6)))]) (w1 := fun g97 => [(h0, vE g97)]) (wr := []) (ws' := fun g97 => [(h0, .inr (0, [.long (g97.1), .long (g97.2.1), .long (g97.2.2.1), .long (g97.2.2.2.1), .long (g97.2.2.2.2.1), .long (g97.2.2.2.2.2.1), .int (bI g97.2.2.2.2.2.2)]))]) (va_runV (As := []) (rest := []) ⟨hx, hb, hml, hown, hts⟩ (c_V_tighten l dC dI h0 H.size ((w96_0_0, w96_0_1, w96_0_2, w96_0_3, w96_0_4, w96_0_5, w96_0_6))) (cwV 0 hts (gV gw180 gw113 gw114 gw1 gw115) rfl rfl rfl (by decide +kernel) ⟨(Nat.le_of_ble_eq_true rfl), (Nat.le_of_ble_eq_true rfl)⟩) ⟨blm, va_recv hK hP (ci := 0) (q0 := 0) rfl rfl, fun U hU hW => ⟨rfl, by rw [hU], by rw [hU]; exact hP.sub [0] rfl, va_K.moved hW.alike hK, (hD.sub [0] (by decide) rfl).weaken (fun _ _ _ _ => trivial)⟩⟩ rfl rfl hl.1 rfl (lv_room (Nat.le_of_ble_eq_true rfl)) d_V_trim_97 ⟨Nat.zero_le _, Nat.zero_le _⟩) hP hD hS hA [0] [] [0] rfl rfl (by decide) (by decide) (fun _ => rfl) (by decide) (fun g97 eg97 H locs hP hD hS => ?_)
    refine K97g g97 (Eq.trans (hj.trans rfl) (congrArg (fun g97 => f_V_trim_97g z0 p1 g97) eg97)) H locs ?_ ?_ hS ls (lv_sub hl [] rfl)
    · with_reducible exact hP
    · with_reducible exact hD
  have K93g : ∀ (g93 : VV) (hj : f_V_trim z0 p1 = f_V_trim_93g z0 p1 g93) (H : Heap) (locs : List Loc) (hP : va_P (dC, dI) classes [(h0, .inr (0, [.long (g93.1), .long (g93.2.1), .long (g93.2.2.1), .long (g93.2.2.2.1), .long (g93.2.2.2.2.1), .long (g93.2.2.2.2.2.1), .int (bI g93.2.2.2.2.2.2)]))] H) (hD : va_D A [(h0, .inr (0, [.long (g93.1), .long (g93.2.1), .long (g93.2.2.1), .long (g93.2.2.2.1), .long (g93.2.2.2.2.1), .long (g93.2.2.2.2.2.1), .int (bI g93.2.2.2.2.2.2)]))]) (hS : va_S A s.heap H locs) (ls : Array Slot) (hl : lv_has ls 13 [(0, .ref h0)]), W p l e (headSpec w_V_trim ({ frames := 4, cells := 0, slots := 0, locals := 118 } : Room)).room s m ([.ref h0, .int (p1)] : List Value).toArray below meth c H locs 0 0 (MQ below (va_Qv (fun _ : Unit => True) (mB (dC, dI) A [(h0, vE (f_V_trim z0 p1))]) A) ([.ref h0, .int (p1)] : List Value).toArray s 0 0 A) (F0 m 96 ls []) := by
    intro g93 hj H locs hP hD hS ls hl
    refine K96 g93.1 g93.2.1 g93.2.2.1 g93.2.2.2.1 g93.2.2.2.2.1 g93.2.2.2.2.2.1 g93.2.2.2.2.2.2 (hj.trans rfl) H locs ?_ ?_ hS ls (lv_sub hl [0] rfl)
    · with_reducible exact hP
    · with_reducible exact hD
  have K80g : ∀ (v53 : Int64) (v45 : Int64) (s37_0 : Int32) (g80 : VV) (hj : f_V_trim z0 p1 = f_V_trim_80g z0 p1 v53 v45 s37_0 g80) (H : Heap) (locs : List Loc) (hP : va_P (dC, dI) classes [(h0, .inr (0, [.long (g80.1), .long (g80.2.1), .long (g80.2.2.1), .long (g80.2.2.2.1), .long (g80.2.2.2.2.1), .long (g80.2.2.2.2.2.1), .int (bI g80.2.2.2.2.2.2)]))] H) (hD : va_D A [(h0, .inr (0, [.long (g80.1), .long (g80.2.1), .long (g80.2.2.1), .long (g80.2.2.2.1), .long (g80.2.2.2.2.1), .long (g80.2.2.2.2.2.1), .int (bI g80.2.2.2.2.2.2)]))]) (hS : va_S A s.heap H locs) (ls : Array Slot) (hl : lv_has ls 13 [(7, .long (v53)), (5, .long (v45)), (4, .int (s37_0)), (0, .ref h0)]), W p l e (headSpec w_V_trim ({ frames := 4, cells := 0, slots := 0, locals := 118 } : Room)).room s m ([.ref h0, .int (p1)] : List Value).toArray below meth c H locs 0 0 (MQ below (va_Qv (fun _ : Unit => True) (mB (dC, dI) A [(h0, vE (f_V_trim z0 p1))]) A) ([.ref h0, .int (p1)] : List Value).toArray s 0 0 A) (F0 m 83 ls []) := by
    intro v53 v45 s37_0 g80 hj H locs hP hD hS ls hl
    refine lv_iload hx hb d_V_trim_83 (lv_at hl 2 rfl) ?_
    refine lv_if_eq (tgt := 96) hx hb d_V_trim_85 (by decide) (fun e1_96 => ?_) (fun e1_96 => ?_)
    · refine K96 g80.1 g80.2.1 g80.2.2.1 g80.2.2.2.1 g80.2.2.2.2.1 g80.2.2.2.2.2.1 g80.2.2.2.2.2.2 (hj.trans (by unfold f_V_trim_80g; first | with_reducible exact if_pos e1_96 | exact if_pos e1_96)) H locs ?_ ?_ hS ls (lv_sub hl [3] rfl)
      · with_reducible exact hP
      · with_reducible exact hD
    · refine lv_aload_n hx hb d_V_trim_88 rfl (lv_at hl 3 rfl) ?_
      refine lv_lload hx hb d_V_trim_89 (lv_at hl 1 rfl) ?_
      refine lv_lload hx hb d_V_trim_91 (lv_at hl 0 rfl) ?_
      refine mg_v (F := f_V_sayUnsigned g80 v45 v53) (wc := [(h0, vE g80)]) (w1 := fun g93 => [(h0, vE g93)]) (wr := []) (ws' := fun g93 => [(h0, .inr (0, [.long (g93.1), .long (g93.2.1), .long (g93.2.2.1), .long (g93.2.2.2.1), .long (g93.2.2.2.2.1), .long (g93.2.2.2.2.2.1), .int (bI g93.2.2.2.2.2.2)]))]) (va_runV (As := [.long (v45), .long (v53)]) (rest := []) ⟨hx, hb, hml, hown, hts⟩ (c_V_sayUnsigned l dC dI h0 H.size g80 v45 v53) (cwV 2 hts (gV gw83 gw84 gw85 gw1 gw86) rfl rfl rfl (by decide +kernel) ⟨(Nat.le_of_ble_eq_true rfl), (Nat.le_of_ble_eq_true rfl)⟩) ⟨blm, va_recv hK hP (ci := 0) (q0 := 0) rfl rfl, fun U hU hW => ⟨rfl, by rw [hU], by rw [hU]; exact hP.sub [0] rfl, va_K.moved hW.alike hK, (hD.sub [0] (by decide) rfl).weaken (fun _ _ _ _ => trivial)⟩⟩ rfl rfl hl.1 rfl (lv_room (Nat.le_of_ble_eq_true rfl)) d_V_trim_93 ⟨Nat.zero_le _, Nat.zero_le _⟩) hP hD hS hA [0] [] [0] rfl rfl (by decide) (by decide) (fun _ => rfl) (by decide) (fun g93 eg93 H locs hP hD hS => ?_)
      refine K93g g93 (Eq.trans (hj.trans (by unfold f_V_trim_80g; first | with_reducible exact if_neg e1_96 | exact if_neg e1_96)) (congrArg (fun g93 => f_V_trim_93g z0 p1 g93) eg93)) H locs ?_ ?_ hS ls (lv_sub hl [3] rfl)
      · with_reducible exact hP
      · with_reducible exact hD
  have K72g : ∀ (v69 : Int64) (v61 : Int64) (v53 : Int64) (v45 : Int64) (s37_0 : Int32) (g72 : VV) (hj : f_V_trim z0 p1 = f_V_trim_72g z0 p1 v69 v61 v53 v45 s37_0 g72) (H : Heap) (locs : List Loc) (hP : va_P (dC, dI) classes [(h0, .inr (0, [.long (g72.1), .long (g72.2.1), .long (g72.2.2.1), .long (g72.2.2.2.1), .long (g72.2.2.2.2.1), .long (g72.2.2.2.2.2.1), .int (bI g72.2.2.2.2.2.2)]))] H) (hD : va_D A [(h0, .inr (0, [.long (g72.1), .long (g72.2.1), .long (g72.2.2.1), .long (g72.2.2.2.1), .long (g72.2.2.2.2.1), .long (g72.2.2.2.2.2.1), .int (bI g72.2.2.2.2.2.2)]))]) (hS : va_S A s.heap H locs) (ls : Array Slot) (hl : lv_has ls 13 [(11, .long (v69)), (9, .long (v61)), (7, .long (v53)), (5, .long (v45)), (4, .int (s37_0)), (0, .ref h0)]), W p l e (headSpec w_V_trim ({ frames := 4, cells := 0, slots := 0, locals := 118 } : Room)).room s m ([.ref h0, .int (p1)] : List Value).toArray below meth c H locs 0 0 (MQ below (va_Qv (fun _ : Unit => True) (mB (dC, dI) A [(h0, vE (f_V_trim z0 p1))]) A) ([.ref h0, .int (p1)] : List Value).toArray s 0 0 A) (F0 m 75 ls []) := by
    intro v69 v61 v53 v45 s37_0 g72 hj H locs hP hD hS ls hl
    refine lv_aload_n hx hb d_V_trim_75 rfl (lv_at hl 5 rfl) ?_
    refine lv_lload hx hb d_V_trim_76 (lv_at hl 1 rfl) ?_
    refine lv_lload hx hb d_V_trim_78 (lv_at hl 0 rfl) ?_
    refine mg_v (F := f_V_sayBits g72 v61 v69) (wc := [(h0, vE g72)]) (w1 := fun g80 => [(h0, vE g80)]) (wr := []) (ws' := fun g80 => [(h0, .inr (0, [.long (g80.1), .long (g80.2.1), .long (g80.2.2.1), .long (g80.2.2.2.1), .long (g80.2.2.2.2.1), .long (g80.2.2.2.2.2.1), .int (bI g80.2.2.2.2.2.2)]))]) (va_runV (As := [.long (v61), .long (v69)]) (rest := []) ⟨hx, hb, hml, hown, hts⟩ (c_V_sayBits l dC dI h0 H.size g72 v61 v69) (cwV 2 hts (gV gw79 gw80 gw81 gw1 gw82) rfl rfl rfl (by decide +kernel) ⟨(Nat.le_of_ble_eq_true rfl), (Nat.le_of_ble_eq_true rfl)⟩) ⟨blm, va_recv hK hP (ci := 0) (q0 := 0) rfl rfl, fun U hU hW => ⟨rfl, by rw [hU], by rw [hU]; exact hP.sub [0] rfl, va_K.moved hW.alike hK, (hD.sub [0] (by decide) rfl).weaken (fun _ _ _ _ => trivial)⟩⟩ rfl rfl hl.1 rfl (lv_room (Nat.le_of_ble_eq_true rfl)) d_V_trim_80 ⟨Nat.zero_le _, Nat.zero_le _⟩) hP hD hS hA [0] [] [0] rfl rfl (by decide) (by decide) (fun _ => rfl) (by decide) (fun g80 eg80 H locs hP hD hS => ?_)
    refine K80g v53 v45 s37_0 g80 (Eq.trans (hj.trans rfl) (congrArg (fun g80 => f_V_trim_80g z0 p1 v53 v45 s37_0 g80) eg80)) H locs ?_ ?_ hS ls (lv_sub hl [2, 3, 4, 5] rfl)
    · with_reducible exact hP
    · with_reducible exact hD
  have K69v : ∀ (v69 : Int64) (v61 : Int64) (v53 : Int64) (v45 : Int64) (s37_0 : Int32) (hj : f_V_trim z0 p1 = f_V_trim_69v z0 p1 v69 v61 v53 v45 s37_0) (H : Heap) (locs : List Loc) (hP : va_P (dC, dI) classes [(h0, .inr (0, [.long (z0.1), .long (z0.2.1), .long (z0.2.2.1), .long (z0.2.2.2.1), .long (z0.2.2.2.2.1), .long (z0.2.2.2.2.2.1), .int (bI z0.2.2.2.2.2.2)]))] H) (hD : va_D A [(h0, .inr (0, [.long (z0.1), .long (z0.2.1), .long (z0.2.2.1), .long (z0.2.2.2.1), .long (z0.2.2.2.2.1), .long (z0.2.2.2.2.2.1), .int (bI z0.2.2.2.2.2.2)]))]) (hS : va_S A s.heap H locs) (ls : Array Slot) (hl : lv_has ls 13 [(11, .long (v69)), (9, .long (v61)), (7, .long (v53)), (5, .long (v45)), (4, .int (s37_0)), (0, .ref h0)]), W p l e (headSpec w_V_trim ({ frames := 4, cells := 0, slots := 0, locals := 118 } : Room)).room s m ([.ref h0, .int (p1)] : List Value).toArray below meth c H locs 0 0 (MQ below (va_Qv (fun _ : Unit => True) (mB (dC, dI) A [(h0, vE (f_V_trim z0 p1))]) A) ([.ref h0, .int (p1)] : List Value).toArray s 0 0 A) (F0 m 71 ls []) := by
    intro v69 v61 v53 v45 s37_0 hj H locs hP hD hS ls hl
    refine lv_aload_n hx hb d_V_trim_71 rfl (lv_at hl 5 rfl) ?_
    refine mg_v (F := f_V_sayAll z0) (wc := [(h0, vE z0)]) (w1 := fun g72 => [(h0, vE g72)]) (wr := []) (ws' := fun g72 => [(h0, .inr (0, [.long (g72.1), .long (g72.2.1), .long (g72.2.2.1), .long (g72.2.2.2.1), .long (g72.2.2.2.2.1), .long (g72.2.2.2.2.2.1), .int (bI g72.2.2.2.2.2.2)]))]) (va_runV (As := []) (rest := []) ⟨hx, hb, hml, hown, hts⟩ (c_V_sayAll l dC dI h0 H.size z0) (cwV 0 hts (gV gw179 gw75 gw76 gw1 gw77) rfl rfl rfl (by decide +kernel) ⟨(Nat.le_of_ble_eq_true rfl), (Nat.le_of_ble_eq_true rfl)⟩) ⟨blm, va_recv hK hP (ci := 0) (q0 := 0) rfl rfl, fun U hU hW => ⟨rfl, by rw [hU], by rw [hU]; exact hP.sub [0] rfl, va_K.moved hW.alike hK, (hD.sub [0] (by decide) rfl).weaken (fun _ _ _ _ => trivial)⟩⟩ rfl rfl hl.1 rfl (lv_room (Nat.le_of_ble_eq_true rfl)) d_V_trim_72 ⟨Nat.zero_le _, Nat.zero_le _⟩) hP hD hS hA [0] [] [0] rfl rfl (by decide) (by decide) (fun _ => rfl) (by decide) (fun g72 eg72 H locs hP hD hS => ?_)
    refine K72g v69 v61 v53 v45 s37_0 g72 (Eq.trans (hj.trans rfl) (congrArg (fun g72 => f_V_trim_72g z0 p1 v69 v61 v53 v45 s37_0 g72) eg72)) H locs ?_ ?_ hS ls (lv_sub hl [0, 1, 2, 3, 4, 5] rfl)
    · with_reducible exact hP
    · with_reducible exact hD
  have K61v : ∀ (v61 : Int64) (v53 : Int64) (v45 : Int64) (s37_0 : Int32) (v11 : Int64) (hj : f_V_trim z0 p1 = f_V_trim_61v z0 p1 v61 v53 v45 s37_0 v11) (H : Heap) (locs : List Loc) (hP : va_P (dC, dI) classes [(h0, .inr (0, [.long (z0.1), .long (z0.2.1), .long (z0.2.2.1), .long (z0.2.2.2.1), .long (z0.2.2.2.2.1), .long (z0.2.2.2.2.2.1), .int (bI z0.2.2.2.2.2.2)]))] H) (hD : va_D A [(h0, .inr (0, [.long (z0.1), .long (z0.2.1), .long (z0.2.2.1), .long (z0.2.2.2.1), .long (z0.2.2.2.2.1), .long (z0.2.2.2.2.2.1), .int (bI z0.2.2.2.2.2.2)]))]) (hS : va_S A s.heap H locs) (ls : Array Slot) (hl : lv_has ls 13 [(9, .long (v61)), (7, .long (v53)), (5, .long (v45)), (4, .int (s37_0)), (2, .long (v11)), (0, .ref h0)]), W p l e (headSpec w_V_trim ({ frames := 4, cells := 0, slots := 0, locals := 118 } : Room)).room s m ([.ref h0, .int (p1)] : List Value).toArray below meth c H locs 0 0 (MQ below (va_Qv (fun _ : Unit => True) (mB (dC, dI) A [(h0, vE (f_V_trim z0 p1))]) A) ([.ref h0, .int (p1)] : List Value).toArray s 0 0 A) (F0 m 63 ls []) := by
    intro v61 v53 v45 s37_0 v11 hj H locs hP hD hS ls hl
    refine lv_aload_n hx hb d_V_trim_63 rfl (lv_at hl 5 rfl) ?_
    refine va_get (D := (dC, dI)) (ci := 0) (v := .long (z0.2.1)) (C := R_V) (T := F_V) (N := 7) hx hb hts (fun w h => List.mem_cons_of_mem _ (uw_V w h)) hown hK hP 0 rfl rfl 1 (by decide) (hG (.fieldLink R_V 13 "ValueSieve$Value" "unknown" "J") gw21) (fun _ h9 => h9) rfl d_V_trim_64 ?_
    refine lv_lload_n hx hb d_V_trim_67 rfl (lv_at hl 4 rfl) ?_
    refine lv_land hx hb d_V_trim_68 ?_
    refine lv_topl (fun v69 ev69 => ?_)
    refine lv_lstore (lv' := [(11, .long (v69)), (9, .long (v61)), (7, .long (v53)), (5, .long (v45)), (4, .int (s37_0)), (2, .long (v11)), (0, .ref h0)]) hx hb d_V_trim_69 hl (by decide) rfl (fun ls hl => ?_)
    refine K69v v69 v61 v53 v45 s37_0 (Eq.trans (hj.trans rfl) (congrArg (fun v69 => f_V_trim_69v z0 p1 v69 v61 v53 v45 s37_0) ev69.symm)) H locs ?_ ?_ hS ls (lv_sub hl [0, 1, 2, 3, 4, 6] rfl)
    · with_reducible exact hP
    · with_reducible exact hD
  have K53v : ∀ (v53 : Int64) (v45 : Int64) (s37_0 : Int32) (v11 : Int64) (hj : f_V_trim z0 p1 = f_V_trim_53v z0 p1 v53 v45 s37_0 v11) (H : Heap) (locs : List Loc) (hP : va_P (dC, dI) classes [(h0, .inr (0, [.long (z0.1), .long (z0.2.1), .long (z0.2.2.1), .long (z0.2.2.2.1), .long (z0.2.2.2.2.1), .long (z0.2.2.2.2.2.1), .int (bI z0.2.2.2.2.2.2)]))] H) (hD : va_D A [(h0, .inr (0, [.long (z0.1), .long (z0.2.1), .long (z0.2.2.1), .long (z0.2.2.2.1), .long (z0.2.2.2.2.1), .long (z0.2.2.2.2.2.1), .int (bI z0.2.2.2.2.2.2)]))]) (hS : va_S A s.heap H locs) (ls : Array Slot) (hl : lv_has ls 13 [(7, .long (v53)), (5, .long (v45)), (4, .int (s37_0)), (2, .long (v11)), (0, .ref h0)]), W p l e (headSpec w_V_trim ({ frames := 4, cells := 0, slots := 0, locals := 118 } : Room)).room s m ([.ref h0, .int (p1)] : List Value).toArray below meth c H locs 0 0 (MQ below (va_Qv (fun _ : Unit => True) (mB (dC, dI) A [(h0, vE (f_V_trim z0 p1))]) A) ([.ref h0, .int (p1)] : List Value).toArray s 0 0 A) (F0 m 55 ls []) := by
    intro v53 v45 s37_0 v11 hj H locs hP hD hS ls hl
    refine lv_aload_n hx hb d_V_trim_55 rfl (lv_at hl 4 rfl) ?_
    refine va_get (D := (dC, dI)) (ci := 0) (v := .long (z0.1)) (C := R_V) (T := F_V) (N := 7) hx hb hts (fun w h => List.mem_cons_of_mem _ (uw_V w h)) hown hK hP 0 rfl rfl 0 (by decide) (hG (.fieldLink R_V 7 "ValueSieve$Value" "bits" "J") gw18) (fun _ h9 => h9) rfl d_V_trim_56 ?_
    refine lv_lload_n hx hb d_V_trim_59 rfl (lv_at hl 3 rfl) ?_
    refine lv_land hx hb d_V_trim_60 ?_
    refine lv_topl (fun v61 ev61 => ?_)
    refine lv_lstore (lv' := [(9, .long (v61)), (7, .long (v53)), (5, .long (v45)), (4, .int (s37_0)), (2, .long (v11)), (0, .ref h0)]) hx hb d_V_trim_61 hl (by decide) rfl (fun ls hl => ?_)
    refine K61v v61 v53 v45 s37_0 v11 (Eq.trans (hj.trans rfl) (congrArg (fun v61 => f_V_trim_61v z0 p1 v61 v53 v45 s37_0 v11) ev61.symm)) H locs ?_ ?_ hS ls (lv_sub hl [0, 1, 2, 3, 4, 5] rfl)
    · with_reducible exact hP
    · with_reducible exact hD
  have K45v : ∀ (v45 : Int64) (s37_0 : Int32) (v11 : Int64) (hj : f_V_trim z0 p1 = f_V_trim_45v z0 p1 v45 s37_0 v11) (H : Heap) (locs : List Loc) (hP : va_P (dC, dI) classes [(h0, .inr (0, [.long (z0.1), .long (z0.2.1), .long (z0.2.2.1), .long (z0.2.2.2.1), .long (z0.2.2.2.2.1), .long (z0.2.2.2.2.2.1), .int (bI z0.2.2.2.2.2.2)]))] H) (hD : va_D A [(h0, .inr (0, [.long (z0.1), .long (z0.2.1), .long (z0.2.2.1), .long (z0.2.2.2.1), .long (z0.2.2.2.2.1), .long (z0.2.2.2.2.2.1), .int (bI z0.2.2.2.2.2.2)]))]) (hS : va_S A s.heap H locs) (ls : Array Slot) (hl : lv_has ls 13 [(5, .long (v45)), (4, .int (s37_0)), (2, .long (v11)), (0, .ref h0)]), W p l e (headSpec w_V_trim ({ frames := 4, cells := 0, slots := 0, locals := 118 } : Room)).room s m ([.ref h0, .int (p1)] : List Value).toArray below meth c H locs 0 0 (MQ below (va_Qv (fun _ : Unit => True) (mB (dC, dI) A [(h0, vE (f_V_trim z0 p1))]) A) ([.ref h0, .int (p1)] : List Value).toArray s 0 0 A) (F0 m 47 ls []) := by
    intro v45 s37_0 v11 hj H locs hP hD hS ls hl
    refine lv_aload_n hx hb d_V_trim_47 rfl (lv_at hl 3 rfl) ?_
    refine va_get (D := (dC, dI)) (ci := 0) (v := .long (z0.2.2.2.1)) (C := R_V) (T := F_V) (N := 7) hx hb hts (fun w h => List.mem_cons_of_mem _ (uw_V w h)) hown hK hP 0 rfl rfl 3 (by decide) (hG (.fieldLink R_V 19 "ValueSieve$Value" "high" "J") gw29) (fun _ h9 => h9) rfl d_V_trim_48 ?_
    refine lv_lload_n hx hb d_V_trim_51 rfl (lv_at hl 2 rfl) ?_
    refine lv_land hx hb d_V_trim_52 ?_
    refine lv_topl (fun v53 ev53 => ?_)
    refine lv_lstore (lv' := [(7, .long (v53)), (5, .long (v45)), (4, .int (s37_0)), (2, .long (v11)), (0, .ref h0)]) hx hb d_V_trim_53 hl (by decide) rfl (fun ls hl => ?_)
    refine K53v v53 v45 s37_0 v11 (Eq.trans (hj.trans rfl) (congrArg (fun v53 => f_V_trim_53v z0 p1 v53 v45 s37_0 v11) ev53.symm)) H locs ?_ ?_ hS ls (lv_sub hl [0, 1, 2, 3, 4] rfl)
    · with_reducible exact hP
    · with_reducible exact hD
  have K37 : ∀ (v11 : Int64) (s37_0 : Int32) (hj : f_V_trim z0 p1 = f_V_trim_37 z0 p1 v11 s37_0) (H : Heap) (locs : List Loc) (hP : va_P (dC, dI) classes [(h0, .inr (0, [.long (z0.1), .long (z0.2.1), .long (z0.2.2.1), .long (z0.2.2.2.1), .long (z0.2.2.2.2.1), .long (z0.2.2.2.2.2.1), .int (bI z0.2.2.2.2.2.2)]))] H) (hD : va_D A [(h0, .inr (0, [.long (z0.1), .long (z0.2.1), .long (z0.2.2.1), .long (z0.2.2.2.1), .long (z0.2.2.2.2.1), .long (z0.2.2.2.2.2.1), .int (bI z0.2.2.2.2.2.2)]))]) (hS : va_S A s.heap H locs) (ls : Array Slot) (hl : lv_has ls 13 [(2, .long (v11)), (0, .ref h0)]), W p l e (headSpec w_V_trim ({ frames := 4, cells := 0, slots := 0, locals := 118 } : Room)).room s m ([.ref h0, .int (p1)] : List Value).toArray below meth c H locs 0 0 (MQ below (va_Qv (fun _ : Unit => True) (mB (dC, dI) A [(h0, vE (f_V_trim z0 p1))]) A) ([.ref h0, .int (p1)] : List Value).toArray s 0 0 A) (F0 m 37 ls [.int (s37_0)]) := by
    intro v11 s37_0 hj H locs hP hD hS ls hl
    refine lv_istore (lv' := [(4, .int (s37_0)), (2, .long (v11)), (0, .ref h0)]) hx hb d_V_trim_37 hl (by decide) rfl (fun ls hl => ?_)
    refine lv_aload_n hx hb d_V_trim_39 rfl (lv_at hl 2 rfl) ?_
    refine va_get (D := (dC, dI)) (ci := 0) (v := .long (z0.2.2.1)) (C := R_V) (T := F_V) (N := 7) hx hb hts (fun w h => List.mem_cons_of_mem _ (uw_V w h)) hown hK hP 0 rfl rfl 2 (by decide) (hG (.fieldLink R_V 16 "ValueSieve$Value" "low" "J") gw25) (fun _ h9 => h9) rfl d_V_trim_40 ?_
    refine lv_lload_n hx hb d_V_trim_43 rfl (lv_at hl 1 rfl) ?_
    refine lv_land hx hb d_V_trim_44 ?_
    refine lv_topl (fun v45 ev45 => ?_)
    refine lv_lstore (lv' := [(5, .long (v45)), (4, .int (s37_0)), (2, .long (v11)), (0, .ref h0)]) hx hb d_V_trim_45 hl (by decide) rfl (fun ls hl => ?_)
    refine K45v v45 s37_0 v11 (Eq.trans (hj.trans rfl) (congrArg (fun v45 => f_V_trim_45v z0 p1 v45 s37_0 v11) ev45.symm)) H locs ?_ ?_ hS ls (lv_sub hl [0, 1, 2, 3] rfl)
    · with_reducible exact hP
    · with_reducible exact hD
  have K11v : ∀ (v11 : Int64) (hj : f_V_trim z0 p1 = f_V_trim_11v z0 p1 v11) (H : Heap) (locs : List Loc) (hP : va_P (dC, dI) classes [(h0, .inr (0, [.long (z0.1), .long (z0.2.1), .long (z0.2.2.1), .long (z0.2.2.2.1), .long (z0.2.2.2.2.1), .long (z0.2.2.2.2.2.1), .int (bI z0.2.2.2.2.2.2)]))] H) (hD : va_D A [(h0, .inr (0, [.long (z0.1), .long (z0.2.1), .long (z0.2.2.1), .long (z0.2.2.2.1), .long (z0.2.2.2.2.1), .long (z0.2.2.2.2.2.1), .int (bI z0.2.2.2.2.2.2)]))]) (hS : va_S A s.heap H locs) (ls : Array Slot) (hl : lv_has ls 13 [(2, .long (v11)), (0, .ref h0)]), W p l e (headSpec w_V_trim ({ frames := 4, cells := 0, slots := 0, locals := 118 } : Room)).room s m ([.ref h0, .int (p1)] : List Value).toArray below meth c H locs 0 0 (MQ below (va_Qv (fun _ : Unit => True) (mB (dC, dI) A [(h0, vE (f_V_trim z0 p1))]) A) ([.ref h0, .int (p1)] : List Value).toArray s 0 0 A) (F0 m 12 ls []) := by
    intro v11 hj H locs hP hD hS ls hl
    refine lv_aload_n hx hb d_V_trim_12 rfl (lv_at hl 1 rfl) ?_
    refine va_get (D := (dC, dI)) (ci := 0) (v := .long (z0.2.2.1)) (C := R_V) (T := F_V) (N := 7) hx hb hts (fun w h => List.mem_cons_of_mem _ (uw_V w h)) hown hK hP 0 rfl rfl 2 (by decide) (hG (.fieldLink R_V 16 "ValueSieve$Value" "low" "J") gw25) (fun _ h9 => h9) rfl d_V_trim_13 ?_
    refine lv_aload_n hx hb d_V_trim_16 rfl (lv_at hl 1 rfl) ?_
    refine va_get (D := (dC, dI)) (ci := 0) (v := .long (z0.2.2.2.1)) (C := R_V) (T := F_V) (N := 7) hx hb hts (fun w h => List.mem_cons_of_mem _ (uw_V w h)) hown hK hP 0 rfl rfl 3 (by decide) (hG (.fieldLink R_V 19 "ValueSieve$Value" "high" "J") gw29) (fun _ h9 => h9) rfl d_V_trim_17 ?_
    refine lv_lxor hx hb d_V_trim_20 ?_
    refine lv_lload_n hx hb d_V_trim_21 rfl (lv_at hl 0 rfl) ?_
    refine lv_ldc2 (v := -1) hx hb hown (hG (.constantLong R_V 32 (-1)) gw78) d_V_trim_22 ?_
    refine lv_lxor hx hb d_V_trim_25 ?_
    refine lv_land hx hb d_V_trim_26 ?_
    refine lv_lconst (v := 0) hx hb d_V_trim_27 (by decide) ?_
    refine wl_ne (tgt := 36) hx hb d_V_trim_28 d_V_trim_29 (by decide) (fun e1_36 => ?_) (fun e1_36 => ?_)
    · refine lv_iconst (v := 0) hx hb d_V_trim_36 (by decide) ?_
      refine K37 v11 0 (hj.trans (by unfold f_V_trim_11v; first | with_reducible exact if_neg e1_36 | exact if_neg e1_36)) H locs ?_ ?_ hS ls (lv_sub hl [0, 1] rfl)
      · with_reducible exact hP
      · with_reducible exact hD
    · refine lv_iconst (v := 1) hx hb d_V_trim_32 (by decide) ?_
      refine lv_goto (tgt := 37) hx hb d_V_trim_33 (by decide) ?_
      refine K37 v11 1 (hj.trans (by unfold f_V_trim_11v; first | with_reducible exact if_pos e1_36 | exact if_pos e1_36)) H locs ?_ ?_ hS ls (lv_sub hl [0, 1] rfl)
      · with_reducible exact hP
      · with_reducible exact hD
  refine lv_iload_n hx hb d_V_trim_0 rfl (lv_at hl 1 rfl) ?_
  refine lv_bipush (v := 64) hx hb d_V_trim_1 (by decide) ?_
  refine lv_icmp_lt (tgt := 7) hx hb d_V_trim_3 (by decide) (fun e1_7 => ?_) (fun e1_7 => ?_)
  · refine lv_iload_n hx hb d_V_trim_7 rfl (lv_at hl 1 rfl) ?_
    refine rc_l (W.runS (As := [.int (p1)]) (rest := []) ⟨hx, hb, hml, hown, hts⟩ (c_N_lowest l p1) (va_cwS 1 hts (gS gw178 gw168 gw2 gw169) rfl rfl rfl (by decide +kernel) ⟨(Nat.le_of_ble_eq_true rfl), (Nat.le_of_ble_eq_true rfl)⟩) ⟨bl0, fun U hU hW => ⟨rfl, trivial⟩⟩ rfl rfl hl.1 rfl (lv_room (Nat.le_of_ble_eq_true rfl)) d_V_trim_8 ⟨Nat.zero_le _, Nat.zero_le _⟩) ?_
    refine lv_topl (fun v11 ev11 => ?_)
    refine lv_lstore_n (lv' := [(2, .long (v11)), (0, .ref h0), (1, .int (p1))]) hx hb d_V_trim_11 rfl hl (by decide) rfl (fun ls hl => ?_)
    refine K11v v11 (Eq.trans (by unfold f_V_trim; first | with_reducible exact if_pos e1_7 | exact if_pos e1_7) (congrArg (fun v11 => f_V_trim_11v z0 p1 v11) ev11.symm)) s.heap [] ?_ ?_ hS ls (lv_sub hl [0, 1] rfl)
    · with_reducible exact hP
    · with_reducible exact hD
  · have fe : f_V_trim z0 p1 = z0 := by unfold f_V_trim; first | with_reducible exact if_neg e1_7 | exact if_neg e1_7
    exact W.vret hx hb hr (fun t ht hW => ⟨⟨(), rfl, trivial, by rw [ht, fe]; (try simp only [vE_mk]); exact hP, by rw [fe]; (try simp only [vE_mk]); exact hD⟩, hS.F ht⟩) hS.2.2 d_V_trim_6
-- ValueSieve$Value.signExtend
theorem d_V_signExtend_0 : decode b_V_signExtend 0 = .ok (.aload_n 0, 1) := by decide +kernel
theorem d_V_signExtend_1 : decode b_V_signExtend 1 = .ok (.iload_n 1, 1) := by decide +kernel
theorem d_V_signExtend_2 : decode b_V_signExtend 2 = .ok (.invokevirtual 105, 3) := by decide +kernel
theorem d_V_signExtend_5 : decode b_V_signExtend 5 = .ok (.aload_n 0, 1) := by decide +kernel
theorem d_V_signExtend_6 : decode b_V_signExtend 6 = .ok (.getfield 16, 3) := by decide +kernel
theorem d_V_signExtend_9 : decode b_V_signExtend 9 = .ok (.lstore_n 2, 1) := by decide +kernel
theorem d_V_signExtend_10 : decode b_V_signExtend 10 = .ok (.aload_n 0, 1) := by decide +kernel
theorem d_V_signExtend_11 : decode b_V_signExtend 11 = .ok (.getfield 19, 3) := by decide +kernel
theorem d_V_signExtend_14 : decode b_V_signExtend 14 = .ok (.lstore 4, 2) := by decide +kernel
theorem d_V_signExtend_16 : decode b_V_signExtend 16 = .ok (.lconst 1, 1) := by decide +kernel
theorem d_V_signExtend_17 : decode b_V_signExtend 17 = .ok (.iload_n 1, 1) := by decide +kernel
theorem d_V_signExtend_18 : decode b_V_signExtend 18 = .ok (.iconst 1, 1) := by decide +kernel
theorem d_V_signExtend_19 : decode b_V_signExtend 19 = .ok (.isub, 1) := by decide +kernel
theorem d_V_signExtend_20 : decode b_V_signExtend 20 = .ok (.lshl, 1) := by decide +kernel
theorem d_V_signExtend_21 : decode b_V_signExtend 21 = .ok (.lstore 6, 2) := by decide +kernel
theorem d_V_signExtend_23 : decode b_V_signExtend 23 = .ok (.aload_n 0, 1) := by decide +kernel
theorem d_V_signExtend_24 : decode b_V_signExtend 24 = .ok (.getfield 7, 3) := by decide +kernel
theorem d_V_signExtend_27 : decode b_V_signExtend 27 = .ok (.iload_n 1, 1) := by decide +kernel
theorem d_V_signExtend_28 : decode b_V_signExtend 28 = .ok (.invokestatic 109, 3) := by decide +kernel
theorem d_V_signExtend_31 : decode b_V_signExtend 31 = .ok (.lstore 8, 2) := by decide +kernel
theorem d_V_signExtend_33 : decode b_V_signExtend 33 = .ok (.aload_n 0, 1) := by decide +kernel
theorem d_V_signExtend_34 : decode b_V_signExtend 34 = .ok (.getfield 13, 3) := by decide +kernel
theorem d_V_signExtend_37 : decode b_V_signExtend 37 = .ok (.iload_n 1, 1) := by decide +kernel
theorem d_V_signExtend_38 : decode b_V_signExtend 38 = .ok (.invokestatic 109, 3) := by decide +kernel
theorem d_V_signExtend_41 : decode b_V_signExtend 41 = .ok (.lstore 10, 2) := by decide +kernel
theorem d_V_signExtend_43 : decode b_V_signExtend 43 = .ok (.aload_n 0, 1) := by decide +kernel
theorem d_V_signExtend_44 : decode b_V_signExtend 44 = .ok (.invokevirtual 99, 3) := by decide +kernel
theorem d_V_signExtend_47 : decode b_V_signExtend 47 = .ok (.aload_n 0, 1) := by decide +kernel
theorem d_V_signExtend_48 : decode b_V_signExtend 48 = .ok (.lload 8, 2) := by decide +kernel
theorem d_V_signExtend_50 : decode b_V_signExtend 50 = .ok (.lload 10, 2) := by decide +kernel
theorem d_V_signExtend_52 : decode b_V_signExtend 52 = .ok (.invokevirtual 34, 3) := by decide +kernel
theorem d_V_signExtend_55 : decode b_V_signExtend 55 = .ok (.lload 4, 2) := by decide +kernel
theorem d_V_signExtend_57 : decode b_V_signExtend 57 = .ok (.lload 6, 2) := by decide +kernel
theorem d_V_signExtend_59 : decode b_V_signExtend 59 = .ok (.lcmp, 1) := by decide +kernel
theorem d_V_signExtend_60 : decode b_V_signExtend 60 = .ok (.ifCond .ge 13, 3) := by decide +kernel
theorem d_V_signExtend_63 : decode b_V_signExtend 63 = .ok (.aload_n 0, 1) := by decide +kernel
theorem d_V_signExtend_64 : decode b_V_signExtend 64 = .ok (.lload_n 2, 1) := by decide +kernel
theorem d_V_signExtend_65 : decode b_V_signExtend 65 = .ok (.lload 4, 2) := by decide +kernel
theorem d_V_signExtend_67 : decode b_V_signExtend 67 = .ok (.invokevirtual 47, 3) := by decide +kernel
theorem d_V_signExtend_70 : decode b_V_signExtend 70 = .ok (.goto 45, 3) := by decide +kernel
theorem d_V_signExtend_73 : decode b_V_signExtend 73 = .ok (.lload_n 2, 1) := by decide +kernel
theorem d_V_signExtend_74 : decode b_V_signExtend 74 = .ok (.lload 6, 2) := by decide +kernel
theorem d_V_signExtend_76 : decode b_V_signExtend 76 = .ok (.lcmp, 1) := by decide +kernel
theorem d_V_signExtend_77 : decode b_V_signExtend 77 = .ok (.ifCond .lt 27, 3) := by decide +kernel
theorem d_V_signExtend_80 : decode b_V_signExtend 80 = .ok (.aload_n 0, 1) := by decide +kernel
theorem d_V_signExtend_81 : decode b_V_signExtend 81 = .ok (.lload_n 2, 1) := by decide +kernel
theorem d_V_signExtend_82 : decode b_V_signExtend 82 = .ok (.ldc2_w 113, 3) := by decide +kernel
theorem d_V_signExtend_85 : decode b_V_signExtend 85 = .ok (.lload 6, 2) := by decide +kernel
theorem d_V_signExtend_87 : decode b_V_signExtend 87 = .ok (.lmul, 1) := by decide +kernel
theorem d_V_signExtend_88 : decode b_V_signExtend 88 = .ok (.lsub, 1) := by decide +kernel
theorem d_V_signExtend_89 : decode b_V_signExtend 89 = .ok (.lload 4, 2) := by decide +kernel
theorem d_V_signExtend_91 : decode b_V_signExtend 91 = .ok (.ldc2_w 113, 3) := by decide +kernel
theorem d_V_signExtend_94 : decode b_V_signExtend 94 = .ok (.lload 6, 2) := by decide +kernel
theorem d_V_signExtend_96 : decode b_V_signExtend 96 = .ok (.lmul, 1) := by decide +kernel
theorem d_V_signExtend_97 : decode b_V_signExtend 97 = .ok (.lsub, 1) := by decide +kernel
theorem d_V_signExtend_98 : decode b_V_signExtend 98 = .ok (.invokevirtual 47, 3) := by decide +kernel
theorem d_V_signExtend_101 : decode b_V_signExtend 101 = .ok (.goto 14, 3) := by decide +kernel
theorem d_V_signExtend_104 : decode b_V_signExtend 104 = .ok (.aload_n 0, 1) := by decide +kernel
theorem d_V_signExtend_105 : decode b_V_signExtend 105 = .ok (.lload 6, 2) := by decide +kernel
theorem d_V_signExtend_107 : decode b_V_signExtend 107 = .ok (.lneg, 1) := by decide +kernel
theorem d_V_signExtend_108 : decode b_V_signExtend 108 = .ok (.lload 6, 2) := by decide +kernel
theorem d_V_signExtend_110 : decode b_V_signExtend 110 = .ok (.lconst 1, 1) := by decide +kernel
theorem d_V_signExtend_111 : decode b_V_signExtend 111 = .ok (.lsub, 1) := by decide +kernel
theorem d_V_signExtend_112 : decode b_V_signExtend 112 = .ok (.invokevirtual 47, 3) := by decide +kernel
theorem d_V_signExtend_115 : decode b_V_signExtend 115 = .ok (.aload_n 0, 1) := by decide +kernel
theorem d_V_signExtend_116 : decode b_V_signExtend 116 = .ok (.invokevirtual 102, 3) := by decide +kernel
theorem d_V_signExtend_119 : decode b_V_signExtend 119 = .ok (.return_, 1) := by decide +kernel
def f_V_signExtend_116g (z0 : VV) (p1 : Int32) (g116 : VV) : VV := g116
def f_V_signExtend_115 (z0 : VV) (p1 : Int32) (w115_0_0 : Int64) (w115_0_1 : Int64) (w115_0_2 : Int64) (w115_0_3 : Int64) (w115_0_4 : Int64) (w115_0_5 : Int64) (w115_0_6 : Bool) : VV := f_V_signExtend_116g z0 p1 (f_V_tighten ((w115_0_0, w115_0_1, w115_0_2, w115_0_3, w115_0_4, w115_0_5, w115_0_6)))
def f_V_signExtend_112g (z0 : VV) (p1 : Int32) (g112 : VV) : VV := f_V_signExtend_115 z0 p1 g112.1 g112.2.1 g112.2.2.1 g112.2.2.2.1 g112.2.2.2.2.1 g112.2.2.2.2.2.1 g112.2.2.2.2.2.2
def f_V_signExtend_98g (z0 : VV) (p1 : Int32) (g98 : VV) : VV := f_V_signExtend_115 z0 p1 g98.1 g98.2.1 g98.2.2.1 g98.2.2.2.1 g98.2.2.2.2.1 g98.2.2.2.2.2.1 g98.2.2.2.2.2.2
def f_V_signExtend_67g (z0 : VV) (p1 : Int32) (g67 : VV) : VV := f_V_signExtend_115 z0 p1 g67.1 g67.2.1 g67.2.2.1 g67.2.2.2.1 g67.2.2.2.2.1 g67.2.2.2.2.2.1 g67.2.2.2.2.2.2
def f_V_signExtend_52g (z0 : VV) (p1 : Int32) (v21 : Int64) (x21v_4 : Int64) (x21v_2 : Int64) (g52 : VV) : VV := (if x21v_4 < v21 then f_V_signExtend_67g z0 p1 (f_V_saySigned g52 x21v_2 x21v_4) else (if x21v_2 < v21 then f_V_signExtend_112g z0 p1 (f_V_saySigned g52 (-v21) (v21 - (1 : Int64))) else f_V_signExtend_98g z0 p1 (f_V_saySigned g52 (x21v_2 - ((2 : Int64) * v21)) (x21v_4 - ((2 : Int64) * v21)))))
def f_V_signExtend_44g (z0 : VV) (p1 : Int32) (v41 : Int64) (v31 : Int64) (v21 : Int64) (x21v_4 : Int64) (x21v_2 : Int64) (g44 : VV) : VV := f_V_signExtend_52g z0 p1 v21 x21v_4 x21v_2 (f_V_sayBits g44 v31 v41)
def f_V_signExtend_41v (z0 : VV) (p1 : Int32) (v41 : Int64) (v31 : Int64) (v21 : Int64) (x21v_4 : Int64) (x21v_2 : Int64) (g2 : VV) : VV := f_V_signExtend_44g z0 p1 v41 v31 v21 x21v_4 x21v_2 (f_V_sayAll g2)
def f_V_signExtend_31v (z0 : VV) (p1 : Int32) (v31 : Int64) (v21 : Int64) (x21v_4 : Int64) (x21v_2 : Int64) (g2 : VV) : VV := f_V_signExtend_41v z0 p1 (f_N_extended g2.2.1 p1) v31 v21 x21v_4 x21v_2 g2
def f_V_signExtend_21v (z0 : VV) (p1 : Int32) (v21 : Int64) (x21v_4 : Int64) (x21v_2 : Int64) (g2 : VV) : VV := f_V_signExtend_31v z0 p1 (f_N_extended g2.1 p1) v21 x21v_4 x21v_2 g2
def f_V_signExtend_2g (z0 : VV) (p1 : Int32) (g2 : VV) : VV := f_V_signExtend_21v z0 p1 ((1 : Int64) <<< ((p1 - (1 : Int32)).toInt64 &&& 63)) g2.2.2.2.1 g2.2.2.1 g2
def f_V_signExtend (z0 : VV) (p1 : Int32) : VV := f_V_signExtend_2g z0 p1 (f_V_trim z0 p1)
set_option maxRecDepth 100000 in
set_option maxHeartbeats 4000000 in
theorem c_V_signExtend (l : Launch) (dC : Nat → ClassId) (dI : Nat → Nat → Nat) (h0 : Nat) (sz : Nat) (z0 : VV) (p1 : Int32) : Met l y_V_signExtend w_V_signExtend ({ frames := 5, cells := 0, slots := 0, locals := 150 } : Room) (va_Pc [.ref h0, .int (p1)] (mP (dC, dI) [(h0, vE z0)] sz)) (va_Qv (fun _ : Unit => True) (mB (dC, dI) (va_A [(h0, vE z0)] sz) [(h0, vE (f_V_signExtend z0 p1))]) (va_A [(h0, vE z0)] sz)) 0 0 (va_A [(h0, vE z0)] sz) := by
  refine Met.ofW (cc := b_V_signExtend) (maxL := 12) (ret := none) (by decide) rfl ?_
  intro p e s m args below meth c s₁ B hml hv
  obtain ⟨rfl, hsz, hP, hK, hD0⟩ := hv
  have hx := B.exec
  have hb := B.bytes
  have hr := B.returns
  have hts := atoms_spec (ws := w_V_signExtend) B.pre
  have hG : ∀ w ∈ gG, w.before _ s = true := fun w h => hts w (List.mem_cons_of_mem _ h)
  have hown : s.vm.findClass R_V = some m.cls := findClass_of_methodNamed B.named
  have hlocks := B.notSynchronized
  subst hsz
  have hD := hD0.self (sz := s.heap.size)
  generalize hAe : va_A [(h0, vE z0)] s.heap.size = A at hD ⊢
  have hA : ∀ q : Nat, s.heap.size ≤ q → A q := fun q h => by rw [← hAe]; exact Or.inr h
  have hS : va_S A s.heap s.heap [] := va_S.rf
  have hP : va_P (dC, dI) classes [(h0, .inr (0, [.long (z0.1), .long (z0.2.1), .long (z0.2.2.1), .long (z0.2.2.2.1), .long (z0.2.2.2.2.1), .long (z0.2.2.2.2.2.1), .int (bI z0.2.2.2.2.2.2)]))] s.heap := hP
  have hD : va_D A [(h0, .inr (0, [.long (z0.1), .long (z0.2.1), .long (z0.2.2.1), .long (z0.2.2.2.1), .long (z0.2.2.2.2.1), .long (z0.2.2.2.2.2.1), .int (bI z0.2.2.2.2.2.2)]))] := hD
  have hl := lv_entry ([.ref h0, .int (p1)]) (n := 12) (Nat.le_of_ble_eq_true rfl)
  rw [lg_entry_eq]
  generalize (lg_sl ([.ref h0, .int (p1)]) ++ List.replicate (12 - (lg_sl ([.ref h0, .int (p1)])).length) Slot.unset).toArray = ls at hl ⊢
  have hl : lv_has ls 12 [(0, .ref h0), (1, .int (p1))] := hl
  have K116g : ∀ (g116 : VV) (hj : f_V_signExtend z0 p1 = f_V_signExtend_116g z0 p1 g116) (H : Heap) (locs : List Loc) (hP : va_P (dC, dI) classes [(h0, .inr (0, [.long (g116.1), .long (g116.2.1), .long (g116.2.2.1), .long (g116.2.2.2.1), .long (g116.2.2.2.2.1), .long (g116.2.2.2.2.2.1), .int (bI g116.2.2.2.2.2.2)]))] H) (hD : va_D A [(h0, .inr (0, [.long (g116.1), .long (g116.2.1), .long (g116.2.2.1), .long (g116.2.2.2.1), .long (g116.2.2.2.2.1), .long (g116.2.2.2.2.2.1), .int (bI g116.2.2.2.2.2.2)]))]) (hS : va_S A s.heap H locs) (ls : Array Slot) (hl : lv_has ls 12 []), W p l e (headSpec w_V_signExtend ({ frames := 5, cells := 0, slots := 0, locals := 150 } : Room)).room s m ([.ref h0, .int (p1)] : List Value).toArray below meth c H locs 0 0 (MQ below (va_Qv (fun _ : Unit => True) (mB (dC, dI) A [(h0, vE (f_V_signExtend z0 p1))]) A) ([.ref h0, .int (p1)] : List Value).toArray s 0 0 A) (F0 m 119 ls []) := by
    intro g116 hj H locs hP hD hS ls hl
    have fe : f_V_signExtend z0 p1 = g116 := hj.trans rfl
    exact W.vret hx hb hr (fun t ht hW => ⟨⟨(), rfl, trivial, by rw [ht, fe]; (try simp only [vE_mk]); exact hP, by rw [fe]; (try simp only [vE_mk]); exact hD⟩, hS.F ht⟩) hS.2.2 d_V_signExtend_119
  have K115 : ∀ (w115_0_0 : Int64) (w115_0_1 : Int64) (w115_0_2 : Int64) (w115_0_3 : Int64) (w115_0_4 : Int64) (w115_0_5 : Int64) (w115_0_6 : Bool) (hj : f_V_signExtend z0 p1 = f_V_signExtend_115 z0 p1 w115_0_0 w115_0_1 w115_0_2 w115_0_3 w115_0_4 w115_0_5 w115_0_6) (H : Heap) (locs : List Loc) (hP : va_P (dC, dI) classes [(h0, .inr (0, [.long (w115_0_0), .long (w115_0_1), .long (w115_0_2), .long (w115_0_3), .long (w115_0_4), .long (w115_0_5), .int (bI w115_0_6)]))] H) (hD : va_D A [(h0, .inr (0, [.long (w115_0_0), .long (w115_0_1), .long (w115_0_2), .long (w115_0_3), .long (w115_0_4), .long (w115_0_5), .int (bI w115_0_6)]))]) (hS : va_S A s.heap H locs) (ls : Array Slot) (hl : lv_has ls 12 [(0, .ref h0)]), W p l e (headSpec w_V_signExtend ({ frames := 5, cells := 0, slots := 0, locals := 150 } : Room)).room s m ([.ref h0, .int (p1)] : List Value).toArray below meth c H locs 0 0 (MQ below (va_Qv (fun _ : Unit => True) (mB (dC, dI) A [(h0, vE (f_V_signExtend z0 p1))]) A) ([.ref h0, .int (p1)] : List Value).toArray s 0 0 A) (F0 m 115 ls []) := by
    intro w115_0_0 w115_0_1 w115_0_2 w115_0_3 w115_0_4 w115_0_5 w115_0_6 hj H locs hP hD hS ls hl
    refine lv_aload_n hx hb d_V_signExtend_115 rfl (lv_at hl 0 rfl) ?_
    refine mg_v (F := f_V_tighten ((w115_0_0, w115_0_1, w115_0_2, w115_0_3, w115_0_4, w115_0_5, w115_0_6))) (wc := [(h0, vE ((w115_0_0, w115_0_1, w115_0_2, w115_0_3, w115_0_4, w115_0_5, w115_0_6)))]) (w1 := fun g116 => [(h0, vE g116)]) (wr := []) (ws' := fun g116 => [(h0, .inr (0, [.long (g116.1), .long (g116.2.1), .long (g116.2.2.1), .long (g116.2.2.2.1), .long (g116.2.2.2.2.1), .long (g116.2.2.2.2.2.1), .int (bI g116.2.2.2.2.2.2)]))]) (va_runV (As := []) (rest := []) ⟨hx, hb, hml, hown, hts⟩ (c_V_tighten l dC dI h0 H.size ((w115_0_0, w115_0_1, w115_0_2, w115_0_3, w115_0_4, w115_0_5, w115_0_6))) (cwV 0 hts (gV gw180 gw113 gw114 gw1 gw115) rfl rfl rfl (by decide +kernel) ⟨(Nat.le_of_ble_eq_true rfl), (Nat.le_of_ble_eq_true rfl)⟩) ⟨blm, va_recv hK hP (ci := 0) (q0 := 0) rfl rfl, fun U hU hW => ⟨rfl, by rw [hU], by rw [hU]; exact hP.sub [0] rfl, va_K.moved hW.alike hK, (hD.sub [0] (by decide) rfl).weaken (fun _ _ _ _ => trivial)⟩⟩ rfl rfl hl.1 rfl (lv_room (Nat.le_of_ble_eq_true rfl)) d_V_signExtend_116 ⟨Nat.zero_le _, Nat.zero_le _⟩) hP hD hS hA [0] [] [0] rfl rfl (by decide) (by decide) (fun _ => rfl) (by decide) (fun g116 eg116 H locs hP hD hS => ?_)
    refine K116g g116 (Eq.trans (hj.trans rfl) (congrArg (fun g116 => f_V_signExtend_116g z0 p1 g116) eg116)) H locs ?_ ?_ hS ls (lv_sub hl [] rfl)
    · with_reducible exact hP
    · with_reducible exact hD
  have K112g : ∀ (g112 : VV) (hj : f_V_signExtend z0 p1 = f_V_signExtend_112g z0 p1 g112) (H : Heap) (locs : List Loc) (hP : va_P (dC, dI) classes [(h0, .inr (0, [.long (g112.1), .long (g112.2.1), .long (g112.2.2.1), .long (g112.2.2.2.1), .long (g112.2.2.2.2.1), .long (g112.2.2.2.2.2.1), .int (bI g112.2.2.2.2.2.2)]))] H) (hD : va_D A [(h0, .inr (0, [.long (g112.1), .long (g112.2.1), .long (g112.2.2.1), .long (g112.2.2.2.1), .long (g112.2.2.2.2.1), .long (g112.2.2.2.2.2.1), .int (bI g112.2.2.2.2.2.2)]))]) (hS : va_S A s.heap H locs) (ls : Array Slot) (hl : lv_has ls 12 [(0, .ref h0)]), W p l e (headSpec w_V_signExtend ({ frames := 5, cells := 0, slots := 0, locals := 150 } : Room)).room s m ([.ref h0, .int (p1)] : List Value).toArray below meth c H locs 0 0 (MQ below (va_Qv (fun _ : Unit => True) (mB (dC, dI) A [(h0, vE (f_V_signExtend z0 p1))]) A) ([.ref h0, .int (p1)] : List Value).toArray s 0 0 A) (F0 m 115 ls []) := by
    intro g112 hj H locs hP hD hS ls hl
    refine K115 g112.1 g112.2.1 g112.2.2.1 g112.2.2.2.1 g112.2.2.2.2.1 g112.2.2.2.2.2.1 g112.2.2.2.2.2.2 (hj.trans rfl) H locs ?_ ?_ hS ls (lv_sub hl [0] rfl)
    · with_reducible exact hP
    · with_reducible exact hD
  have K98g : ∀ (g98 : VV) (hj : f_V_signExtend z0 p1 = f_V_signExtend_98g z0 p1 g98) (H : Heap) (locs : List Loc) (hP : va_P (dC, dI) classes [(h0, .inr (0, [.long (g98.1), .long (g98.2.1), .long (g98.2.2.1), .long (g98.2.2.2.1), .long (g98.2.2.2.2.1), .long (g98.2.2.2.2.2.1), .int (bI g98.2.2.2.2.2.2)]))] H) (hD : va_D A [(h0, .inr (0, [.long (g98.1), .long (g98.2.1), .long (g98.2.2.1), .long (g98.2.2.2.1), .long (g98.2.2.2.2.1), .long (g98.2.2.2.2.2.1), .int (bI g98.2.2.2.2.2.2)]))]) (hS : va_S A s.heap H locs) (ls : Array Slot) (hl : lv_has ls 12 [(0, .ref h0)]), W p l e (headSpec w_V_signExtend ({ frames := 5, cells := 0, slots := 0, locals := 150 } : Room)).room s m ([.ref h0, .int (p1)] : List Value).toArray below meth c H locs 0 0 (MQ below (va_Qv (fun _ : Unit => True) (mB (dC, dI) A [(h0, vE (f_V_signExtend z0 p1))]) A) ([.ref h0, .int (p1)] : List Value).toArray s 0 0 A) (F0 m 101 ls []) := by
    intro g98 hj H locs hP hD hS ls hl
    refine lv_goto (tgt := 115) hx hb d_V_signExtend_101 (by decide) ?_
    refine K115 g98.1 g98.2.1 g98.2.2.1 g98.2.2.2.1 g98.2.2.2.2.1 g98.2.2.2.2.2.1 g98.2.2.2.2.2.2 (hj.trans rfl) H locs ?_ ?_ hS ls (lv_sub hl [0] rfl)
    · with_reducible exact hP
    · with_reducible exact hD
  have K67g : ∀ (g67 : VV) (hj : f_V_signExtend z0 p1 = f_V_signExtend_67g z0 p1 g67) (H : Heap) (locs : List Loc) (hP : va_P (dC, dI) classes [(h0, .inr (0, [.long (g67.1), .long (g67.2.1), .long (g67.2.2.1), .long (g67.2.2.2.1), .long (g67.2.2.2.2.1), .long (g67.2.2.2.2.2.1), .int (bI g67.2.2.2.2.2.2)]))] H) (hD : va_D A [(h0, .inr (0, [.long (g67.1), .long (g67.2.1), .long (g67.2.2.1), .long (g67.2.2.2.1), .long (g67.2.2.2.2.1), .long (g67.2.2.2.2.2.1), .int (bI g67.2.2.2.2.2.2)]))]) (hS : va_S A s.heap H locs) (ls : Array Slot) (hl : lv_has ls 12 [(0, .ref h0)]), W p l e (headSpec w_V_signExtend ({ frames := 5, cells := 0, slots := 0, locals := 150 } : Room)).room s m ([.ref h0, .int (p1)] : List Value).toArray below meth c H locs 0 0 (MQ below (va_Qv (fun _ : Unit => True) (mB (dC, dI) A [(h0, vE (f_V_signExtend z0 p1))]) A) ([.ref h0, .int (p1)] : List Value).toArray s 0 0 A) (F0 m 70 ls []) := by
    intro g67 hj H locs hP hD hS ls hl
    refine lv_goto (tgt := 115) hx hb d_V_signExtend_70 (by decide) ?_
    refine K115 g67.1 g67.2.1 g67.2.2.1 g67.2.2.2.1 g67.2.2.2.2.1 g67.2.2.2.2.2.1 g67.2.2.2.2.2.2 (hj.trans rfl) H locs ?_ ?_ hS ls (lv_sub hl [0] rfl)
    · with_reducible exact hP
    · with_reducible exact hD
  have K52g : ∀ (v21 : Int64) (x21v_4 : Int64) (x21v_2 : Int64) (g52 : VV) (hj : f_V_signExtend z0 p1 = f_V_signExtend_52g z0 p1 v21 x21v_4 x21v_2 g52) (H : Heap) (locs : List Loc) (hP : va_P (dC, dI) classes [(h0, .inr (0, [.long (g52.1), .long (g52.2.1), .long (g52.2.2.1), .long (g52.2.2.2.1), .long (g52.2.2.2.2.1), .long (g52.2.2.2.2.2.1), .int (bI g52.2.2.2.2.2.2)]))] H) (hD : va_D A [(h0, .inr (0, [.long (g52.1), .long (g52.2.1), .long (g52.2.2.1), .long (g52.2.2.2.1), .long (g52.2.2.2.2.1), .long (g52.2.2.2.2.2.1), .int (bI g52.2.2.2.2.2.2)]))]) (hS : va_S A s.heap H locs) (ls : Array Slot) (hl : lv_has ls 12 [(6, .long (v21)), (4, .long (x21v_4)), (2, .long (x21v_2)), (0, .ref h0)]), W p l e (headSpec w_V_signExtend ({ frames := 5, cells := 0, slots := 0, locals := 150 } : Room)).room s m ([.ref h0, .int (p1)] : List Value).toArray below meth c H locs 0 0 (MQ below (va_Qv (fun _ : Unit => True) (mB (dC, dI) A [(h0, vE (f_V_signExtend z0 p1))]) A) ([.ref h0, .int (p1)] : List Value).toArray s 0 0 A) (F0 m 55 ls []) := by
    intro v21 x21v_4 x21v_2 g52 hj H locs hP hD hS ls hl
    refine lv_lload hx hb d_V_signExtend_55 (lv_at hl 1 rfl) ?_
    refine lv_lload hx hb d_V_signExtend_57 (lv_at hl 0 rfl) ?_
    refine wl_ge (tgt := 73) hx hb d_V_signExtend_59 d_V_signExtend_60 (by decide) (fun e1_73 => ?_) (fun e1_73 => ?_)
    · refine lv_lload_n hx hb d_V_signExtend_73 rfl (lv_at hl 2 rfl) ?_
      refine lv_lload hx hb d_V_signExtend_74 (lv_at hl 0 rfl) ?_
      refine wl_lt (tgt := 104) hx hb d_V_signExtend_76 d_V_signExtend_77 (by decide) (fun e2_104 => ?_) (fun e2_104 => ?_)
      · refine lv_aload_n hx hb d_V_signExtend_104 rfl (lv_at hl 3 rfl) ?_
        refine lv_lload hx hb d_V_signExtend_105 (lv_at hl 0 rfl) ?_
        refine lv_lneg hx hb d_V_signExtend_107 ?_
        refine lv_lload hx hb d_V_signExtend_108 (lv_at hl 0 rfl) ?_
        refine lv_lconst (v := 1) hx hb d_V_signExtend_110 (by decide) ?_
        refine lv_lsub hx hb d_V_signExtend_111 ?_
        refine mg_v (F := f_V_saySigned g52 (-v21) (v21 - (1 : Int64))) (wc := [(h0, vE g52)]) (w1 := fun g112 => [(h0, vE g112)]) (wr := []) (ws' := fun g112 => [(h0, .inr (0, [.long (g112.1), .long (g112.2.1), .long (g112.2.2.1), .long (g112.2.2.2.1), .long (g112.2.2.2.2.1), .long (g112.2.2.2.2.2.1), .int (bI g112.2.2.2.2.2.2)]))]) (va_runV (As := [.long (-v21), .long (v21 - (1 : Int64))]) (rest := []) ⟨hx, hb, hml, hown, hts⟩ (c_V_saySigned l dC dI h0 H.size g52 (-v21) (v21 - (1 : Int64))) (cwV 2 hts (gV gw89 gw90 gw91 gw1 gw92) rfl rfl rfl (by decide +kernel) ⟨(Nat.le_of_ble_eq_true rfl), (Nat.le_of_ble_eq_true rfl)⟩) ⟨blm, va_recv hK hP (ci := 0) (q0 := 0) rfl rfl, fun U hU hW => ⟨rfl, by rw [hU], by rw [hU]; exact hP.sub [0] rfl, va_K.moved hW.alike hK, (hD.sub [0] (by decide) rfl).weaken (fun _ _ _ _ => trivial)⟩⟩ rfl rfl hl.1 rfl (lv_room (Nat.le_of_ble_eq_true rfl)) d_V_signExtend_112 ⟨Nat.zero_le _, Nat.zero_le _⟩) hP hD hS hA [0] [] [0] rfl rfl (by decide) (by decide) (fun _ => rfl) (by decide) (fun g112 eg112 H locs hP hD hS => ?_)
        refine K112g g112 (Eq.trans (hj.trans (by unfold f_V_signExtend_52g; first | with_reducible exact (if_neg e1_73).trans (if_pos e2_104) | exact (if_neg e1_73).trans (if_pos e2_104))) (congrArg (fun g112 => f_V_signExtend_112g z0 p1 g112) eg112)) H locs ?_ ?_ hS ls (lv_sub hl [3] rfl)
        · with_reducible exact hP
        · with_reducible exact hD
      · refine lv_aload_n hx hb d_V_signExtend_80 rfl (lv_at hl 3 rfl) ?_
        refine lv_lload_n hx hb d_V_signExtend_81 rfl (lv_at hl 2 rfl) ?_
        refine lv_ldc2 (v := 2) hx hb hown (hG (.constantLong R_V 113 (2)) gw182) d_V_signExtend_82 ?_
        refine lv_lload hx hb d_V_signExtend_85 (lv_at hl 0 rfl) ?_
        refine lv_lmul hx hb d_V_signExtend_87 ?_
        refine lv_lsub hx hb d_V_signExtend_88 ?_
        refine lv_lload hx hb d_V_signExtend_89 (lv_at hl 1 rfl) ?_
        refine lv_ldc2 (v := 2) hx hb hown (hG (.constantLong R_V 113 (2)) gw182) d_V_signExtend_91 ?_
        refine lv_lload hx hb d_V_signExtend_94 (lv_at hl 0 rfl) ?_
        refine lv_lmul hx hb d_V_signExtend_96 ?_
        refine lv_lsub hx hb d_V_signExtend_97 ?_
        refine mg_v (F := f_V_saySigned g52 (x21v_2 - ((2 : Int64) * v21)) (x21v_4 - ((2 : Int64) * v21))) (wc := [(h0, vE g52)]) (w1 := fun g98 => [(h0, vE g98)]) (wr := []) (ws' := fun g98 => [(h0, .inr (0, [.long (g98.1), .long (g98.2.1), .long (g98.2.2.1), .long (g98.2.2.2.1), .long (g98.2.2.2.2.1), .long (g98.2.2.2.2.2.1), .int (bI g98.2.2.2.2.2.2)]))]) (va_runV (As := [.long (x21v_2 - ((2 : Int64) * v21)), .long (x21v_4 - ((2 : Int64) * v21))]) (rest := []) ⟨hx, hb, hml, hown, hts⟩ (c_V_saySigned l dC dI h0 H.size g52 (x21v_2 - ((2 : Int64) * v21)) (x21v_4 - ((2 : Int64) * v21))) (cwV 2 hts (gV gw89 gw90 gw91 gw1 gw92) rfl rfl rfl (by decide +kernel) ⟨(Nat.le_of_ble_eq_true rfl), (Nat.le_of_ble_eq_true rfl)⟩) ⟨blm, va_recv hK hP (ci := 0) (q0 := 0) rfl rfl, fun U hU hW => ⟨rfl, by rw [hU], by rw [hU]; exact hP.sub [0] rfl, va_K.moved hW.alike hK, (hD.sub [0] (by decide) rfl).weaken (fun _ _ _ _ => trivial)⟩⟩ rfl rfl hl.1 rfl (lv_room (Nat.le_of_ble_eq_true rfl)) d_V_signExtend_98 ⟨Nat.zero_le _, Nat.zero_le _⟩) hP hD hS hA [0] [] [0] rfl rfl (by decide) (by decide) (fun _ => rfl) (by decide) (fun g98 eg98 H locs hP hD hS => ?_)
        refine K98g g98 (Eq.trans (hj.trans (by unfold f_V_signExtend_52g; first | with_reducible exact (if_neg e1_73).trans (if_neg e2_104) | exact (if_neg e1_73).trans (if_neg e2_104))) (congrArg (fun g98 => f_V_signExtend_98g z0 p1 g98) eg98)) H locs ?_ ?_ hS ls (lv_sub hl [3] rfl)
        · with_reducible exact hP
        · with_reducible exact hD
    · refine lv_aload_n hx hb d_V_signExtend_63 rfl (lv_at hl 3 rfl) ?_
      refine lv_lload_n hx hb d_V_signExtend_64 rfl (lv_at hl 2 rfl) ?_
      refine lv_lload hx hb d_V_signExtend_65 (lv_at hl 1 rfl) ?_
      refine mg_v (F := f_V_saySigned g52 x21v_2 x21v_4) (wc := [(h0, vE g52)]) (w1 := fun g67 => [(h0, vE g67)]) (wr := []) (ws' := fun g67 => [(h0, .inr (0, [.long (g67.1), .long (g67.2.1), .long (g67.2.2.1), .long (g67.2.2.2.1), .long (g67.2.2.2.2.1), .long (g67.2.2.2.2.2.1), .int (bI g67.2.2.2.2.2.2)]))]) (va_runV (As := [.long (x21v_2), .long (x21v_4)]) (rest := []) ⟨hx, hb, hml, hown, hts⟩ (c_V_saySigned l dC dI h0 H.size g52 x21v_2 x21v_4) (cwV 2 hts (gV gw89 gw90 gw91 gw1 gw92) rfl rfl rfl (by decide +kernel) ⟨(Nat.le_of_ble_eq_true rfl), (Nat.le_of_ble_eq_true rfl)⟩) ⟨blm, va_recv hK hP (ci := 0) (q0 := 0) rfl rfl, fun U hU hW => ⟨rfl, by rw [hU], by rw [hU]; exact hP.sub [0] rfl, va_K.moved hW.alike hK, (hD.sub [0] (by decide) rfl).weaken (fun _ _ _ _ => trivial)⟩⟩ rfl rfl hl.1 rfl (lv_room (Nat.le_of_ble_eq_true rfl)) d_V_signExtend_67 ⟨Nat.zero_le _, Nat.zero_le _⟩) hP hD hS hA [0] [] [0] rfl rfl (by decide) (by decide) (fun _ => rfl) (by decide) (fun g67 eg67 H locs hP hD hS => ?_)
      refine K67g g67 (Eq.trans (hj.trans (by unfold f_V_signExtend_52g; first | with_reducible exact if_pos e1_73 | exact if_pos e1_73)) (congrArg (fun g67 => f_V_signExtend_67g z0 p1 g67) eg67)) H locs ?_ ?_ hS ls (lv_sub hl [3] rfl)
      · with_reducible exact hP
      · with_reducible exact hD
  have K44g : ∀ (v41 : Int64) (v31 : Int64) (v21 : Int64) (x21v_4 : Int64) (x21v_2 : Int64) (g44 : VV) (hj : f_V_signExtend z0 p1 = f_V_signExtend_44g z0 p1 v41 v31 v21 x21v_4 x21v_2 g44) (H : Heap) (locs : List Loc) (hP : va_P (dC, dI) classes [(h0, .inr (0, [.long (g44.1), .long (g44.2.1), .long (g44.2.2.1), .long (g44.2.2.2.1), .long (g44.2.2.2.2.1), .long (g44.2.2.2.2.2.1), .int (bI g44.2.2.2.2.2.2)]))] H) (hD : va_D A [(h0, .inr (0, [.long (g44.1), .long (g44.2.1), .long (g44.2.2.1), .long (g44.2.2.2.1), .long (g44.2.2.2.2.1), .long (g44.2.2.2.2.2.1), .int (bI g44.2.2.2.2.2.2)]))]) (hS : va_S A s.heap H locs) (ls : Array Slot) (hl : lv_has ls 12 [(10, .long (v41)), (8, .long (v31)), (6, .long (v21)), (4, .long (x21v_4)), (2, .long (x21v_2)), (0, .ref h0)]), W p l e (headSpec w_V_signExtend ({ frames := 5, cells := 0, slots := 0, locals := 150 } : Room)).room s m ([.ref h0, .int (p1)] : List Value).toArray below meth c H locs 0 0 (MQ below (va_Qv (fun _ : Unit => True) (mB (dC, dI) A [(h0, vE (f_V_signExtend z0 p1))]) A) ([.ref h0, .int (p1)] : List Value).toArray s 0 0 A) (F0 m 47 ls []) := by
    intro v41 v31 v21 x21v_4 x21v_2 g44 hj H locs hP hD hS ls hl
    refine lv_aload_n hx hb d_V_signExtend_47 rfl (lv_at hl 5 rfl) ?_
    refine lv_lload hx hb d_V_signExtend_48 (lv_at hl 1 rfl) ?_
    refine lv_lload hx hb d_V_signExtend_50 (lv_at hl 0 rfl) ?_
    refine mg_v (F := f_V_sayBits g44 v31 v41) (wc := [(h0, vE g44)]) (w1 := fun g52 => [(h0, vE g52)]) (wr := []) (ws' := fun g52 => [(h0, .inr (0, [.long (g52.1), .long (g52.2.1), .long (g52.2.2.1), .long (g52.2.2.2.1), .long (g52.2.2.2.2.1), .long (g52.2.2.2.2.2.1), .int (bI g52.2.2.2.2.2.2)]))]) (va_runV (As := [.long (v31), .long (v41)]) (rest := []) ⟨hx, hb, hml, hown, hts⟩ (c_V_sayBits l dC dI h0 H.size g44 v31 v41) (cwV 2 hts (gV gw79 gw80 gw81 gw1 gw82) rfl rfl rfl (by decide +kernel) ⟨(Nat.le_of_ble_eq_true rfl), (Nat.le_of_ble_eq_true rfl)⟩) ⟨blm, va_recv hK hP (ci := 0) (q0 := 0) rfl rfl, fun U hU hW => ⟨rfl, by rw [hU], by rw [hU]; exact hP.sub [0] rfl, va_K.moved hW.alike hK, (hD.sub [0] (by decide) rfl).weaken (fun _ _ _ _ => trivial)⟩⟩ rfl rfl hl.1 rfl (lv_room (Nat.le_of_ble_eq_true rfl)) d_V_signExtend_52 ⟨Nat.zero_le _, Nat.zero_le _⟩) hP hD hS hA [0] [] [0] rfl rfl (by decide) (by decide) (fun _ => rfl) (by decide) (fun g52 eg52 H locs hP hD hS => ?_)
    refine K52g v21 x21v_4 x21v_2 g52 (Eq.trans (hj.trans rfl) (congrArg (fun g52 => f_V_signExtend_52g z0 p1 v21 x21v_4 x21v_2 g52) eg52)) H locs ?_ ?_ hS ls (lv_sub hl [2, 3, 4, 5] rfl)
    · with_reducible exact hP
    · with_reducible exact hD
  have K41v : ∀ (v41 : Int64) (v31 : Int64) (v21 : Int64) (x21v_4 : Int64) (x21v_2 : Int64) (g2 : VV) (hj : f_V_signExtend z0 p1 = f_V_signExtend_41v z0 p1 v41 v31 v21 x21v_4 x21v_2 g2) (H : Heap) (locs : List Loc) (hP : va_P (dC, dI) classes [(h0, .inr (0, [.long (g2.1), .long (g2.2.1), .long (g2.2.2.1), .long (g2.2.2.2.1), .long (g2.2.2.2.2.1), .long (g2.2.2.2.2.2.1), .int (bI g2.2.2.2.2.2.2)]))] H) (hD : va_D A [(h0, .inr (0, [.long (g2.1), .long (g2.2.1), .long (g2.2.2.1), .long (g2.2.2.2.1), .long (g2.2.2.2.2.1), .long (g2.2.2.2.2.2.1), .int (bI g2.2.2.2.2.2.2)]))]) (hS : va_S A s.heap H locs) (ls : Array Slot) (hl : lv_has ls 12 [(10, .long (v41)), (8, .long (v31)), (6, .long (v21)), (4, .long (x21v_4)), (2, .long (x21v_2)), (0, .ref h0)]), W p l e (headSpec w_V_signExtend ({ frames := 5, cells := 0, slots := 0, locals := 150 } : Room)).room s m ([.ref h0, .int (p1)] : List Value).toArray below meth c H locs 0 0 (MQ below (va_Qv (fun _ : Unit => True) (mB (dC, dI) A [(h0, vE (f_V_signExtend z0 p1))]) A) ([.ref h0, .int (p1)] : List Value).toArray s 0 0 A) (F0 m 43 ls []) := by
    intro v41 v31 v21 x21v_4 x21v_2 g2 hj H locs hP hD hS ls hl
    refine lv_aload_n hx hb d_V_signExtend_43 rfl (lv_at hl 5 rfl) ?_
    refine mg_v (F := f_V_sayAll g2) (wc := [(h0, vE g2)]) (w1 := fun g44 => [(h0, vE g44)]) (wr := []) (ws' := fun g44 => [(h0, .inr (0, [.long (g44.1), .long (g44.2.1), .long (g44.2.2.1), .long (g44.2.2.2.1), .long (g44.2.2.2.2.1), .long (g44.2.2.2.2.2.1), .int (bI g44.2.2.2.2.2.2)]))]) (va_runV (As := []) (rest := []) ⟨hx, hb, hml, hown, hts⟩ (c_V_sayAll l dC dI h0 H.size g2) (cwV 0 hts (gV gw179 gw75 gw76 gw1 gw77) rfl rfl rfl (by decide +kernel) ⟨(Nat.le_of_ble_eq_true rfl), (Nat.le_of_ble_eq_true rfl)⟩) ⟨blm, va_recv hK hP (ci := 0) (q0 := 0) rfl rfl, fun U hU hW => ⟨rfl, by rw [hU], by rw [hU]; exact hP.sub [0] rfl, va_K.moved hW.alike hK, (hD.sub [0] (by decide) rfl).weaken (fun _ _ _ _ => trivial)⟩⟩ rfl rfl hl.1 rfl (lv_room (Nat.le_of_ble_eq_true rfl)) d_V_signExtend_44 ⟨Nat.zero_le _, Nat.zero_le _⟩) hP hD hS hA [0] [] [0] rfl rfl (by decide) (by decide) (fun _ => rfl) (by decide) (fun g44 eg44 H locs hP hD hS => ?_)
    refine K44g v41 v31 v21 x21v_4 x21v_2 g44 (Eq.trans (hj.trans rfl) (congrArg (fun g44 => f_V_signExtend_44g z0 p1 v41 v31 v21 x21v_4 x21v_2 g44) eg44)) H locs ?_ ?_ hS ls (lv_sub hl [0, 1, 2, 3, 4, 5] rfl)
    · with_reducible exact hP
    · with_reducible exact hD
  have K31v : ∀ (v31 : Int64) (v21 : Int64) (x21v_4 : Int64) (x21v_2 : Int64) (g2 : VV) (hj : f_V_signExtend z0 p1 = f_V_signExtend_31v z0 p1 v31 v21 x21v_4 x21v_2 g2) (H : Heap) (locs : List Loc) (hP : va_P (dC, dI) classes [(h0, .inr (0, [.long (g2.1), .long (g2.2.1), .long (g2.2.2.1), .long (g2.2.2.2.1), .long (g2.2.2.2.2.1), .long (g2.2.2.2.2.2.1), .int (bI g2.2.2.2.2.2.2)]))] H) (hD : va_D A [(h0, .inr (0, [.long (g2.1), .long (g2.2.1), .long (g2.2.2.1), .long (g2.2.2.2.1), .long (g2.2.2.2.2.1), .long (g2.2.2.2.2.2.1), .int (bI g2.2.2.2.2.2.2)]))]) (hS : va_S A s.heap H locs) (ls : Array Slot) (hl : lv_has ls 12 [(8, .long (v31)), (6, .long (v21)), (4, .long (x21v_4)), (2, .long (x21v_2)), (0, .ref h0), (1, .int (p1))]), W p l e (headSpec w_V_signExtend ({ frames := 5, cells := 0, slots := 0, locals := 150 } : Room)).room s m ([.ref h0, .int (p1)] : List Value).toArray below meth c H locs 0 0 (MQ below (va_Qv (fun _ : Unit => True) (mB (dC, dI) A [(h0, vE (f_V_signExtend z0 p1))]) A) ([.ref h0, .int (p1)] : List Value).toArray s 0 0 A) (F0 m 33 ls []) := by
    intro v31 v21 x21v_4 x21v_2 g2 hj H locs hP hD hS ls hl
    refine lv_aload_n hx hb d_V_signExtend_33 rfl (lv_at hl 4 rfl) ?_
    refine va_get (D := (dC, dI)) (ci := 0) (v := .long (g2.2.1)) (C := R_V) (T := F_V) (N := 7) hx hb hts (fun w h => List.mem_cons_of_mem _ (uw_V w h)) hown hK hP 0 rfl rfl 1 (by decide) (hG (.fieldLink R_V 13 "ValueSieve$Value" "unknown" "J") gw21) (fun _ h9 => h9) rfl d_V_signExtend_34 ?_
    refine lv_iload_n hx hb d_V_signExtend_37 rfl (lv_at hl 5 rfl) ?_
    refine rc_l (W.runS (As := [.long (g2.2.1), .int (p1)]) (rest := []) ⟨hx, hb, hml, hown, hts⟩ (c_N_extended l g2.2.1 p1) (va_cwS 2 hts (gS gw181 gw162 gw2 gw163) rfl rfl rfl (by decide +kernel) ⟨(Nat.le_of_ble_eq_true rfl), (Nat.le_of_ble_eq_true rfl)⟩) ⟨bl0, fun U hU hW => ⟨rfl, trivial⟩⟩ rfl rfl hl.1 rfl (lv_room (Nat.le_of_ble_eq_true rfl)) d_V_signExtend_38 ⟨Nat.zero_le _, Nat.zero_le _⟩) ?_
    refine lv_topl (fun v41 ev41 => ?_)
    refine lv_lstore (lv' := [(10, .long (v41)), (8, .long (v31)), (6, .long (v21)), (4, .long (x21v_4)), (2, .long (x21v_2)), (0, .ref h0), (1, .int (p1))]) hx hb d_V_signExtend_41 hl (by decide) rfl (fun ls hl => ?_)
    refine K41v v41 v31 v21 x21v_4 x21v_2 g2 (Eq.trans (hj.trans rfl) (congrArg (fun v41 => f_V_signExtend_41v z0 p1 v41 v31 v21 x21v_4 x21v_2 g2) ev41.symm)) H locs ?_ ?_ hS ls (lv_sub hl [0, 1, 2, 3, 4, 5] rfl)
    · with_reducible exact hP
    · with_reducible exact hD
  have K21v : ∀ (v21 : Int64) (x21v_4 : Int64) (x21v_2 : Int64) (g2 : VV) (hj : f_V_signExtend z0 p1 = f_V_signExtend_21v z0 p1 v21 x21v_4 x21v_2 g2) (H : Heap) (locs : List Loc) (hP : va_P (dC, dI) classes [(h0, .inr (0, [.long (g2.1), .long (g2.2.1), .long (g2.2.2.1), .long (g2.2.2.2.1), .long (g2.2.2.2.2.1), .long (g2.2.2.2.2.2.1), .int (bI g2.2.2.2.2.2.2)]))] H) (hD : va_D A [(h0, .inr (0, [.long (g2.1), .long (g2.2.1), .long (g2.2.2.1), .long (g2.2.2.2.1), .long (g2.2.2.2.2.1), .long (g2.2.2.2.2.2.1), .int (bI g2.2.2.2.2.2.2)]))]) (hS : va_S A s.heap H locs) (ls : Array Slot) (hl : lv_has ls 12 [(6, .long (v21)), (4, .long (x21v_4)), (2, .long (x21v_2)), (0, .ref h0), (1, .int (p1))]), W p l e (headSpec w_V_signExtend ({ frames := 5, cells := 0, slots := 0, locals := 150 } : Room)).room s m ([.ref h0, .int (p1)] : List Value).toArray below meth c H locs 0 0 (MQ below (va_Qv (fun _ : Unit => True) (mB (dC, dI) A [(h0, vE (f_V_signExtend z0 p1))]) A) ([.ref h0, .int (p1)] : List Value).toArray s 0 0 A) (F0 m 23 ls []) := by
    intro v21 x21v_4 x21v_2 g2 hj H locs hP hD hS ls hl
    refine lv_aload_n hx hb d_V_signExtend_23 rfl (lv_at hl 3 rfl) ?_
    refine va_get (D := (dC, dI)) (ci := 0) (v := .long (g2.1)) (C := R_V) (T := F_V) (N := 7) hx hb hts (fun w h => List.mem_cons_of_mem _ (uw_V w h)) hown hK hP 0 rfl rfl 0 (by decide) (hG (.fieldLink R_V 7 "ValueSieve$Value" "bits" "J") gw18) (fun _ h9 => h9) rfl d_V_signExtend_24 ?_
    refine lv_iload_n hx hb d_V_signExtend_27 rfl (lv_at hl 4 rfl) ?_
    refine rc_l (W.runS (As := [.long (g2.1), .int (p1)]) (rest := []) ⟨hx, hb, hml, hown, hts⟩ (c_N_extended l g2.1 p1) (va_cwS 2 hts (gS gw181 gw162 gw2 gw163) rfl rfl rfl (by decide +kernel) ⟨(Nat.le_of_ble_eq_true rfl), (Nat.le_of_ble_eq_true rfl)⟩) ⟨bl0, fun U hU hW => ⟨rfl, trivial⟩⟩ rfl rfl hl.1 rfl (lv_room (Nat.le_of_ble_eq_true rfl)) d_V_signExtend_28 ⟨Nat.zero_le _, Nat.zero_le _⟩) ?_
    refine lv_topl (fun v31 ev31 => ?_)
    refine lv_lstore (lv' := [(8, .long (v31)), (6, .long (v21)), (4, .long (x21v_4)), (2, .long (x21v_2)), (0, .ref h0), (1, .int (p1))]) hx hb d_V_signExtend_31 hl (by decide) rfl (fun ls hl => ?_)
    refine K31v v31 v21 x21v_4 x21v_2 g2 (Eq.trans (hj.trans rfl) (congrArg (fun v31 => f_V_signExtend_31v z0 p1 v31 v21 x21v_4 x21v_2 g2) ev31.symm)) H locs ?_ ?_ hS ls (lv_sub hl [0, 1, 2, 3, 4, 5] rfl)
    · with_reducible exact hP
    · with_reducible exact hD
  have K2g : ∀ (g2 : VV) (hj : f_V_signExtend z0 p1 = f_V_signExtend_2g z0 p1 g2) (H : Heap) (locs : List Loc) (hP : va_P (dC, dI) classes [(h0, .inr (0, [.long (g2.1), .long (g2.2.1), .long (g2.2.2.1), .long (g2.2.2.2.1), .long (g2.2.2.2.2.1), .long (g2.2.2.2.2.2.1), .int (bI g2.2.2.2.2.2.2)]))] H) (hD : va_D A [(h0, .inr (0, [.long (g2.1), .long (g2.2.1), .long (g2.2.2.1), .long (g2.2.2.2.1), .long (g2.2.2.2.2.1), .long (g2.2.2.2.2.2.1), .int (bI g2.2.2.2.2.2.2)]))]) (hS : va_S A s.heap H locs) (ls : Array Slot) (hl : lv_has ls 12 [(0, .ref h0), (1, .int (p1))]), W p l e (headSpec w_V_signExtend ({ frames := 5, cells := 0, slots := 0, locals := 150 } : Room)).room s m ([.ref h0, .int (p1)] : List Value).toArray below meth c H locs 0 0 (MQ below (va_Qv (fun _ : Unit => True) (mB (dC, dI) A [(h0, vE (f_V_signExtend z0 p1))]) A) ([.ref h0, .int (p1)] : List Value).toArray s 0 0 A) (F0 m 5 ls []) := by
    intro g2 hj H locs hP hD hS ls hl
    refine lv_aload_n hx hb d_V_signExtend_5 rfl (lv_at hl 0 rfl) ?_
    refine va_get (D := (dC, dI)) (ci := 0) (v := .long (g2.2.2.1)) (C := R_V) (T := F_V) (N := 7) hx hb hts (fun w h => List.mem_cons_of_mem _ (uw_V w h)) hown hK hP 0 rfl rfl 2 (by decide) (hG (.fieldLink R_V 16 "ValueSieve$Value" "low" "J") gw25) (fun _ h9 => h9) rfl d_V_signExtend_6 ?_
    refine lv_lstore_n (lv' := [(2, .long (g2.2.2.1)), (0, .ref h0), (1, .int (p1))]) hx hb d_V_signExtend_9 rfl hl (by decide) rfl (fun ls hl => ?_)
    refine lv_aload_n hx hb d_V_signExtend_10 rfl (lv_at hl 1 rfl) ?_
    refine va_get (D := (dC, dI)) (ci := 0) (v := .long (g2.2.2.2.1)) (C := R_V) (T := F_V) (N := 7) hx hb hts (fun w h => List.mem_cons_of_mem _ (uw_V w h)) hown hK hP 0 rfl rfl 3 (by decide) (hG (.fieldLink R_V 19 "ValueSieve$Value" "high" "J") gw29) (fun _ h9 => h9) rfl d_V_signExtend_11 ?_
    refine lv_lstore (lv' := [(4, .long (g2.2.2.2.1)), (2, .long (g2.2.2.1)), (0, .ref h0), (1, .int (p1))]) hx hb d_V_signExtend_14 hl (by decide) rfl (fun ls hl => ?_)
    refine lv_lconst (v := 1) hx hb d_V_signExtend_16 (by decide) ?_
    refine lv_iload_n hx hb d_V_signExtend_17 rfl (lv_at hl 3 rfl) ?_
    refine lv_iconst (v := 1) hx hb d_V_signExtend_18 (by decide) ?_
    refine lv_isub hx hb d_V_signExtend_19 ?_
    refine lv_lshl (v := (1 : Int64) <<< ((p1 - (1 : Int32)).toInt64 &&& 63)) hx hb d_V_signExtend_20 rfl ?_
    refine lv_topl (fun v21 ev21 => ?_)
    refine lv_lstore (lv' := [(6, .long (v21)), (4, .long (g2.2.2.2.1)), (2, .long (g2.2.2.1)), (0, .ref h0), (1, .int (p1))]) hx hb d_V_signExtend_21 hl (by decide) rfl (fun ls hl => ?_)
    refine K21v v21 g2.2.2.2.1 g2.2.2.1 g2 (Eq.trans (hj.trans rfl) (congrArg (fun v21 => f_V_signExtend_21v z0 p1 v21 g2.2.2.2.1 g2.2.2.1 g2) ev21.symm)) H locs ?_ ?_ hS ls (lv_sub hl [0, 1, 2, 3, 4] rfl)
    · with_reducible exact hP
    · with_reducible exact hD
  refine lv_aload_n hx hb d_V_signExtend_0 rfl (lv_at hl 0 rfl) ?_
  refine lv_iload_n hx hb d_V_signExtend_1 rfl (lv_at hl 1 rfl) ?_
  refine mg_v (F := f_V_trim z0 p1) (wc := [(h0, vE z0)]) (w1 := fun g2 => [(h0, vE g2)]) (wr := []) (ws' := fun g2 => [(h0, .inr (0, [.long (g2.1), .long (g2.2.1), .long (g2.2.2.1), .long (g2.2.2.2.1), .long (g2.2.2.2.2.1), .long (g2.2.2.2.2.2.1), .int (bI g2.2.2.2.2.2.2)]))]) (va_runV (As := [.int (p1)]) (rest := []) ⟨hx, hb, hml, hown, hts⟩ (c_V_trim l dC dI h0 s.heap.size z0 p1) (cwV 1 hts (gV gw174 gw175 gw176 gw1 gw177) rfl rfl rfl (by decide +kernel) ⟨(Nat.le_of_ble_eq_true rfl), (Nat.le_of_ble_eq_true rfl)⟩) ⟨blm, va_recv hK hP (ci := 0) (q0 := 0) rfl rfl, fun U hU hW => ⟨rfl, by rw [hU], by rw [hU]; exact hP.sub [0] rfl, va_K.moved hW.alike hK, (hD.sub [0] (by decide) rfl).weaken (fun _ _ _ _ => trivial)⟩⟩ rfl rfl hl.1 rfl (lv_room (Nat.le_of_ble_eq_true rfl)) d_V_signExtend_2 ⟨Nat.zero_le _, Nat.zero_le _⟩) hP hD hS hA [0] [] [0] rfl rfl (by decide) (by decide) (fun _ => rfl) (by decide) (fun g2 eg2 H locs hP hD hS => ?_)
  refine K2g g2 (Eq.trans (rfl) (congrArg (fun g2 => f_V_signExtend_2g z0 p1 g2) eg2)) H locs ?_ ?_ hS ls (lv_sub hl [0, 1] rfl)
  · with_reducible exact hP
  · with_reducible exact hD
-- ValueSieve$Value.spread
theorem d_V_spread_0 : decode b_V_spread 0 = .ok (.aload_n 0, 1) := by decide +kernel
theorem d_V_spread_1 : decode b_V_spread 1 = .ok (.aload_n 0, 1) := by decide +kernel
theorem d_V_spread_2 : decode b_V_spread 2 = .ok (.getfield 7, 3) := by decide +kernel
theorem d_V_spread_5 : decode b_V_spread 5 = .ok (.aload_n 0, 1) := by decide +kernel
theorem d_V_spread_6 : decode b_V_spread 6 = .ok (.getfield 13, 3) := by decide +kernel
theorem d_V_spread_9 : decode b_V_spread 9 = .ok (.aload_n 1, 1) := by decide +kernel
theorem d_V_spread_10 : decode b_V_spread 10 = .ok (.getfield 13, 3) := by decide +kernel
theorem d_V_spread_13 : decode b_V_spread 13 = .ok (.lor, 1) := by decide +kernel
theorem d_V_spread_14 : decode b_V_spread 14 = .ok (.aload_n 0, 1) := by decide +kernel
theorem d_V_spread_15 : decode b_V_spread 15 = .ok (.getfield 7, 3) := by decide +kernel
theorem d_V_spread_18 : decode b_V_spread 18 = .ok (.aload_n 1, 1) := by decide +kernel
theorem d_V_spread_19 : decode b_V_spread 19 = .ok (.getfield 7, 3) := by decide +kernel
theorem d_V_spread_22 : decode b_V_spread 22 = .ok (.lxor, 1) := by decide +kernel
theorem d_V_spread_23 : decode b_V_spread 23 = .ok (.lor, 1) := by decide +kernel
theorem d_V_spread_24 : decode b_V_spread 24 = .ok (.invokevirtual 34, 3) := by decide +kernel
theorem d_V_spread_27 : decode b_V_spread 27 = .ok (.aload_n 1, 1) := by decide +kernel
theorem d_V_spread_28 : decode b_V_spread 28 = .ok (.getfield 16, 3) := by decide +kernel
theorem d_V_spread_31 : decode b_V_spread 31 = .ok (.aload_n 0, 1) := by decide +kernel
theorem d_V_spread_32 : decode b_V_spread 32 = .ok (.getfield 16, 3) := by decide +kernel
theorem d_V_spread_35 : decode b_V_spread 35 = .ok (.invokestatic 50, 3) := by decide +kernel
theorem d_V_spread_38 : decode b_V_spread 38 = .ok (.ifCond .eq 19, 3) := by decide +kernel
theorem d_V_spread_41 : decode b_V_spread 41 = .ok (.aload_n 0, 1) := by decide +kernel
theorem d_V_spread_42 : decode b_V_spread 42 = .ok (.iload_n 2, 1) := by decide +kernel
theorem d_V_spread_43 : decode b_V_spread 43 = .ok (.ifCond .eq 7, 3) := by decide +kernel
theorem d_V_spread_46 : decode b_V_spread 46 = .ok (.lconst 0, 1) := by decide +kernel
theorem d_V_spread_47 : decode b_V_spread 47 = .ok (.goto 7, 3) := by decide +kernel
theorem d_V_spread_50 : decode b_V_spread 50 = .ok (.aload_n 1, 1) := by decide +kernel
theorem d_V_spread_51 : decode b_V_spread 51 = .ok (.getfield 16, 3) := by decide +kernel
theorem d_V_spread_54 : decode b_V_spread 54 = .ok (.putfield 16, 3) := by decide +kernel
theorem d_V_spread_57 : decode b_V_spread 57 = .ok (.aload_n 0, 1) := by decide +kernel
theorem d_V_spread_58 : decode b_V_spread 58 = .ok (.getfield 19, 3) := by decide +kernel
theorem d_V_spread_61 : decode b_V_spread 61 = .ok (.aload_n 1, 1) := by decide +kernel
theorem d_V_spread_62 : decode b_V_spread 62 = .ok (.getfield 19, 3) := by decide +kernel
theorem d_V_spread_65 : decode b_V_spread 65 = .ok (.invokestatic 50, 3) := by decide +kernel
theorem d_V_spread_68 : decode b_V_spread 68 = .ok (.ifCond .eq 21, 3) := by decide +kernel
theorem d_V_spread_71 : decode b_V_spread 71 = .ok (.aload_n 0, 1) := by decide +kernel
theorem d_V_spread_72 : decode b_V_spread 72 = .ok (.iload_n 2, 1) := by decide +kernel
theorem d_V_spread_73 : decode b_V_spread 73 = .ok (.ifCond .eq 9, 3) := by decide +kernel
theorem d_V_spread_76 : decode b_V_spread 76 = .ok (.ldc2_w 32, 3) := by decide +kernel
theorem d_V_spread_79 : decode b_V_spread 79 = .ok (.goto 7, 3) := by decide +kernel
theorem d_V_spread_82 : decode b_V_spread 82 = .ok (.aload_n 1, 1) := by decide +kernel
theorem d_V_spread_83 : decode b_V_spread 83 = .ok (.getfield 19, 3) := by decide +kernel
theorem d_V_spread_86 : decode b_V_spread 86 = .ok (.putfield 19, 3) := by decide +kernel
theorem d_V_spread_89 : decode b_V_spread 89 = .ok (.aload_n 1, 1) := by decide +kernel
theorem d_V_spread_90 : decode b_V_spread 90 = .ok (.getfield 22, 3) := by decide +kernel
theorem d_V_spread_93 : decode b_V_spread 93 = .ok (.aload_n 0, 1) := by decide +kernel
theorem d_V_spread_94 : decode b_V_spread 94 = .ok (.getfield 22, 3) := by decide +kernel
theorem d_V_spread_97 : decode b_V_spread 97 = .ok (.lcmp, 1) := by decide +kernel
theorem d_V_spread_98 : decode b_V_spread 98 = .ok (.ifCond .ge 21, 3) := by decide +kernel
theorem d_V_spread_101 : decode b_V_spread 101 = .ok (.aload_n 0, 1) := by decide +kernel
theorem d_V_spread_102 : decode b_V_spread 102 = .ok (.iload_n 2, 1) := by decide +kernel
theorem d_V_spread_103 : decode b_V_spread 103 = .ok (.ifCond .eq 9, 3) := by decide +kernel
theorem d_V_spread_106 : decode b_V_spread 106 = .ok (.ldc2_w 43, 3) := by decide +kernel
theorem d_V_spread_109 : decode b_V_spread 109 = .ok (.goto 7, 3) := by decide +kernel
theorem d_V_spread_112 : decode b_V_spread 112 = .ok (.aload_n 1, 1) := by decide +kernel
theorem d_V_spread_113 : decode b_V_spread 113 = .ok (.getfield 22, 3) := by decide +kernel
theorem d_V_spread_116 : decode b_V_spread 116 = .ok (.putfield 22, 3) := by decide +kernel
theorem d_V_spread_119 : decode b_V_spread 119 = .ok (.aload_n 1, 1) := by decide +kernel
theorem d_V_spread_120 : decode b_V_spread 120 = .ok (.getfield 25, 3) := by decide +kernel
theorem d_V_spread_123 : decode b_V_spread 123 = .ok (.aload_n 0, 1) := by decide +kernel
theorem d_V_spread_124 : decode b_V_spread 124 = .ok (.getfield 25, 3) := by decide +kernel
theorem d_V_spread_127 : decode b_V_spread 127 = .ok (.lcmp, 1) := by decide +kernel
theorem d_V_spread_128 : decode b_V_spread 128 = .ok (.ifCond .le 21, 3) := by decide +kernel
theorem d_V_spread_131 : decode b_V_spread 131 = .ok (.aload_n 0, 1) := by decide +kernel
theorem d_V_spread_132 : decode b_V_spread 132 = .ok (.iload_n 2, 1) := by decide +kernel
theorem d_V_spread_133 : decode b_V_spread 133 = .ok (.ifCond .eq 9, 3) := by decide +kernel
theorem d_V_spread_136 : decode b_V_spread 136 = .ok (.ldc2_w 45, 3) := by decide +kernel
theorem d_V_spread_139 : decode b_V_spread 139 = .ok (.goto 7, 3) := by decide +kernel
theorem d_V_spread_142 : decode b_V_spread 142 = .ok (.aload_n 1, 1) := by decide +kernel
theorem d_V_spread_143 : decode b_V_spread 143 = .ok (.getfield 25, 3) := by decide +kernel
theorem d_V_spread_146 : decode b_V_spread 146 = .ok (.putfield 25, 3) := by decide +kernel
theorem d_V_spread_149 : decode b_V_spread 149 = .ok (.aload_n 0, 1) := by decide +kernel
theorem d_V_spread_150 : decode b_V_spread 150 = .ok (.invokevirtual 102, 3) := by decide +kernel
theorem d_V_spread_153 : decode b_V_spread 153 = .ok (.return_, 1) := by decide +kernel
def f_V_spread_150g (z0 : VV) (z1 : VV) (p2 : Int32) (g150 : VV) : VV := g150
def f_V_spread_149 (z0 : VV) (z1 : VV) (p2 : Int32) (w149_0_0 : Int64) (w149_0_1 : Int64) (w149_0_2 : Int64) (w149_0_3 : Int64) (w149_0_4 : Int64) (w149_0_5 : Int64) (w149_0_6 : Bool) : VV := f_V_spread_150g z0 z1 p2 (f_V_tighten ((w149_0_0, w149_0_1, w149_0_2, w149_0_3, w149_0_4, w149_0_5, w149_0_6)))
def f_V_spread_146 (z0 : VV) (z1 : VV) (p2 : Int32) (s146_0 : Int64) (w146_0_0 : Int64) (w146_0_1 : Int64) (w146_0_2 : Int64) (w146_0_3 : Int64) (w146_0_4 : Int64) (w146_0_5 : Int64) (w146_0_6 : Bool) : VV := f_V_spread_149 z0 z1 p2 w146_0_0 w146_0_1 w146_0_2 w146_0_3 w146_0_4 s146_0 w146_0_6
def f_V_spread_119 (z0 : VV) (z1 : VV) (p2 : Int32) (w119_0_0 : Int64) (w119_0_1 : Int64) (w119_0_2 : Int64) (w119_0_3 : Int64) (w119_0_4 : Int64) (w119_0_5 : Int64) (w119_0_6 : Bool) : VV := (if w119_0_5 < z1.2.2.2.2.2.1 then (if p2 = 0 then f_V_spread_146 z0 z1 p2 z1.2.2.2.2.2.1 w119_0_0 w119_0_1 w119_0_2 w119_0_3 w119_0_4 w119_0_5 w119_0_6 else f_V_spread_146 z0 z1 p2 9223372036854775807 w119_0_0 w119_0_1 w119_0_2 w119_0_3 w119_0_4 w119_0_5 w119_0_6) else f_V_spread_149 z0 z1 p2 w119_0_0 w119_0_1 w119_0_2 w119_0_3 w119_0_4 w119_0_5 w119_0_6)
def f_V_spread_116 (z0 : VV) (z1 : VV) (p2 : Int32) (s116_0 : Int64) (w116_0_0 : Int64) (w116_0_1 : Int64) (w116_0_2 : Int64) (w116_0_3 : Int64) (w116_0_4 : Int64) (w116_0_5 : Int64) (w116_0_6 : Bool) : VV := f_V_spread_119 z0 z1 p2 w116_0_0 w116_0_1 w116_0_2 w116_0_3 s116_0 w116_0_5 w116_0_6
def f_V_spread_89 (z0 : VV) (z1 : VV) (p2 : Int32) (w89_0_0 : Int64) (w89_0_1 : Int64) (w89_0_2 : Int64) (w89_0_3 : Int64) (w89_0_4 : Int64) (w89_0_5 : Int64) (w89_0_6 : Bool) : VV := (if z1.2.2.2.2.1 < w89_0_4 then (if p2 = 0 then f_V_spread_116 z0 z1 p2 z1.2.2.2.2.1 w89_0_0 w89_0_1 w89_0_2 w89_0_3 w89_0_4 w89_0_5 w89_0_6 else f_V_spread_116 z0 z1 p2 (-9223372036854775808) w89_0_0 w89_0_1 w89_0_2 w89_0_3 w89_0_4 w89_0_5 w89_0_6) else f_V_spread_119 z0 z1 p2 w89_0_0 w89_0_1 w89_0_2 w89_0_3 w89_0_4 w89_0_5 w89_0_6)
def f_V_spread_86 (z0 : VV) (z1 : VV) (p2 : Int32) (s86_0 : Int64) (w86_0_0 : Int64) (w86_0_1 : Int64) (w86_0_2 : Int64) (w86_0_3 : Int64) (w86_0_4 : Int64) (w86_0_5 : Int64) (w86_0_6 : Bool) : VV := f_V_spread_89 z0 z1 p2 w86_0_0 w86_0_1 w86_0_2 s86_0 w86_0_4 w86_0_5 w86_0_6
def f_V_spread_57 (z0 : VV) (z1 : VV) (p2 : Int32) (w57_0_0 : Int64) (w57_0_1 : Int64) (w57_0_2 : Int64) (w57_0_3 : Int64) (w57_0_4 : Int64) (w57_0_5 : Int64) (w57_0_6 : Bool) : VV := (if (f_N_below w57_0_3 z1.2.2.2.1) = 0 then f_V_spread_89 z0 z1 p2 w57_0_0 w57_0_1 w57_0_2 w57_0_3 w57_0_4 w57_0_5 w57_0_6 else (if p2 = 0 then f_V_spread_86 z0 z1 p2 z1.2.2.2.1 w57_0_0 w57_0_1 w57_0_2 w57_0_3 w57_0_4 w57_0_5 w57_0_6 else f_V_spread_86 z0 z1 p2 (-1) w57_0_0 w57_0_1 w57_0_2 w57_0_3 w57_0_4 w57_0_5 w57_0_6))
def f_V_spread_54 (z0 : VV) (z1 : VV) (p2 : Int32) (s54_0 : Int64) (g24 : VV) : VV := f_V_spread_57 z0 z1 p2 g24.1 g24.2.1 s54_0 g24.2.2.2.1 g24.2.2.2.2.1 g24.2.2.2.2.2.1 g24.2.2.2.2.2.2
def f_V_spread_24g (z0 : VV) (z1 : VV) (p2 : Int32) (g24 : VV) : VV := (if (f_N_below z1.2.2.1 g24.2.2.1) = 0 then f_V_spread_57 z0 z1 p2 g24.1 g24.2.1 g24.2.2.1 g24.2.2.2.1 g24.2.2.2.2.1 g24.2.2.2.2.2.1 g24.2.2.2.2.2.2 else (if p2 = 0 then f_V_spread_54 z0 z1 p2 z1.2.2.1 g24 else f_V_spread_54 z0 z1 p2 0 g24))
def f_V_spread (z0 : VV) (z1 : VV) (p2 : Int32) : VV := f_V_spread_24g z0 z1 p2 (f_V_sayBits z0 z0.1 ((z0.2.1 ||| z1.2.1) ||| (z0.1 ^^^ z1.1)))
set_option maxRecDepth 100000 in
set_option maxHeartbeats 4000000 in
theorem c_V_spread (l : Launch) (dC : Nat → ClassId) (dI : Nat → Nat → Nat) (h0 : Nat) (h1 : Nat) (sz : Nat) (z0 : VV) (z1 : VV) (p2 : Int32) : Met l y_V_spread w_V_spread ({ frames := 4, cells := 0, slots := 0, locals := 118 } : Room) (va_Pc [.ref h0, .ref h1, .int (p2)] (mP (dC, dI) [(h0, vE z0), (h1, vE z1)] sz)) (va_Qv (fun _ : Unit => True) (mB (dC, dI) (va_A [(h0, vE z0), (h1, vE z1)] sz) [(h0, vE (f_V_spread z0 z1 p2)), (h1, vE z1)]) (va_A [(h0, vE z0), (h1, vE z1)] sz)) 0 0 (va_A [(h0, vE z0), (h1, vE z1)] sz) := by
  refine Met.ofW (cc := b_V_spread) (maxL := 3) (ret := none) (by decide) rfl ?_
  intro p e s m args below meth c s₁ B hml hv
  obtain ⟨rfl, hsz, hP, hK, hD0⟩ := hv
  have hx := B.exec
  have hb := B.bytes
  have hr := B.returns
  have hts := atoms_spec (ws := w_V_spread) B.pre
  have hG : ∀ w ∈ gG, w.before _ s = true := fun w h => hts w (List.mem_cons_of_mem _ h)
  have hown : s.vm.findClass R_V = some m.cls := findClass_of_methodNamed B.named
  have hlocks := B.notSynchronized
  subst hsz
  have hD := hD0.self (sz := s.heap.size)
  generalize hAe : va_A [(h0, vE z0), (h1, vE z1)] s.heap.size = A at hD ⊢
  have hA : ∀ q : Nat, s.heap.size ≤ q → A q := fun q h => by rw [← hAe]; exact Or.inr h
  have hS : va_S A s.heap s.heap [] := va_S.rf
  have hP : va_P (dC, dI) classes [(h0, .inr (0, [.long (z0.1), .long (z0.2.1), .long (z0.2.2.1), .long (z0.2.2.2.1), .long (z0.2.2.2.2.1), .long (z0.2.2.2.2.2.1), .int (bI z0.2.2.2.2.2.2)])), (h1, .inr (0, [.long (z1.1), .long (z1.2.1), .long (z1.2.2.1), .long (z1.2.2.2.1), .long (z1.2.2.2.2.1), .long (z1.2.2.2.2.2.1), .int (bI z1.2.2.2.2.2.2)]))] s.heap := hP
  have hD : va_D A [(h0, .inr (0, [.long (z0.1), .long (z0.2.1), .long (z0.2.2.1), .long (z0.2.2.2.1), .long (z0.2.2.2.2.1), .long (z0.2.2.2.2.2.1), .int (bI z0.2.2.2.2.2.2)])), (h1, .inr (0, [.long (z1.1), .long (z1.2.1), .long (z1.2.2.1), .long (z1.2.2.2.1), .long (z1.2.2.2.2.1), .long (z1.2.2.2.2.2.1), .int (bI z1.2.2.2.2.2.2)]))] := hD
  have hl := lv_entry ([.ref h0, .ref h1, .int (p2)]) (n := 3) (Nat.le_of_ble_eq_true rfl)
  rw [lg_entry_eq]
  generalize (lg_sl ([.ref h0, .ref h1, .int (p2)]) ++ List.replicate (3 - (lg_sl ([.ref h0, .ref h1, .int (p2)])).length) Slot.unset).toArray = ls at hl ⊢
  have hl : lv_has ls 3 [(0, .ref h0), (1, .ref h1), (2, .int (p2))] := hl
  have K150g : ∀ (g150 : VV) (hj : f_V_spread z0 z1 p2 = f_V_spread_150g z0 z1 p2 g150) (H : Heap) (locs : List Loc) (hP : va_P (dC, dI) classes [(h0, .inr (0, [.long (g150.1), .long (g150.2.1), .long (g150.2.2.1), .long (g150.2.2.2.1), .long (g150.2.2.2.2.1), .long (g150.2.2.2.2.2.1), .int (bI g150.2.2.2.2.2.2)])), (h1, .inr (0, [.long (z1.1), .long (z1.2.1), .long (z1.2.2.1), .long (z1.2.2.2.1), .long (z1.2.2.2.2.1), .long (z1.2.2.2.2.2.1), .int (bI z1.2.2.2.2.2.2)]))] H) (hD : va_D A [(h0, .inr (0, [.long (g150.1), .long (g150.2.1), .long (g150.2.2.1), .long (g150.2.2.2.1), .long (g150.2.2.2.2.1), .long (g150.2.2.2.2.2.1), .int (bI g150.2.2.2.2.2.2)])), (h1, .inr (0, [.long (z1.1), .long (z1.2.1), .long (z1.2.2.1), .long (z1.2.2.2.1), .long (z1.2.2.2.2.1), .long (z1.2.2.2.2.2.1), .int (bI z1.2.2.2.2.2.2)]))]) (hS : va_S A s.heap H locs) (ls : Array Slot) (hl : lv_has ls 3 []), W p l e (headSpec w_V_spread ({ frames := 4, cells := 0, slots := 0, locals := 118 } : Room)).room s m ([.ref h0, .ref h1, .int (p2)] : List Value).toArray below meth c H locs 0 0 (MQ below (va_Qv (fun _ : Unit => True) (mB (dC, dI) A [(h0, vE (f_V_spread z0 z1 p2)), (h1, vE z1)]) A) ([.ref h0, .ref h1, .int (p2)] : List Value).toArray s 0 0 A) (F0 m 153 ls []) := by
    intro g150 hj H locs hP hD hS ls hl
    have fe : f_V_spread z0 z1 p2 = g150 := hj.trans rfl
    exact W.vret hx hb hr (fun t ht hW => ⟨⟨(), rfl, trivial, by rw [ht, fe]; (try simp only [vE_mk]); exact hP, by rw [fe]; (try simp only [vE_mk]); exact hD⟩, hS.F ht⟩) hS.2.2 d_V_spread_153
  have K149 : ∀ (w149_0_0 : Int64) (w149_0_1 : Int64) (w149_0_2 : Int64) (w149_0_3 : Int64) (w149_0_4 : Int64) (w149_0_5 : Int64) (w149_0_6 : Bool) (hj : f_V_spread z0 z1 p2 = f_V_spread_149 z0 z1 p2 w149_0_0 w149_0_1 w149_0_2 w149_0_3 w149_0_4 w149_0_5 w149_0_6) (H : Heap) (locs : List Loc) (hP : va_P (dC, dI) classes [(h0, .inr (0, [.long (w149_0_0), .long (w149_0_1), .long (w149_0_2), .long (w149_0_3), .long (w149_0_4), .long (w149_0_5), .int (bI w149_0_6)])), (h1, .inr (0, [.long (z1.1), .long (z1.2.1), .long (z1.2.2.1), .long (z1.2.2.2.1), .long (z1.2.2.2.2.1), .long (z1.2.2.2.2.2.1), .int (bI z1.2.2.2.2.2.2)]))] H) (hD : va_D A [(h0, .inr (0, [.long (w149_0_0), .long (w149_0_1), .long (w149_0_2), .long (w149_0_3), .long (w149_0_4), .long (w149_0_5), .int (bI w149_0_6)])), (h1, .inr (0, [.long (z1.1), .long (z1.2.1), .long (z1.2.2.1), .long (z1.2.2.2.1), .long (z1.2.2.2.2.1), .long (z1.2.2.2.2.2.1), .int (bI z1.2.2.2.2.2.2)]))]) (hS : va_S A s.heap H locs) (ls : Array Slot) (hl : lv_has ls 3 [(0, .ref h0)]), W p l e (headSpec w_V_spread ({ frames := 4, cells := 0, slots := 0, locals := 118 } : Room)).room s m ([.ref h0, .ref h1, .int (p2)] : List Value).toArray below meth c H locs 0 0 (MQ below (va_Qv (fun _ : Unit => True) (mB (dC, dI) A [(h0, vE (f_V_spread z0 z1 p2)), (h1, vE z1)]) A) ([.ref h0, .ref h1, .int (p2)] : List Value).toArray s 0 0 A) (F0 m 149 ls []) := by
    intro w149_0_0 w149_0_1 w149_0_2 w149_0_3 w149_0_4 w149_0_5 w149_0_6 hj H locs hP hD hS ls hl
    refine lv_aload_n hx hb d_V_spread_149 rfl (lv_at hl 0 rfl) ?_
    refine mg_v (F := f_V_tighten ((w149_0_0, w149_0_1, w149_0_2, w149_0_3, w149_0_4, w149_0_5, w149_0_6))) (wc := [(h0, vE ((w149_0_0, w149_0_1, w149_0_2, w149_0_3, w149_0_4, w149_0_5, w149_0_6)))]) (w1 := fun g150 => [(h0, vE g150)]) (wr := [(h1, .inr (0, [.long (z1.1), .long (z1.2.1), .long (z1.2.2.1), .long (z1.2.2.2.1), .long (z1.2.2.2.2.1), .long (z1.2.2.2.2.2.1), .int (bI z1.2.2.2.2.2.2)]))]) (ws' := fun g150 => [(h0, .inr (0, [.long (g150.1), .long (g150.2.1), .long (g150.2.2.1), .long (g150.2.2.2.1), .long (g150.2.2.2.2.1), .long (g150.2.2.2.2.2.1), .int (bI g150.2.2.2.2.2.2)])), (h1, .inr (0, [.long (z1.1), .long (z1.2.1), .long (z1.2.2.1), .long (z1.2.2.2.1), .long (z1.2.2.2.2.1), .long (z1.2.2.2.2.2.1), .int (bI z1.2.2.2.2.2.2)]))]) (va_runV (As := []) (rest := []) ⟨hx, hb, hml, hown, hts⟩ (c_V_tighten l dC dI h0 H.size ((w149_0_0, w149_0_1, w149_0_2, w149_0_3, w149_0_4, w149_0_5, w149_0_6))) (cwV 0 hts (gV gw180 gw113 gw114 gw1 gw115) rfl rfl rfl (by decide +kernel) ⟨(Nat.le_of_ble_eq_true rfl), (Nat.le_of_ble_eq_true rfl)⟩) ⟨blm, va_recv hK hP (ci := 0) (q0 := 0) rfl rfl, fun U hU hW => ⟨rfl, by rw [hU], by rw [hU]; exact hP.sub [0] rfl, va_K.moved hW.alike hK, (hD.sub [0] (by decide) rfl).weaken (fun _ _ _ _ => trivial)⟩⟩ rfl rfl hl.1 rfl (lv_room (Nat.le_of_ble_eq_true rfl)) d_V_spread_150 ⟨Nat.zero_le _, Nat.zero_le _⟩) hP hD hS hA [0] [1] [1, 0] rfl rfl (by decide) (by decide) (fun _ => rfl) (by decide) (fun g150 eg150 H locs hP hD hS => ?_)
    refine K150g g150 (Eq.trans (hj.trans rfl) (congrArg (fun g150 => f_V_spread_150g z0 z1 p2 g150) eg150)) H locs ?_ ?_ hS ls (lv_sub hl [] rfl)
    · with_reducible exact hP
    · with_reducible exact hD
  have K146 : ∀ (s146_0 : Int64) (w146_0_0 : Int64) (w146_0_1 : Int64) (w146_0_2 : Int64) (w146_0_3 : Int64) (w146_0_4 : Int64) (w146_0_5 : Int64) (w146_0_6 : Bool) (hj : f_V_spread z0 z1 p2 = f_V_spread_146 z0 z1 p2 s146_0 w146_0_0 w146_0_1 w146_0_2 w146_0_3 w146_0_4 w146_0_5 w146_0_6) (H : Heap) (locs : List Loc) (hP : va_P (dC, dI) classes [(h0, .inr (0, [.long (w146_0_0), .long (w146_0_1), .long (w146_0_2), .long (w146_0_3), .long (w146_0_4), .long (w146_0_5), .int (bI w146_0_6)])), (h1, .inr (0, [.long (z1.1), .long (z1.2.1), .long (z1.2.2.1), .long (z1.2.2.2.1), .long (z1.2.2.2.2.1), .long (z1.2.2.2.2.2.1), .int (bI z1.2.2.2.2.2.2)]))] H) (hD : va_D A [(h0, .inr (0, [.long (w146_0_0), .long (w146_0_1), .long (w146_0_2), .long (w146_0_3), .long (w146_0_4), .long (w146_0_5), .int (bI w146_0_6)])), (h1, .inr (0, [.long (z1.1), .long (z1.2.1), .long (z1.2.2.1), .long (z1.2.2.2.1), .long (z1.2.2.2.2.1), .long (z1.2.2.2.2.2.1), .int (bI z1.2.2.2.2.2.2)]))]) (hS : va_S A s.heap H locs) (ls : Array Slot) (hl : lv_has ls 3 [(0, .ref h0)]), W p l e (headSpec w_V_spread ({ frames := 4, cells := 0, slots := 0, locals := 118 } : Room)).room s m ([.ref h0, .ref h1, .int (p2)] : List Value).toArray below meth c H locs 0 0 (MQ below (va_Qv (fun _ : Unit => True) (mB (dC, dI) A [(h0, vE (f_V_spread z0 z1 p2)), (h1, vE z1)]) A) ([.ref h0, .ref h1, .int (p2)] : List Value).toArray s 0 0 A) (F0 m 146 ls [.long (s146_0), .ref h0]) := by
    intro s146_0 w146_0_0 w146_0_1 w146_0_2 w146_0_3 w146_0_4 w146_0_5 w146_0_6 hj H locs hP hD hS ls hl
    refine va_put (D := (dC, dI)) (ci := 0) (v := .long (s146_0)) (ty := .long) (C := R_V) (T := F_V) (N := 7) hx hb hts (fun w h => List.mem_cons_of_mem _ (uw_V w h)) t_V t_V_ok n_V hown hK hP hD hS 0 rfl rfl 5 (by decide) (hG (.fieldLink R_V 25 "ValueSieve$Value" "greatest" "J") gw37) (fun _ h9 => h9) rfl (by decide +kernel) rfl rfl (Nat.le_of_ble_eq_true rfl) d_V_spread_146 (fun H locs hP hD hS => ?_)
    have hP : va_P (dC, dI) classes [(h0, .inr (0, [.long (w146_0_0), .long (w146_0_1), .long (w146_0_2), .long (w146_0_3), .long (w146_0_4), .long (s146_0), .int (bI w146_0_6)])), (h1, .inr (0, [.long (z1.1), .long (z1.2.1), .long (z1.2.2.1), .long (z1.2.2.2.1), .long (z1.2.2.2.2.1), .long (z1.2.2.2.2.2.1), .int (bI z1.2.2.2.2.2.2)]))] H := hP
    have hD : va_D A [(h0, .inr (0, [.long (w146_0_0), .long (w146_0_1), .long (w146_0_2), .long (w146_0_3), .long (w146_0_4), .long (s146_0), .int (bI w146_0_6)])), (h1, .inr (0, [.long (z1.1), .long (z1.2.1), .long (z1.2.2.1), .long (z1.2.2.2.1), .long (z1.2.2.2.2.1), .long (z1.2.2.2.2.2.1), .int (bI z1.2.2.2.2.2.2)]))] := hD
    refine K149 w146_0_0 w146_0_1 w146_0_2 w146_0_3 w146_0_4 s146_0 w146_0_6 (hj.trans rfl) H locs ?_ ?_ hS ls (lv_sub hl [0] rfl)
    · with_reducible exact hP
    · with_reducible exact hD
  have K119 : ∀ (w119_0_0 : Int64) (w119_0_1 : Int64) (w119_0_2 : Int64) (w119_0_3 : Int64) (w119_0_4 : Int64) (w119_0_5 : Int64) (w119_0_6 : Bool) (hj : f_V_spread z0 z1 p2 = f_V_spread_119 z0 z1 p2 w119_0_0 w119_0_1 w119_0_2 w119_0_3 w119_0_4 w119_0_5 w119_0_6) (H : Heap) (locs : List Loc) (hP : va_P (dC, dI) classes [(h0, .inr (0, [.long (w119_0_0), .long (w119_0_1), .long (w119_0_2), .long (w119_0_3), .long (w119_0_4), .long (w119_0_5), .int (bI w119_0_6)])), (h1, .inr (0, [.long (z1.1), .long (z1.2.1), .long (z1.2.2.1), .long (z1.2.2.2.1), .long (z1.2.2.2.2.1), .long (z1.2.2.2.2.2.1), .int (bI z1.2.2.2.2.2.2)]))] H) (hD : va_D A [(h0, .inr (0, [.long (w119_0_0), .long (w119_0_1), .long (w119_0_2), .long (w119_0_3), .long (w119_0_4), .long (w119_0_5), .int (bI w119_0_6)])), (h1, .inr (0, [.long (z1.1), .long (z1.2.1), .long (z1.2.2.1), .long (z1.2.2.2.1), .long (z1.2.2.2.2.1), .long (z1.2.2.2.2.2.1), .int (bI z1.2.2.2.2.2.2)]))]) (hS : va_S A s.heap H locs) (ls : Array Slot) (hl : lv_has ls 3 [(0, .ref h0), (1, .ref h1), (2, .int (p2))]), W p l e (headSpec w_V_spread ({ frames := 4, cells := 0, slots := 0, locals := 118 } : Room)).room s m ([.ref h0, .ref h1, .int (p2)] : List Value).toArray below meth c H locs 0 0 (MQ below (va_Qv (fun _ : Unit => True) (mB (dC, dI) A [(h0, vE (f_V_spread z0 z1 p2)), (h1, vE z1)]) A) ([.ref h0, .ref h1, .int (p2)] : List Value).toArray s 0 0 A) (F0 m 119 ls []) := by
    intro w119_0_0 w119_0_1 w119_0_2 w119_0_3 w119_0_4 w119_0_5 w119_0_6 hj H locs hP hD hS ls hl
    refine lv_aload_n hx hb d_V_spread_119 rfl (lv_at hl 1 rfl) ?_
    refine va_get (D := (dC, dI)) (ci := 0) (v := .long (z1.2.2.2.2.2.1)) (C := R_V) (T := F_V) (N := 7) hx hb hts (fun w h => List.mem_cons_of_mem _ (uw_V w h)) hown hK hP 1 rfl rfl 5 (by decide) (hG (.fieldLink R_V 25 "ValueSieve$Value" "greatest" "J") gw37) (fun _ h9 => h9) rfl d_V_spread_120 ?_
    refine lv_aload_n hx hb d_V_spread_123 rfl (lv_at hl 0 rfl) ?_
    refine va_get (D := (dC, dI)) (ci := 0) (v := .long (w119_0_5)) (C := R_V) (T := F_V) (N := 7) hx hb hts (fun w h => List.mem_cons_of_mem _ (uw_V w h)) hown hK hP 0 rfl rfl 5 (by decide) (hG (.fieldLink R_V 25 "ValueSieve$Value" "greatest" "J") gw37) (fun _ h9 => h9) rfl d_V_spread_124 ?_
    refine wl_le (tgt := 149) hx hb d_V_spread_127 d_V_spread_128 (by decide) (fun e1_149 => ?_) (fun e1_149 => ?_)
    · refine K149 w119_0_0 w119_0_1 w119_0_2 w119_0_3 w119_0_4 w119_0_5 w119_0_6 (hj.trans (by unfold f_V_spread_119; first | with_reducible exact if_neg e1_149 | exact if_neg e1_149)) H locs ?_ ?_ hS ls (lv_sub hl [0] rfl)
      · with_reducible exact hP
      · with_reducible exact hD
    · refine lv_aload_n hx hb d_V_spread_131 rfl (lv_at hl 0 rfl) ?_
      refine lv_iload_n hx hb d_V_spread_132 rfl (lv_at hl 2 rfl) ?_
      refine lv_if_eq (tgt := 142) hx hb d_V_spread_133 (by decide) (fun e2_142 => ?_) (fun e2_142 => ?_)
      · refine lv_aload_n hx hb d_V_spread_142 rfl (lv_at hl 1 rfl) ?_
        refine va_get (D := (dC, dI)) (ci := 0) (v := .long (z1.2.2.2.2.2.1)) (C := R_V) (T := F_V) (N := 7) hx hb hts (fun w h => List.mem_cons_of_mem _ (uw_V w h)) hown hK hP 1 rfl rfl 5 (by decide) (hG (.fieldLink R_V 25 "ValueSieve$Value" "greatest" "J") gw37) (fun _ h9 => h9) rfl d_V_spread_143 ?_
        refine K146 z1.2.2.2.2.2.1 w119_0_0 w119_0_1 w119_0_2 w119_0_3 w119_0_4 w119_0_5 w119_0_6 (hj.trans (by unfold f_V_spread_119; first | with_reducible exact (if_pos e1_149).trans (if_pos e2_142) | exact (if_pos e1_149).trans (if_pos e2_142))) H locs ?_ ?_ hS ls (lv_sub hl [0] rfl)
        · with_reducible exact hP
        · with_reducible exact hD
      · refine lv_ldc2 (v := 9223372036854775807) hx hb hown (hG (.constantLong R_V 45 (9223372036854775807)) gw88) d_V_spread_136 ?_
        refine lv_goto (tgt := 146) hx hb d_V_spread_139 (by decide) ?_
        refine K146 9223372036854775807 w119_0_0 w119_0_1 w119_0_2 w119_0_3 w119_0_4 w119_0_5 w119_0_6 (hj.trans (by unfold f_V_spread_119; first | with_reducible exact (if_pos e1_149).trans (if_neg e2_142) | exact (if_pos e1_149).trans (if_neg e2_142))) H locs ?_ ?_ hS ls (lv_sub hl [0] rfl)
        · with_reducible exact hP
        · with_reducible exact hD
  have K116 : ∀ (s116_0 : Int64) (w116_0_0 : Int64) (w116_0_1 : Int64) (w116_0_2 : Int64) (w116_0_3 : Int64) (w116_0_4 : Int64) (w116_0_5 : Int64) (w116_0_6 : Bool) (hj : f_V_spread z0 z1 p2 = f_V_spread_116 z0 z1 p2 s116_0 w116_0_0 w116_0_1 w116_0_2 w116_0_3 w116_0_4 w116_0_5 w116_0_6) (H : Heap) (locs : List Loc) (hP : va_P (dC, dI) classes [(h0, .inr (0, [.long (w116_0_0), .long (w116_0_1), .long (w116_0_2), .long (w116_0_3), .long (w116_0_4), .long (w116_0_5), .int (bI w116_0_6)])), (h1, .inr (0, [.long (z1.1), .long (z1.2.1), .long (z1.2.2.1), .long (z1.2.2.2.1), .long (z1.2.2.2.2.1), .long (z1.2.2.2.2.2.1), .int (bI z1.2.2.2.2.2.2)]))] H) (hD : va_D A [(h0, .inr (0, [.long (w116_0_0), .long (w116_0_1), .long (w116_0_2), .long (w116_0_3), .long (w116_0_4), .long (w116_0_5), .int (bI w116_0_6)])), (h1, .inr (0, [.long (z1.1), .long (z1.2.1), .long (z1.2.2.1), .long (z1.2.2.2.1), .long (z1.2.2.2.2.1), .long (z1.2.2.2.2.2.1), .int (bI z1.2.2.2.2.2.2)]))]) (hS : va_S A s.heap H locs) (ls : Array Slot) (hl : lv_has ls 3 [(0, .ref h0), (1, .ref h1), (2, .int (p2))]), W p l e (headSpec w_V_spread ({ frames := 4, cells := 0, slots := 0, locals := 118 } : Room)).room s m ([.ref h0, .ref h1, .int (p2)] : List Value).toArray below meth c H locs 0 0 (MQ below (va_Qv (fun _ : Unit => True) (mB (dC, dI) A [(h0, vE (f_V_spread z0 z1 p2)), (h1, vE z1)]) A) ([.ref h0, .ref h1, .int (p2)] : List Value).toArray s 0 0 A) (F0 m 116 ls [.long (s116_0), .ref h0]) := by
    intro s116_0 w116_0_0 w116_0_1 w116_0_2 w116_0_3 w116_0_4 w116_0_5 w116_0_6 hj H locs hP hD hS ls hl
    refine va_put (D := (dC, dI)) (ci := 0) (v := .long (s116_0)) (ty := .long) (C := R_V) (T := F_V) (N := 7) hx hb hts (fun w h => List.mem_cons_of_mem _ (uw_V w h)) t_V t_V_ok n_V hown hK hP hD hS 0 rfl rfl 4 (by decide) (hG (.fieldLink R_V 22 "ValueSieve$Value" "least" "J") gw33) (fun _ h9 => h9) rfl (by decide +kernel) rfl rfl (Nat.le_of_ble_eq_true rfl) d_V_spread_116 (fun H locs hP hD hS => ?_)
    have hP : va_P (dC, dI) classes [(h0, .inr (0, [.long (w116_0_0), .long (w116_0_1), .long (w116_0_2), .long (w116_0_3), .long (s116_0), .long (w116_0_5), .int (bI w116_0_6)])), (h1, .inr (0, [.long (z1.1), .long (z1.2.1), .long (z1.2.2.1), .long (z1.2.2.2.1), .long (z1.2.2.2.2.1), .long (z1.2.2.2.2.2.1), .int (bI z1.2.2.2.2.2.2)]))] H := hP
    have hD : va_D A [(h0, .inr (0, [.long (w116_0_0), .long (w116_0_1), .long (w116_0_2), .long (w116_0_3), .long (s116_0), .long (w116_0_5), .int (bI w116_0_6)])), (h1, .inr (0, [.long (z1.1), .long (z1.2.1), .long (z1.2.2.1), .long (z1.2.2.2.1), .long (z1.2.2.2.2.1), .long (z1.2.2.2.2.2.1), .int (bI z1.2.2.2.2.2.2)]))] := hD
    refine K119 w116_0_0 w116_0_1 w116_0_2 w116_0_3 s116_0 w116_0_5 w116_0_6 (hj.trans rfl) H locs ?_ ?_ hS ls (lv_sub hl [0, 1, 2] rfl)
    · with_reducible exact hP
    · with_reducible exact hD
  have K89 : ∀ (w89_0_0 : Int64) (w89_0_1 : Int64) (w89_0_2 : Int64) (w89_0_3 : Int64) (w89_0_4 : Int64) (w89_0_5 : Int64) (w89_0_6 : Bool) (hj : f_V_spread z0 z1 p2 = f_V_spread_89 z0 z1 p2 w89_0_0 w89_0_1 w89_0_2 w89_0_3 w89_0_4 w89_0_5 w89_0_6) (H : Heap) (locs : List Loc) (hP : va_P (dC, dI) classes [(h0, .inr (0, [.long (w89_0_0), .long (w89_0_1), .long (w89_0_2), .long (w89_0_3), .long (w89_0_4), .long (w89_0_5), .int (bI w89_0_6)])), (h1, .inr (0, [.long (z1.1), .long (z1.2.1), .long (z1.2.2.1), .long (z1.2.2.2.1), .long (z1.2.2.2.2.1), .long (z1.2.2.2.2.2.1), .int (bI z1.2.2.2.2.2.2)]))] H) (hD : va_D A [(h0, .inr (0, [.long (w89_0_0), .long (w89_0_1), .long (w89_0_2), .long (w89_0_3), .long (w89_0_4), .long (w89_0_5), .int (bI w89_0_6)])), (h1, .inr (0, [.long (z1.1), .long (z1.2.1), .long (z1.2.2.1), .long (z1.2.2.2.1), .long (z1.2.2.2.2.1), .long (z1.2.2.2.2.2.1), .int (bI z1.2.2.2.2.2.2)]))]) (hS : va_S A s.heap H locs) (ls : Array Slot) (hl : lv_has ls 3 [(0, .ref h0), (1, .ref h1), (2, .int (p2))]), W p l e (headSpec w_V_spread ({ frames := 4, cells := 0, slots := 0, locals := 118 } : Room)).room s m ([.ref h0, .ref h1, .int (p2)] : List Value).toArray below meth c H locs 0 0 (MQ below (va_Qv (fun _ : Unit => True) (mB (dC, dI) A [(h0, vE (f_V_spread z0 z1 p2)), (h1, vE z1)]) A) ([.ref h0, .ref h1, .int (p2)] : List Value).toArray s 0 0 A) (F0 m 89 ls []) := by
    intro w89_0_0 w89_0_1 w89_0_2 w89_0_3 w89_0_4 w89_0_5 w89_0_6 hj H locs hP hD hS ls hl
    refine lv_aload_n hx hb d_V_spread_89 rfl (lv_at hl 1 rfl) ?_
    refine va_get (D := (dC, dI)) (ci := 0) (v := .long (z1.2.2.2.2.1)) (C := R_V) (T := F_V) (N := 7) hx hb hts (fun w h => List.mem_cons_of_mem _ (uw_V w h)) hown hK hP 1 rfl rfl 4 (by decide) (hG (.fieldLink R_V 22 "ValueSieve$Value" "least" "J") gw33) (fun _ h9 => h9) rfl d_V_spread_90 ?_
    refine lv_aload_n hx hb d_V_spread_93 rfl (lv_at hl 0 rfl) ?_
    refine va_get (D := (dC, dI)) (ci := 0) (v := .long (w89_0_4)) (C := R_V) (T := F_V) (N := 7) hx hb hts (fun w h => List.mem_cons_of_mem _ (uw_V w h)) hown hK hP 0 rfl rfl 4 (by decide) (hG (.fieldLink R_V 22 "ValueSieve$Value" "least" "J") gw33) (fun _ h9 => h9) rfl d_V_spread_94 ?_
    refine wl_ge (tgt := 119) hx hb d_V_spread_97 d_V_spread_98 (by decide) (fun e1_119 => ?_) (fun e1_119 => ?_)
    · refine K119 w89_0_0 w89_0_1 w89_0_2 w89_0_3 w89_0_4 w89_0_5 w89_0_6 (hj.trans (by unfold f_V_spread_89; first | with_reducible exact if_neg e1_119 | exact if_neg e1_119)) H locs ?_ ?_ hS ls (lv_sub hl [0, 1, 2] rfl)
      · with_reducible exact hP
      · with_reducible exact hD
    · refine lv_aload_n hx hb d_V_spread_101 rfl (lv_at hl 0 rfl) ?_
      refine lv_iload_n hx hb d_V_spread_102 rfl (lv_at hl 2 rfl) ?_
      refine lv_if_eq (tgt := 112) hx hb d_V_spread_103 (by decide) (fun e2_112 => ?_) (fun e2_112 => ?_)
      · refine lv_aload_n hx hb d_V_spread_112 rfl (lv_at hl 1 rfl) ?_
        refine va_get (D := (dC, dI)) (ci := 0) (v := .long (z1.2.2.2.2.1)) (C := R_V) (T := F_V) (N := 7) hx hb hts (fun w h => List.mem_cons_of_mem _ (uw_V w h)) hown hK hP 1 rfl rfl 4 (by decide) (hG (.fieldLink R_V 22 "ValueSieve$Value" "least" "J") gw33) (fun _ h9 => h9) rfl d_V_spread_113 ?_
        refine K116 z1.2.2.2.2.1 w89_0_0 w89_0_1 w89_0_2 w89_0_3 w89_0_4 w89_0_5 w89_0_6 (hj.trans (by unfold f_V_spread_89; first | with_reducible exact (if_pos e1_119).trans (if_pos e2_112) | exact (if_pos e1_119).trans (if_pos e2_112))) H locs ?_ ?_ hS ls (lv_sub hl [0, 1, 2] rfl)
        · with_reducible exact hP
        · with_reducible exact hD
      · refine lv_ldc2 (v := -9223372036854775808) hx hb hown (hG (.constantLong R_V 43 (-9223372036854775808)) gw87) d_V_spread_106 ?_
        refine lv_goto (tgt := 116) hx hb d_V_spread_109 (by decide) ?_
        refine K116 (-9223372036854775808) w89_0_0 w89_0_1 w89_0_2 w89_0_3 w89_0_4 w89_0_5 w89_0_6 (hj.trans (by unfold f_V_spread_89; first | with_reducible exact (if_pos e1_119).trans (if_neg e2_112) | exact (if_pos e1_119).trans (if_neg e2_112))) H locs ?_ ?_ hS ls (lv_sub hl [0, 1, 2] rfl)
        · with_reducible exact hP
        · with_reducible exact hD
  have K86 : ∀ (s86_0 : Int64) (w86_0_0 : Int64) (w86_0_1 : Int64) (w86_0_2 : Int64) (w86_0_3 : Int64) (w86_0_4 : Int64) (w86_0_5 : Int64) (w86_0_6 : Bool) (hj : f_V_spread z0 z1 p2 = f_V_spread_86 z0 z1 p2 s86_0 w86_0_0 w86_0_1 w86_0_2 w86_0_3 w86_0_4 w86_0_5 w86_0_6) (H : Heap) (locs : List Loc) (hP : va_P (dC, dI) classes [(h0, .inr (0, [.long (w86_0_0), .long (w86_0_1), .long (w86_0_2), .long (w86_0_3), .long (w86_0_4), .long (w86_0_5), .int (bI w86_0_6)])), (h1, .inr (0, [.long (z1.1), .long (z1.2.1), .long (z1.2.2.1), .long (z1.2.2.2.1), .long (z1.2.2.2.2.1), .long (z1.2.2.2.2.2.1), .int (bI z1.2.2.2.2.2.2)]))] H) (hD : va_D A [(h0, .inr (0, [.long (w86_0_0), .long (w86_0_1), .long (w86_0_2), .long (w86_0_3), .long (w86_0_4), .long (w86_0_5), .int (bI w86_0_6)])), (h1, .inr (0, [.long (z1.1), .long (z1.2.1), .long (z1.2.2.1), .long (z1.2.2.2.1), .long (z1.2.2.2.2.1), .long (z1.2.2.2.2.2.1), .int (bI z1.2.2.2.2.2.2)]))]) (hS : va_S A s.heap H locs) (ls : Array Slot) (hl : lv_has ls 3 [(0, .ref h0), (1, .ref h1), (2, .int (p2))]), W p l e (headSpec w_V_spread ({ frames := 4, cells := 0, slots := 0, locals := 118 } : Room)).room s m ([.ref h0, .ref h1, .int (p2)] : List Value).toArray below meth c H locs 0 0 (MQ below (va_Qv (fun _ : Unit => True) (mB (dC, dI) A [(h0, vE (f_V_spread z0 z1 p2)), (h1, vE z1)]) A) ([.ref h0, .ref h1, .int (p2)] : List Value).toArray s 0 0 A) (F0 m 86 ls [.long (s86_0), .ref h0]) := by
    intro s86_0 w86_0_0 w86_0_1 w86_0_2 w86_0_3 w86_0_4 w86_0_5 w86_0_6 hj H locs hP hD hS ls hl
    refine va_put (D := (dC, dI)) (ci := 0) (v := .long (s86_0)) (ty := .long) (C := R_V) (T := F_V) (N := 7) hx hb hts (fun w h => List.mem_cons_of_mem _ (uw_V w h)) t_V t_V_ok n_V hown hK hP hD hS 0 rfl rfl 3 (by decide) (hG (.fieldLink R_V 19 "ValueSieve$Value" "high" "J") gw29) (fun _ h9 => h9) rfl (by decide +kernel) rfl rfl (Nat.le_of_ble_eq_true rfl) d_V_spread_86 (fun H locs hP hD hS => ?_)
    have hP : va_P (dC, dI) classes [(h0, .inr (0, [.long (w86_0_0), .long (w86_0_1), .long (w86_0_2), .long (s86_0), .long (w86_0_4), .long (w86_0_5), .int (bI w86_0_6)])), (h1, .inr (0, [.long (z1.1), .long (z1.2.1), .long (z1.2.2.1), .long (z1.2.2.2.1), .long (z1.2.2.2.2.1), .long (z1.2.2.2.2.2.1), .int (bI z1.2.2.2.2.2.2)]))] H := hP
    have hD : va_D A [(h0, .inr (0, [.long (w86_0_0), .long (w86_0_1), .long (w86_0_2), .long (s86_0), .long (w86_0_4), .long (w86_0_5), .int (bI w86_0_6)])), (h1, .inr (0, [.long (z1.1), .long (z1.2.1), .long (z1.2.2.1), .long (z1.2.2.2.1), .long (z1.2.2.2.2.1), .long (z1.2.2.2.2.2.1), .int (bI z1.2.2.2.2.2.2)]))] := hD
    refine K89 w86_0_0 w86_0_1 w86_0_2 s86_0 w86_0_4 w86_0_5 w86_0_6 (hj.trans rfl) H locs ?_ ?_ hS ls (lv_sub hl [0, 1, 2] rfl)
    · with_reducible exact hP
    · with_reducible exact hD
  have K57 : ∀ (w57_0_0 : Int64) (w57_0_1 : Int64) (w57_0_2 : Int64) (w57_0_3 : Int64) (w57_0_4 : Int64) (w57_0_5 : Int64) (w57_0_6 : Bool) (hj : f_V_spread z0 z1 p2 = f_V_spread_57 z0 z1 p2 w57_0_0 w57_0_1 w57_0_2 w57_0_3 w57_0_4 w57_0_5 w57_0_6) (H : Heap) (locs : List Loc) (hP : va_P (dC, dI) classes [(h0, .inr (0, [.long (w57_0_0), .long (w57_0_1), .long (w57_0_2), .long (w57_0_3), .long (w57_0_4), .long (w57_0_5), .int (bI w57_0_6)])), (h1, .inr (0, [.long (z1.1), .long (z1.2.1), .long (z1.2.2.1), .long (z1.2.2.2.1), .long (z1.2.2.2.2.1), .long (z1.2.2.2.2.2.1), .int (bI z1.2.2.2.2.2.2)]))] H) (hD : va_D A [(h0, .inr (0, [.long (w57_0_0), .long (w57_0_1), .long (w57_0_2), .long (w57_0_3), .long (w57_0_4), .long (w57_0_5), .int (bI w57_0_6)])), (h1, .inr (0, [.long (z1.1), .long (z1.2.1), .long (z1.2.2.1), .long (z1.2.2.2.1), .long (z1.2.2.2.2.1), .long (z1.2.2.2.2.2.1), .int (bI z1.2.2.2.2.2.2)]))]) (hS : va_S A s.heap H locs) (ls : Array Slot) (hl : lv_has ls 3 [(0, .ref h0), (1, .ref h1), (2, .int (p2))]), W p l e (headSpec w_V_spread ({ frames := 4, cells := 0, slots := 0, locals := 118 } : Room)).room s m ([.ref h0, .ref h1, .int (p2)] : List Value).toArray below meth c H locs 0 0 (MQ below (va_Qv (fun _ : Unit => True) (mB (dC, dI) A [(h0, vE (f_V_spread z0 z1 p2)), (h1, vE z1)]) A) ([.ref h0, .ref h1, .int (p2)] : List Value).toArray s 0 0 A) (F0 m 57 ls []) := by
    intro w57_0_0 w57_0_1 w57_0_2 w57_0_3 w57_0_4 w57_0_5 w57_0_6 hj H locs hP hD hS ls hl
    refine lv_aload_n hx hb d_V_spread_57 rfl (lv_at hl 0 rfl) ?_
    refine va_get (D := (dC, dI)) (ci := 0) (v := .long (w57_0_3)) (C := R_V) (T := F_V) (N := 7) hx hb hts (fun w h => List.mem_cons_of_mem _ (uw_V w h)) hown hK hP 0 rfl rfl 3 (by decide) (hG (.fieldLink R_V 19 "ValueSieve$Value" "high" "J") gw29) (fun _ h9 => h9) rfl d_V_spread_58 ?_
    refine lv_aload_n hx hb d_V_spread_61 rfl (lv_at hl 1 rfl) ?_
    refine va_get (D := (dC, dI)) (ci := 0) (v := .long (z1.2.2.2.1)) (C := R_V) (T := F_V) (N := 7) hx hb hts (fun w h => List.mem_cons_of_mem _ (uw_V w h)) hown hK hP 1 rfl rfl 3 (by decide) (hG (.fieldLink R_V 19 "ValueSieve$Value" "high" "J") gw29) (fun _ h9 => h9) rfl d_V_spread_62 ?_
    refine rc_i (W.runS (As := [.long (w57_0_3), .long (z1.2.2.2.1)]) (rest := []) ⟨hx, hb, hml, hown, hts⟩ (c_N_below l w57_0_3 z1.2.2.2.1) (va_cwS 2 hts (gS gw104 gw105 gw2 gw106) rfl rfl rfl (by decide +kernel) ⟨(Nat.le_of_ble_eq_true rfl), (Nat.le_of_ble_eq_true rfl)⟩) ⟨bl0, fun U hU hW => ⟨rfl, trivial⟩⟩ rfl rfl hl.1 rfl (lv_room (Nat.le_of_ble_eq_true rfl)) d_V_spread_65 ⟨Nat.zero_le _, Nat.zero_le _⟩) ?_
    refine lv_if_eq (tgt := 89) hx hb d_V_spread_68 (by decide) (fun e1_89 => ?_) (fun e1_89 => ?_)
    · refine K89 w57_0_0 w57_0_1 w57_0_2 w57_0_3 w57_0_4 w57_0_5 w57_0_6 (hj.trans (by unfold f_V_spread_57; first | with_reducible exact if_pos e1_89 | exact if_pos e1_89)) H locs ?_ ?_ hS ls (lv_sub hl [0, 1, 2] rfl)
      · with_reducible exact hP
      · with_reducible exact hD
    · refine lv_aload_n hx hb d_V_spread_71 rfl (lv_at hl 0 rfl) ?_
      refine lv_iload_n hx hb d_V_spread_72 rfl (lv_at hl 2 rfl) ?_
      refine lv_if_eq (tgt := 82) hx hb d_V_spread_73 (by decide) (fun e2_82 => ?_) (fun e2_82 => ?_)
      · refine lv_aload_n hx hb d_V_spread_82 rfl (lv_at hl 1 rfl) ?_
        refine va_get (D := (dC, dI)) (ci := 0) (v := .long (z1.2.2.2.1)) (C := R_V) (T := F_V) (N := 7) hx hb hts (fun w h => List.mem_cons_of_mem _ (uw_V w h)) hown hK hP 1 rfl rfl 3 (by decide) (hG (.fieldLink R_V 19 "ValueSieve$Value" "high" "J") gw29) (fun _ h9 => h9) rfl d_V_spread_83 ?_
        refine K86 z1.2.2.2.1 w57_0_0 w57_0_1 w57_0_2 w57_0_3 w57_0_4 w57_0_5 w57_0_6 (hj.trans (by unfold f_V_spread_57; first | with_reducible exact (if_neg e1_89).trans (if_pos e2_82) | exact (if_neg e1_89).trans (if_pos e2_82))) H locs ?_ ?_ hS ls (lv_sub hl [0, 1, 2] rfl)
        · with_reducible exact hP
        · with_reducible exact hD
      · refine lv_ldc2 (v := -1) hx hb hown (hG (.constantLong R_V 32 (-1)) gw78) d_V_spread_76 ?_
        refine lv_goto (tgt := 86) hx hb d_V_spread_79 (by decide) ?_
        refine K86 (-1) w57_0_0 w57_0_1 w57_0_2 w57_0_3 w57_0_4 w57_0_5 w57_0_6 (hj.trans (by unfold f_V_spread_57; first | with_reducible exact (if_neg e1_89).trans (if_neg e2_82) | exact (if_neg e1_89).trans (if_neg e2_82))) H locs ?_ ?_ hS ls (lv_sub hl [0, 1, 2] rfl)
        · with_reducible exact hP
        · with_reducible exact hD
  have K54 : ∀ (s54_0 : Int64) (g24 : VV) (hj : f_V_spread z0 z1 p2 = f_V_spread_54 z0 z1 p2 s54_0 g24) (H : Heap) (locs : List Loc) (hP : va_P (dC, dI) classes [(h0, .inr (0, [.long (g24.1), .long (g24.2.1), .long (g24.2.2.1), .long (g24.2.2.2.1), .long (g24.2.2.2.2.1), .long (g24.2.2.2.2.2.1), .int (bI g24.2.2.2.2.2.2)])), (h1, .inr (0, [.long (z1.1), .long (z1.2.1), .long (z1.2.2.1), .long (z1.2.2.2.1), .long (z1.2.2.2.2.1), .long (z1.2.2.2.2.2.1), .int (bI z1.2.2.2.2.2.2)]))] H) (hD : va_D A [(h0, .inr (0, [.long (g24.1), .long (g24.2.1), .long (g24.2.2.1), .long (g24.2.2.2.1), .long (g24.2.2.2.2.1), .long (g24.2.2.2.2.2.1), .int (bI g24.2.2.2.2.2.2)])), (h1, .inr (0, [.long (z1.1), .long (z1.2.1), .long (z1.2.2.1), .long (z1.2.2.2.1), .long (z1.2.2.2.2.1), .long (z1.2.2.2.2.2.1), .int (bI z1.2.2.2.2.2.2)]))]) (hS : va_S A s.heap H locs) (ls : Array Slot) (hl : lv_has ls 3 [(0, .ref h0), (1, .ref h1), (2, .int (p2))]), W p l e (headSpec w_V_spread ({ frames := 4, cells := 0, slots := 0, locals := 118 } : Room)).room s m ([.ref h0, .ref h1, .int (p2)] : List Value).toArray below meth c H locs 0 0 (MQ below (va_Qv (fun _ : Unit => True) (mB (dC, dI) A [(h0, vE (f_V_spread z0 z1 p2)), (h1, vE z1)]) A) ([.ref h0, .ref h1, .int (p2)] : List Value).toArray s 0 0 A) (F0 m 54 ls [.long (s54_0), .ref h0]) := by
    intro s54_0 g24 hj H locs hP hD hS ls hl
    refine va_put (D := (dC, dI)) (ci := 0) (v := .long (s54_0)) (ty := .long) (C := R_V) (T := F_V) (N := 7) hx hb hts (fun w h => List.mem_cons_of_mem _ (uw_V w h)) t_V t_V_ok n_V hown hK hP hD hS 0 rfl rfl 2 (by decide) (hG (.fieldLink R_V 16 "ValueSieve$Value" "low" "J") gw25) (fun _ h9 => h9) rfl (by decide +kernel) rfl rfl (Nat.le_of_ble_eq_true rfl) d_V_spread_54 (fun H locs hP hD hS => ?_)
    have hP : va_P (dC, dI) classes [(h0, .inr (0, [.long (g24.1), .long (g24.2.1), .long (s54_0), .long (g24.2.2.2.1), .long (g24.2.2.2.2.1), .long (g24.2.2.2.2.2.1), .int (bI g24.2.2.2.2.2.2)])), (h1, .inr (0, [.long (z1.1), .long (z1.2.1), .long (z1.2.2.1), .long (z1.2.2.2.1), .long (z1.2.2.2.2.1), .long (z1.2.2.2.2.2.1), .int (bI z1.2.2.2.2.2.2)]))] H := hP
    have hD : va_D A [(h0, .inr (0, [.long (g24.1), .long (g24.2.1), .long (s54_0), .long (g24.2.2.2.1), .long (g24.2.2.2.2.1), .long (g24.2.2.2.2.2.1), .int (bI g24.2.2.2.2.2.2)])), (h1, .inr (0, [.long (z1.1), .long (z1.2.1), .long (z1.2.2.1), .long (z1.2.2.2.1), .long (z1.2.2.2.2.1), .long (z1.2.2.2.2.2.1), .int (bI z1.2.2.2.2.2.2)]))] := hD
    refine K57 g24.1 g24.2.1 s54_0 g24.2.2.2.1 g24.2.2.2.2.1 g24.2.2.2.2.2.1 g24.2.2.2.2.2.2 (hj.trans rfl) H locs ?_ ?_ hS ls (lv_sub hl [0, 1, 2] rfl)
    · with_reducible exact hP
    · with_reducible exact hD
  have K24g : ∀ (g24 : VV) (hj : f_V_spread z0 z1 p2 = f_V_spread_24g z0 z1 p2 g24) (H : Heap) (locs : List Loc) (hP : va_P (dC, dI) classes [(h0, .inr (0, [.long (g24.1), .long (g24.2.1), .long (g24.2.2.1), .long (g24.2.2.2.1), .long (g24.2.2.2.2.1), .long (g24.2.2.2.2.2.1), .int (bI g24.2.2.2.2.2.2)])), (h1, .inr (0, [.long (z1.1), .long (z1.2.1), .long (z1.2.2.1), .long (z1.2.2.2.1), .long (z1.2.2.2.2.1), .long (z1.2.2.2.2.2.1), .int (bI z1.2.2.2.2.2.2)]))] H) (hD : va_D A [(h0, .inr (0, [.long (g24.1), .long (g24.2.1), .long (g24.2.2.1), .long (g24.2.2.2.1), .long (g24.2.2.2.2.1), .long (g24.2.2.2.2.2.1), .int (bI g24.2.2.2.2.2.2)])), (h1, .inr (0, [.long (z1.1), .long (z1.2.1), .long (z1.2.2.1), .long (z1.2.2.2.1), .long (z1.2.2.2.2.1), .long (z1.2.2.2.2.2.1), .int (bI z1.2.2.2.2.2.2)]))]) (hS : va_S A s.heap H locs) (ls : Array Slot) (hl : lv_has ls 3 [(0, .ref h0), (1, .ref h1), (2, .int (p2))]), W p l e (headSpec w_V_spread ({ frames := 4, cells := 0, slots := 0, locals := 118 } : Room)).room s m ([.ref h0, .ref h1, .int (p2)] : List Value).toArray below meth c H locs 0 0 (MQ below (va_Qv (fun _ : Unit => True) (mB (dC, dI) A [(h0, vE (f_V_spread z0 z1 p2)), (h1, vE z1)]) A) ([.ref h0, .ref h1, .int (p2)] : List Value).toArray s 0 0 A) (F0 m 27 ls []) := by
    intro g24 hj H locs hP hD hS ls hl
    refine lv_aload_n hx hb d_V_spread_27 rfl (lv_at hl 1 rfl) ?_
    refine va_get (D := (dC, dI)) (ci := 0) (v := .long (z1.2.2.1)) (C := R_V) (T := F_V) (N := 7) hx hb hts (fun w h => List.mem_cons_of_mem _ (uw_V w h)) hown hK hP 1 rfl rfl 2 (by decide) (hG (.fieldLink R_V 16 "ValueSieve$Value" "low" "J") gw25) (fun _ h9 => h9) rfl d_V_spread_28 ?_
    refine lv_aload_n hx hb d_V_spread_31 rfl (lv_at hl 0 rfl) ?_
    refine va_get (D := (dC, dI)) (ci := 0) (v := .long (g24.2.2.1)) (C := R_V) (T := F_V) (N := 7) hx hb hts (fun w h => List.mem_cons_of_mem _ (uw_V w h)) hown hK hP 0 rfl rfl 2 (by decide) (hG (.fieldLink R_V 16 "ValueSieve$Value" "low" "J") gw25) (fun _ h9 => h9) rfl d_V_spread_32 ?_
    refine rc_i (W.runS (As := [.long (z1.2.2.1), .long (g24.2.2.1)]) (rest := []) ⟨hx, hb, hml, hown, hts⟩ (c_N_below l z1.2.2.1 g24.2.2.1) (va_cwS 2 hts (gS gw104 gw105 gw2 gw106) rfl rfl rfl (by decide +kernel) ⟨(Nat.le_of_ble_eq_true rfl), (Nat.le_of_ble_eq_true rfl)⟩) ⟨bl0, fun U hU hW => ⟨rfl, trivial⟩⟩ rfl rfl hl.1 rfl (lv_room (Nat.le_of_ble_eq_true rfl)) d_V_spread_35 ⟨Nat.zero_le _, Nat.zero_le _⟩) ?_
    refine lv_if_eq (tgt := 57) hx hb d_V_spread_38 (by decide) (fun e1_57 => ?_) (fun e1_57 => ?_)
    · refine K57 g24.1 g24.2.1 g24.2.2.1 g24.2.2.2.1 g24.2.2.2.2.1 g24.2.2.2.2.2.1 g24.2.2.2.2.2.2 (hj.trans (by unfold f_V_spread_24g; first | with_reducible exact if_pos e1_57 | exact if_pos e1_57)) H locs ?_ ?_ hS ls (lv_sub hl [0, 1, 2] rfl)
      · with_reducible exact hP
      · with_reducible exact hD
    · refine lv_aload_n hx hb d_V_spread_41 rfl (lv_at hl 0 rfl) ?_
      refine lv_iload_n hx hb d_V_spread_42 rfl (lv_at hl 2 rfl) ?_
      refine lv_if_eq (tgt := 50) hx hb d_V_spread_43 (by decide) (fun e2_50 => ?_) (fun e2_50 => ?_)
      · refine lv_aload_n hx hb d_V_spread_50 rfl (lv_at hl 1 rfl) ?_
        refine va_get (D := (dC, dI)) (ci := 0) (v := .long (z1.2.2.1)) (C := R_V) (T := F_V) (N := 7) hx hb hts (fun w h => List.mem_cons_of_mem _ (uw_V w h)) hown hK hP 1 rfl rfl 2 (by decide) (hG (.fieldLink R_V 16 "ValueSieve$Value" "low" "J") gw25) (fun _ h9 => h9) rfl d_V_spread_51 ?_
        refine K54 z1.2.2.1 g24 (hj.trans (by unfold f_V_spread_24g; first | with_reducible exact (if_neg e1_57).trans (if_pos e2_50) | exact (if_neg e1_57).trans (if_pos e2_50))) H locs ?_ ?_ hS ls (lv_sub hl [0, 1, 2] rfl)
        · with_reducible exact hP
        · with_reducible exact hD
      · refine lv_lconst (v := 0) hx hb d_V_spread_46 (by decide) ?_
        refine lv_goto (tgt := 54) hx hb d_V_spread_47 (by decide) ?_
        refine K54 0 g24 (hj.trans (by unfold f_V_spread_24g; first | with_reducible exact (if_neg e1_57).trans (if_neg e2_50) | exact (if_neg e1_57).trans (if_neg e2_50))) H locs ?_ ?_ hS ls (lv_sub hl [0, 1, 2] rfl)
        · with_reducible exact hP
        · with_reducible exact hD
  refine lv_aload_n hx hb d_V_spread_0 rfl (lv_at hl 0 rfl) ?_
  refine lv_aload_n hx hb d_V_spread_1 rfl (lv_at hl 0 rfl) ?_
  refine va_get (D := (dC, dI)) (ci := 0) (v := .long (z0.1)) (C := R_V) (T := F_V) (N := 7) hx hb hts (fun w h => List.mem_cons_of_mem _ (uw_V w h)) hown hK hP 0 rfl rfl 0 (by decide) (hG (.fieldLink R_V 7 "ValueSieve$Value" "bits" "J") gw18) (fun _ h9 => h9) rfl d_V_spread_2 ?_
  refine lv_aload_n hx hb d_V_spread_5 rfl (lv_at hl 0 rfl) ?_
  refine va_get (D := (dC, dI)) (ci := 0) (v := .long (z0.2.1)) (C := R_V) (T := F_V) (N := 7) hx hb hts (fun w h => List.mem_cons_of_mem _ (uw_V w h)) hown hK hP 0 rfl rfl 1 (by decide) (hG (.fieldLink R_V 13 "ValueSieve$Value" "unknown" "J") gw21) (fun _ h9 => h9) rfl d_V_spread_6 ?_
  refine lv_aload_n hx hb d_V_spread_9 rfl (lv_at hl 1 rfl) ?_
  refine va_get (D := (dC, dI)) (ci := 0) (v := .long (z1.2.1)) (C := R_V) (T := F_V) (N := 7) hx hb hts (fun w h => List.mem_cons_of_mem _ (uw_V w h)) hown hK hP 1 rfl rfl 1 (by decide) (hG (.fieldLink R_V 13 "ValueSieve$Value" "unknown" "J") gw21) (fun _ h9 => h9) rfl d_V_spread_10 ?_
  refine lv_lor hx hb d_V_spread_13 ?_
  refine lv_aload_n hx hb d_V_spread_14 rfl (lv_at hl 0 rfl) ?_
  refine va_get (D := (dC, dI)) (ci := 0) (v := .long (z0.1)) (C := R_V) (T := F_V) (N := 7) hx hb hts (fun w h => List.mem_cons_of_mem _ (uw_V w h)) hown hK hP 0 rfl rfl 0 (by decide) (hG (.fieldLink R_V 7 "ValueSieve$Value" "bits" "J") gw18) (fun _ h9 => h9) rfl d_V_spread_15 ?_
  refine lv_aload_n hx hb d_V_spread_18 rfl (lv_at hl 1 rfl) ?_
  refine va_get (D := (dC, dI)) (ci := 0) (v := .long (z1.1)) (C := R_V) (T := F_V) (N := 7) hx hb hts (fun w h => List.mem_cons_of_mem _ (uw_V w h)) hown hK hP 1 rfl rfl 0 (by decide) (hG (.fieldLink R_V 7 "ValueSieve$Value" "bits" "J") gw18) (fun _ h9 => h9) rfl d_V_spread_19 ?_
  refine lv_lxor hx hb d_V_spread_22 ?_
  refine lv_lor hx hb d_V_spread_23 ?_
  refine mg_v (F := f_V_sayBits z0 z0.1 ((z0.2.1 ||| z1.2.1) ||| (z0.1 ^^^ z1.1))) (wc := [(h0, vE z0)]) (w1 := fun g24 => [(h0, vE g24)]) (wr := [(h1, .inr (0, [.long (z1.1), .long (z1.2.1), .long (z1.2.2.1), .long (z1.2.2.2.1), .long (z1.2.2.2.2.1), .long (z1.2.2.2.2.2.1), .int (bI z1.2.2.2.2.2.2)]))]) (ws' := fun g24 => [(h0, .inr (0, [.long (g24.1), .long (g24.2.1), .long (g24.2.2.1), .long (g24.2.2.2.1), .long (g24.2.2.2.2.1), .long (g24.2.2.2.2.2.1), .int (bI g24.2.2.2.2.2.2)])), (h1, .inr (0, [.long (z1.1), .long (z1.2.1), .long (z1.2.2.1), .long (z1.2.2.2.1), .long (z1.2.2.2.2.1), .long (z1.2.2.2.2.2.1), .int (bI z1.2.2.2.2.2.2)]))]) (va_runV (As := [.long (z0.1), .long ((z0.2.1 ||| z1.2.1) ||| (z0.1 ^^^ z1.1))]) (rest := []) ⟨hx, hb, hml, hown, hts⟩ (c_V_sayBits l dC dI h0 s.heap.size z0 z0.1 ((z0.2.1 ||| z1.2.1) ||| (z0.1 ^^^ z1.1))) (cwV 2 hts (gV gw79 gw80 gw81 gw1 gw82) rfl rfl rfl (by decide +kernel) ⟨(Nat.le_of_ble_eq_true rfl), (Nat.le_of_ble_eq_true rfl)⟩) ⟨blm, va_recv hK hP (ci := 0) (q0 := 0) rfl rfl, fun U hU hW => ⟨rfl, by rw [hU], by rw [hU]; exact hP.sub [0] rfl, va_K.moved hW.alike hK, (hD.sub [0] (by decide) rfl).weaken (fun _ _ _ _ => trivial)⟩⟩ rfl rfl hl.1 rfl (lv_room (Nat.le_of_ble_eq_true rfl)) d_V_spread_24 ⟨Nat.zero_le _, Nat.zero_le _⟩) hP hD hS hA [0] [1] [1, 0] rfl rfl (by decide) (by decide) (fun _ => rfl) (by decide) (fun g24 eg24 H locs hP hD hS => ?_)
  refine K24g g24 (Eq.trans (rfl) (congrArg (fun g24 => f_V_spread_24g z0 z1 p2 g24) eg24)) H locs ?_ ?_ hS ls (lv_sub hl [0, 1, 2] rfl)
  · with_reducible exact hP
  · with_reducible exact hD
