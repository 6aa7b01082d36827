-- ValueSieve$Operations.shiftBy
theorem d_O_shiftBy_0 : decode b_O_shiftBy 0 = .ok (.iload_n 1, 1) := by decide +kernel
theorem d_O_shiftBy_1 : decode b_O_shiftBy 1 = .ok (.bipush 9, 2) := by decide +kernel
theorem d_O_shiftBy_3 : decode b_O_shiftBy 3 = .ok (.if_icmp .ne 38, 3) := by decide +kernel
theorem d_O_shiftBy_6 : decode b_O_shiftBy 6 = .ok (.aload_n 0, 1) := by decide +kernel
theorem d_O_shiftBy_7 : decode b_O_shiftBy 7 = .ok (.aload_n 2, 1) := by decide +kernel
theorem d_O_shiftBy_8 : decode b_O_shiftBy 8 = .ok (.getfield 36, 3) := by decide +kernel
theorem d_O_shiftBy_11 : decode b_O_shiftBy 11 = .ok (.iload_n 3, 1) := by decide +kernel
theorem d_O_shiftBy_12 : decode b_O_shiftBy 12 = .ok (.lushr, 1) := by decide +kernel
theorem d_O_shiftBy_13 : decode b_O_shiftBy 13 = .ok (.aload_n 2, 1) := by decide +kernel
theorem d_O_shiftBy_14 : decode b_O_shiftBy 14 = .ok (.getfield 40, 3) := by decide +kernel
theorem d_O_shiftBy_17 : decode b_O_shiftBy 17 = .ok (.iload_n 3, 1) := by decide +kernel
theorem d_O_shiftBy_18 : decode b_O_shiftBy 18 = .ok (.lushr, 1) := by decide +kernel
theorem d_O_shiftBy_19 : decode b_O_shiftBy 19 = .ok (.invokevirtual 45, 3) := by decide +kernel
theorem d_O_shiftBy_22 : decode b_O_shiftBy 22 = .ok (.aload_n 0, 1) := by decide +kernel
theorem d_O_shiftBy_23 : decode b_O_shiftBy 23 = .ok (.aload_n 2, 1) := by decide +kernel
theorem d_O_shiftBy_24 : decode b_O_shiftBy 24 = .ok (.getfield 55, 3) := by decide +kernel
theorem d_O_shiftBy_27 : decode b_O_shiftBy 27 = .ok (.iload_n 3, 1) := by decide +kernel
theorem d_O_shiftBy_28 : decode b_O_shiftBy 28 = .ok (.lushr, 1) := by decide +kernel
theorem d_O_shiftBy_29 : decode b_O_shiftBy 29 = .ok (.aload_n 2, 1) := by decide +kernel
theorem d_O_shiftBy_30 : decode b_O_shiftBy 30 = .ok (.getfield 49, 3) := by decide +kernel
theorem d_O_shiftBy_33 : decode b_O_shiftBy 33 = .ok (.iload_n 3, 1) := by decide +kernel
theorem d_O_shiftBy_34 : decode b_O_shiftBy 34 = .ok (.lushr, 1) := by decide +kernel
theorem d_O_shiftBy_35 : decode b_O_shiftBy 35 = .ok (.invokevirtual 76, 3) := by decide +kernel
theorem d_O_shiftBy_38 : decode b_O_shiftBy 38 = .ok (.goto 140, 3) := by decide +kernel
theorem d_O_shiftBy_41 : decode b_O_shiftBy 41 = .ok (.iload_n 1, 1) := by decide +kernel
theorem d_O_shiftBy_42 : decode b_O_shiftBy 42 = .ok (.bipush 10, 2) := by decide +kernel
theorem d_O_shiftBy_44 : decode b_O_shiftBy 44 = .ok (.if_icmp .ne 38, 3) := by decide +kernel
theorem d_O_shiftBy_47 : decode b_O_shiftBy 47 = .ok (.aload_n 0, 1) := by decide +kernel
theorem d_O_shiftBy_48 : decode b_O_shiftBy 48 = .ok (.aload_n 2, 1) := by decide +kernel
theorem d_O_shiftBy_49 : decode b_O_shiftBy 49 = .ok (.getfield 36, 3) := by decide +kernel
theorem d_O_shiftBy_52 : decode b_O_shiftBy 52 = .ok (.iload_n 3, 1) := by decide +kernel
theorem d_O_shiftBy_53 : decode b_O_shiftBy 53 = .ok (.lshr, 1) := by decide +kernel
theorem d_O_shiftBy_54 : decode b_O_shiftBy 54 = .ok (.aload_n 2, 1) := by decide +kernel
theorem d_O_shiftBy_55 : decode b_O_shiftBy 55 = .ok (.getfield 40, 3) := by decide +kernel
theorem d_O_shiftBy_58 : decode b_O_shiftBy 58 = .ok (.iload_n 3, 1) := by decide +kernel
theorem d_O_shiftBy_59 : decode b_O_shiftBy 59 = .ok (.lshr, 1) := by decide +kernel
theorem d_O_shiftBy_60 : decode b_O_shiftBy 60 = .ok (.invokevirtual 45, 3) := by decide +kernel
theorem d_O_shiftBy_63 : decode b_O_shiftBy 63 = .ok (.aload_n 0, 1) := by decide +kernel
theorem d_O_shiftBy_64 : decode b_O_shiftBy 64 = .ok (.aload_n 2, 1) := by decide +kernel
theorem d_O_shiftBy_65 : decode b_O_shiftBy 65 = .ok (.getfield 79, 3) := by decide +kernel
theorem d_O_shiftBy_68 : decode b_O_shiftBy 68 = .ok (.iload_n 3, 1) := by decide +kernel
theorem d_O_shiftBy_69 : decode b_O_shiftBy 69 = .ok (.lshr, 1) := by decide +kernel
theorem d_O_shiftBy_70 : decode b_O_shiftBy 70 = .ok (.aload_n 2, 1) := by decide +kernel
theorem d_O_shiftBy_71 : decode b_O_shiftBy 71 = .ok (.getfield 85, 3) := by decide +kernel
theorem d_O_shiftBy_74 : decode b_O_shiftBy 74 = .ok (.iload_n 3, 1) := by decide +kernel
theorem d_O_shiftBy_75 : decode b_O_shiftBy 75 = .ok (.lshr, 1) := by decide +kernel
theorem d_O_shiftBy_76 : decode b_O_shiftBy 76 = .ok (.invokevirtual 88, 3) := by decide +kernel
theorem d_O_shiftBy_79 : decode b_O_shiftBy 79 = .ok (.goto 99, 3) := by decide +kernel
theorem d_O_shiftBy_82 : decode b_O_shiftBy 82 = .ok (.aload_n 0, 1) := by decide +kernel
theorem d_O_shiftBy_83 : decode b_O_shiftBy 83 = .ok (.aload_n 2, 1) := by decide +kernel
theorem d_O_shiftBy_84 : decode b_O_shiftBy 84 = .ok (.getfield 36, 3) := by decide +kernel
theorem d_O_shiftBy_87 : decode b_O_shiftBy 87 = .ok (.iload_n 3, 1) := by decide +kernel
theorem d_O_shiftBy_88 : decode b_O_shiftBy 88 = .ok (.lshl, 1) := by decide +kernel
theorem d_O_shiftBy_89 : decode b_O_shiftBy 89 = .ok (.aload_n 2, 1) := by decide +kernel
theorem d_O_shiftBy_90 : decode b_O_shiftBy 90 = .ok (.getfield 40, 3) := by decide +kernel
theorem d_O_shiftBy_93 : decode b_O_shiftBy 93 = .ok (.iload_n 3, 1) := by decide +kernel
theorem d_O_shiftBy_94 : decode b_O_shiftBy 94 = .ok (.lshl, 1) := by decide +kernel
theorem d_O_shiftBy_95 : decode b_O_shiftBy 95 = .ok (.invokevirtual 45, 3) := by decide +kernel
theorem d_O_shiftBy_98 : decode b_O_shiftBy 98 = .ok (.aload_n 2, 1) := by decide +kernel
theorem d_O_shiftBy_99 : decode b_O_shiftBy 99 = .ok (.getfield 49, 3) := by decide +kernel
theorem d_O_shiftBy_102 : decode b_O_shiftBy 102 = .ok (.iload_n 3, 1) := by decide +kernel
theorem d_O_shiftBy_103 : decode b_O_shiftBy 103 = .ok (.lshl, 1) := by decide +kernel
theorem d_O_shiftBy_104 : decode b_O_shiftBy 104 = .ok (.iload_n 3, 1) := by decide +kernel
theorem d_O_shiftBy_105 : decode b_O_shiftBy 105 = .ok (.lushr, 1) := by decide +kernel
theorem d_O_shiftBy_106 : decode b_O_shiftBy 106 = .ok (.aload_n 2, 1) := by decide +kernel
theorem d_O_shiftBy_107 : decode b_O_shiftBy 107 = .ok (.getfield 49, 3) := by decide +kernel
theorem d_O_shiftBy_110 : decode b_O_shiftBy 110 = .ok (.lcmp, 1) := by decide +kernel
theorem d_O_shiftBy_111 : decode b_O_shiftBy 111 = .ok (.ifCond .ne 19, 3) := by decide +kernel
theorem d_O_shiftBy_114 : decode b_O_shiftBy 114 = .ok (.aload_n 0, 1) := by decide +kernel
theorem d_O_shiftBy_115 : decode b_O_shiftBy 115 = .ok (.aload_n 2, 1) := by decide +kernel
theorem d_O_shiftBy_116 : decode b_O_shiftBy 116 = .ok (.getfield 55, 3) := by decide +kernel
theorem d_O_shiftBy_119 : decode b_O_shiftBy 119 = .ok (.iload_n 3, 1) := by decide +kernel
theorem d_O_shiftBy_120 : decode b_O_shiftBy 120 = .ok (.lshl, 1) := by decide +kernel
theorem d_O_shiftBy_121 : decode b_O_shiftBy 121 = .ok (.aload_n 2, 1) := by decide +kernel
theorem d_O_shiftBy_122 : decode b_O_shiftBy 122 = .ok (.getfield 49, 3) := by decide +kernel
theorem d_O_shiftBy_125 : decode b_O_shiftBy 125 = .ok (.iload_n 3, 1) := by decide +kernel
theorem d_O_shiftBy_126 : decode b_O_shiftBy 126 = .ok (.lshl, 1) := by decide +kernel
theorem d_O_shiftBy_127 : decode b_O_shiftBy 127 = .ok (.invokevirtual 76, 3) := by decide +kernel
theorem d_O_shiftBy_130 : decode b_O_shiftBy 130 = .ok (.aload_n 2, 1) := by decide +kernel
theorem d_O_shiftBy_131 : decode b_O_shiftBy 131 = .ok (.getfield 79, 3) := by decide +kernel
theorem d_O_shiftBy_134 : decode b_O_shiftBy 134 = .ok (.iload_n 3, 1) := by decide +kernel
theorem d_O_shiftBy_135 : decode b_O_shiftBy 135 = .ok (.lshl, 1) := by decide +kernel
theorem d_O_shiftBy_136 : decode b_O_shiftBy 136 = .ok (.iload_n 3, 1) := by decide +kernel
theorem d_O_shiftBy_137 : decode b_O_shiftBy 137 = .ok (.lshr, 1) := by decide +kernel
theorem d_O_shiftBy_138 : decode b_O_shiftBy 138 = .ok (.aload_n 2, 1) := by decide +kernel
theorem d_O_shiftBy_139 : decode b_O_shiftBy 139 = .ok (.getfield 79, 3) := by decide +kernel
theorem d_O_shiftBy_142 : decode b_O_shiftBy 142 = .ok (.lcmp, 1) := by decide +kernel
theorem d_O_shiftBy_143 : decode b_O_shiftBy 143 = .ok (.ifCond .ne 35, 3) := by decide +kernel
theorem d_O_shiftBy_146 : decode b_O_shiftBy 146 = .ok (.aload_n 2, 1) := by decide +kernel
theorem d_O_shiftBy_147 : decode b_O_shiftBy 147 = .ok (.getfield 85, 3) := by decide +kernel
theorem d_O_shiftBy_150 : decode b_O_shiftBy 150 = .ok (.iload_n 3, 1) := by decide +kernel
theorem d_O_shiftBy_151 : decode b_O_shiftBy 151 = .ok (.lshl, 1) := by decide +kernel
theorem d_O_shiftBy_152 : decode b_O_shiftBy 152 = .ok (.iload_n 3, 1) := by decide +kernel
theorem d_O_shiftBy_153 : decode b_O_shiftBy 153 = .ok (.lshr, 1) := by decide +kernel
theorem d_O_shiftBy_154 : decode b_O_shiftBy 154 = .ok (.aload_n 2, 1) := by decide +kernel
theorem d_O_shiftBy_155 : decode b_O_shiftBy 155 = .ok (.getfield 85, 3) := by decide +kernel
theorem d_O_shiftBy_158 : decode b_O_shiftBy 158 = .ok (.lcmp, 1) := by decide +kernel
theorem d_O_shiftBy_159 : decode b_O_shiftBy 159 = .ok (.ifCond .ne 19, 3) := by decide +kernel
theorem d_O_shiftBy_162 : decode b_O_shiftBy 162 = .ok (.aload_n 0, 1) := by decide +kernel
theorem d_O_shiftBy_163 : decode b_O_shiftBy 163 = .ok (.aload_n 2, 1) := by decide +kernel
theorem d_O_shiftBy_164 : decode b_O_shiftBy 164 = .ok (.getfield 79, 3) := by decide +kernel
theorem d_O_shiftBy_167 : decode b_O_shiftBy 167 = .ok (.iload_n 3, 1) := by decide +kernel
theorem d_O_shiftBy_168 : decode b_O_shiftBy 168 = .ok (.lshl, 1) := by decide +kernel
theorem d_O_shiftBy_169 : decode b_O_shiftBy 169 = .ok (.aload_n 2, 1) := by decide +kernel
theorem d_O_shiftBy_170 : decode b_O_shiftBy 170 = .ok (.getfield 85, 3) := by decide +kernel
theorem d_O_shiftBy_173 : decode b_O_shiftBy 173 = .ok (.iload_n 3, 1) := by decide +kernel
theorem d_O_shiftBy_174 : decode b_O_shiftBy 174 = .ok (.lshl, 1) := by decide +kernel
theorem d_O_shiftBy_175 : decode b_O_shiftBy 175 = .ok (.invokevirtual 88, 3) := by decide +kernel
theorem d_O_shiftBy_178 : decode b_O_shiftBy 178 = .ok (.return_, 1) := by decide +kernel
def f_O_shiftBy_175g (z0 : VV) (p1 : Int32) (z2 : VV) (p3 : Int32) (g175 : VV) : VV := g175
def f_O_shiftBy_130 (z0 : VV) (p1 : Int32) (z2 : VV) (p3 : Int32) (w130_0_0 : Int64) (w130_0_1 : Int64) (w130_0_2 : Int64) (w130_0_3 : Int64) (w130_0_4 : Int64) (w130_0_5 : Int64) (w130_0_6 : Bool) : VV := (if ((z2.2.2.2.2.1 <<< (p3.toInt64 &&& 63)) >>> (p3.toInt64 &&& 63)) = z2.2.2.2.2.1 then (if ((z2.2.2.2.2.2.1 <<< (p3.toInt64 &&& 63)) >>> (p3.toInt64 &&& 63)) = z2.2.2.2.2.2.1 then f_O_shiftBy_175g z0 p1 z2 p3 (f_V_saySigned ((w130_0_0, w130_0_1, w130_0_2, w130_0_3, w130_0_4, w130_0_5, w130_0_6)) (z2.2.2.2.2.1 <<< (p3.toInt64 &&& 63)) (z2.2.2.2.2.2.1 <<< (p3.toInt64 &&& 63))) else ((w130_0_0, w130_0_1, w130_0_2, w130_0_3, w130_0_4, w130_0_5, w130_0_6))) else ((w130_0_0, w130_0_1, w130_0_2, w130_0_3, w130_0_4, w130_0_5, w130_0_6)))
def f_O_shiftBy_127g (z0 : VV) (p1 : Int32) (z2 : VV) (p3 : Int32) (g127 : VV) : VV := f_O_shiftBy_130 z0 p1 z2 p3 g127.1 g127.2.1 g127.2.2.1 g127.2.2.2.1 g127.2.2.2.2.1 g127.2.2.2.2.2.1 g127.2.2.2.2.2.2
def f_O_shiftBy_95g (z0 : VV) (p1 : Int32) (z2 : VV) (p3 : Int32) (g95 : VV) : VV := (if (((z2.2.2.2.1 <<< (p3.toInt64 &&& 63)).toUInt64 >>> (p3.toInt64.toUInt64 &&& Int64.toUInt64 63)).toInt64) = z2.2.2.2.1 then f_O_shiftBy_127g z0 p1 z2 p3 (f_V_sayUnsigned g95 (z2.2.2.1 <<< (p3.toInt64 &&& 63)) (z2.2.2.2.1 <<< (p3.toInt64 &&& 63))) else f_O_shiftBy_130 z0 p1 z2 p3 g95.1 g95.2.1 g95.2.2.1 g95.2.2.2.1 g95.2.2.2.2.1 g95.2.2.2.2.2.1 g95.2.2.2.2.2.2)
def f_O_shiftBy_76g (z0 : VV) (p1 : Int32) (z2 : VV) (p3 : Int32) (g76 : VV) : VV := g76
def f_O_shiftBy_60g (z0 : VV) (p1 : Int32) (z2 : VV) (p3 : Int32) (g60 : VV) : VV := f_O_shiftBy_76g z0 p1 z2 p3 (f_V_saySigned g60 (z2.2.2.2.2.1 >>> (p3.toInt64 &&& 63)) (z2.2.2.2.2.2.1 >>> (p3.toInt64 &&& 63)))
def f_O_shiftBy_35g (z0 : VV) (p1 : Int32) (z2 : VV) (p3 : Int32) (g35 : VV) : VV := g35
def f_O_shiftBy_19g (z0 : VV) (p1 : Int32) (z2 : VV) (p3 : Int32) (g19 : VV) : VV := f_O_shiftBy_35g z0 p1 z2 p3 (f_V_sayUnsigned g19 ((z2.2.2.1.toUInt64 >>> (p3.toInt64.toUInt64 &&& Int64.toUInt64 63)).toInt64) ((z2.2.2.2.1.toUInt64 >>> (p3.toInt64.toUInt64 &&& Int64.toUInt64 63)).toInt64))
def f_O_shiftBy (z0 : VV) (p1 : Int32) (z2 : VV) (p3 : Int32) : VV := (if p1 = 9 then f_O_shiftBy_19g z0 p1 z2 p3 (f_V_sayBits z0 ((z2.1.toUInt64 >>> (p3.toInt64.toUInt64 &&& Int64.toUInt64 63)).toInt64) ((z2.2.1.toUInt64 >>> (p3.toInt64.toUInt64 &&& Int64.toUInt64 63)).toInt64)) else (if p1 = 10 then f_O_shiftBy_60g z0 p1 z2 p3 (f_V_sayBits z0 (z2.1 >>> (p3.toInt64 &&& 63)) (z2.2.1 >>> (p3.toInt64 &&& 63))) else f_O_shiftBy_95g z0 p1 z2 p3 (f_V_sayBits z0 (z2.1 <<< (p3.toInt64 &&& 63)) (z2.2.1 <<< (p3.toInt64 &&& 63)))))
set_option maxRecDepth 100000 in
set_option maxHeartbeats 4000000 in
theorem c_O_shiftBy (l : Launch) (dC : Nat → ClassId) (dI : Nat → Nat → Nat) (h0 : Nat) (h2 : Nat) (sz : Nat) (z0 : VV) (p1 : Int32) (z2 : VV) (p3 : Int32) : Met l y_O_shiftBy w_O_shiftBy ({ frames := 1, cells := 0, slots := 0, locals := 24 } : Room) (va_Pc [.ref h0, .int (p1), .ref h2, .int (p3)] (mP (dC, dI) [(h0, vE z0), (h2, vE z2)] sz)) (va_Qv (fun _ : Unit => True) (mB (dC, dI) (va_A [(h0, vE z0), (h2, vE z2)] sz) [(h0, vE (f_O_shiftBy z0 p1 z2 p3)), (h2, vE z2)]) (va_A [(h0, vE z0), (h2, vE z2)] sz)) 0 0 (va_A [(h0, vE z0), (h2, vE z2)] sz) := by
  refine Met.ofW (cc := b_O_shiftBy) (maxL := 4) (ret := none) (by decide) rfl ?_
  intro p e s m args below meth c s₁ B hml hv
  obtain ⟨rfl, hsz, hP, hK, hD0⟩ := hv
  have hx := B.exec
  have hb := B.bytes
  have hr := B.returns
  have hts := atoms_spec (ws := w_O_shiftBy) B.pre
  have hG : ∀ w ∈ gG, w.before _ s = true := fun w h => hts w (List.mem_cons_of_mem _ h)
  have hown : s.vm.findClass R_O = some m.cls := findClass_of_methodNamed B.named
  have hlocks := B.notSynchronized
  subst hsz
  have hD := hD0.self (sz := s.heap.size)
  generalize hAe : va_A [(h0, vE z0), (h2, vE z2)] s.heap.size = A at hD ⊢
  have hA : ∀ q : Nat, s.heap.size ≤ q → A q := fun q h => by rw [← hAe]; exact Or.inr h
  have hS : va_S A s.heap s.heap [] := va_S.rf
  have hP : va_P (dC, dI) classes [(h0, .inr (0, [.long (z0.1), .long (z0.2.1), .long (z0.2.2.1), .long (z0.2.2.2.1), .long (z0.2.2.2.2.1), .long (z0.2.2.2.2.2.1), .int (bI z0.2.2.2.2.2.2)])), (h2, .inr (0, [.long (z2.1), .long (z2.2.1), .long (z2.2.2.1), .long (z2.2.2.2.1), .long (z2.2.2.2.2.1), .long (z2.2.2.2.2.2.1), .int (bI z2.2.2.2.2.2.2)]))] s.heap := hP
  have hD : va_D A [(h0, .inr (0, [.long (z0.1), .long (z0.2.1), .long (z0.2.2.1), .long (z0.2.2.2.1), .long (z0.2.2.2.2.1), .long (z0.2.2.2.2.2.1), .int (bI z0.2.2.2.2.2.2)])), (h2, .inr (0, [.long (z2.1), .long (z2.2.1), .long (z2.2.2.1), .long (z2.2.2.2.1), .long (z2.2.2.2.2.1), .long (z2.2.2.2.2.2.1), .int (bI z2.2.2.2.2.2.2)]))] := hD
  have hl := lv_entry ([.ref h0, .int (p1), .ref h2, .int (p3)]) (n := 4) (Nat.le_of_ble_eq_true rfl)
  rw [lg_entry_eq]
  generalize (lg_sl ([.ref h0, .int (p1), .ref h2, .int (p3)]) ++ List.replicate (4 - (lg_sl ([.ref h0, .int (p1), .ref h2, .int (p3)])).length) Slot.unset).toArray = ls at hl ⊢
  have hl : lv_has ls 4 [(0, .ref h0), (1, .int (p1)), (2, .ref h2), (3, .int (p3))] := hl
  have K175g : ∀ (g175 : VV) (hj : f_O_shiftBy z0 p1 z2 p3 = f_O_shiftBy_175g z0 p1 z2 p3 g175) (H : Heap) (locs : List Loc) (hP : va_P (dC, dI) classes [(h0, .inr (0, [.long (g175.1), .long (g175.2.1), .long (g175.2.2.1), .long (g175.2.2.2.1), .long (g175.2.2.2.2.1), .long (g175.2.2.2.2.2.1), .int (bI g175.2.2.2.2.2.2)])), (h2, .inr (0, [.long (z2.1), .long (z2.2.1), .long (z2.2.2.1), .long (z2.2.2.2.1), .long (z2.2.2.2.2.1), .long (z2.2.2.2.2.2.1), .int (bI z2.2.2.2.2.2.2)]))] H) (hD : va_D A [(h0, .inr (0, [.long (g175.1), .long (g175.2.1), .long (g175.2.2.1), .long (g175.2.2.2.1), .long (g175.2.2.2.2.1), .long (g175.2.2.2.2.2.1), .int (bI g175.2.2.2.2.2.2)])), (h2, .inr (0, [.long (z2.1), .long (z2.2.1), .long (z2.2.2.1), .long (z2.2.2.2.1), .long (z2.2.2.2.2.1), .long (z2.2.2.2.2.2.1), .int (bI z2.2.2.2.2.2.2)]))]) (hS : va_S A s.heap H locs) (ls : Array Slot) (hl : lv_has ls 4 []), W p l e (headSpec w_O_shiftBy ({ frames := 1, cells := 0, slots := 0, locals := 24 } : Room)).room s m ([.ref h0, .int (p1), .ref h2, .int (p3)] : List Value).toArray below meth c H locs 0 0 (MQ below (va_Qv (fun _ : Unit => True) (mB (dC, dI) A [(h0, vE (f_O_shiftBy z0 p1 z2 p3)), (h2, vE z2)]) A) ([.ref h0, .int (p1), .ref h2, .int (p3)] : List Value).toArray s 0 0 A) (F0 m 178 ls []) := by
    intro g175 hj H locs hP hD hS ls hl
    have fe : f_O_shiftBy z0 p1 z2 p3 = g175 := hj.trans rfl
    exact W.vret hx hb hr (fun t ht hW => ⟨⟨(), rfl, trivial, by rw [ht, fe]; (try simp only [vE_mk]); exact hP, by rw [fe]; (try simp only [vE_mk]); exact hD⟩, hS.F ht⟩) hS.2.2 d_O_shiftBy_178
  have K130 : ∀ (w130_0_0 : Int64) (w130_0_1 : Int64) (w130_0_2 : Int64) (w130_0_3 : Int64) (w130_0_4 : Int64) (w130_0_5 : Int64) (w130_0_6 : Bool) (hj : f_O_shiftBy z0 p1 z2 p3 = f_O_shiftBy_130 z0 p1 z2 p3 w130_0_0 w130_0_1 w130_0_2 w130_0_3 w130_0_4 w130_0_5 w130_0_6) (H : Heap) (locs : List Loc) (hP : va_P (dC, dI) classes [(h0, .inr (0, [.long (w130_0_0), .long (w130_0_1), .long (w130_0_2), .long (w130_0_3), .long (w130_0_4), .long (w130_0_5), .int (bI w130_0_6)])), (h2, .inr (0, [.long (z2.1), .long (z2.2.1), .long (z2.2.2.1), .long (z2.2.2.2.1), .long (z2.2.2.2.2.1), .long (z2.2.2.2.2.2.1), .int (bI z2.2.2.2.2.2.2)]))] H) (hD : va_D A [(h0, .inr (0, [.long (w130_0_0), .long (w130_0_1), .long (w130_0_2), .long (w130_0_3), .long (w130_0_4), .long (w130_0_5), .int (bI w130_0_6)])), (h2, .inr (0, [.long (z2.1), .long (z2.2.1), .long (z2.2.2.1), .long (z2.2.2.2.1), .long (z2.2.2.2.2.1), .long (z2.2.2.2.2.2.1), .int (bI z2.2.2.2.2.2.2)]))]) (hS : va_S A s.heap H locs) (ls : Array Slot) (hl : lv_has ls 4 [(0, .ref h0), (2, .ref h2), (3, .int (p3))]), W p l e (headSpec w_O_shiftBy ({ frames := 1, cells := 0, slots := 0, locals := 24 } : Room)).room s m ([.ref h0, .int (p1), .ref h2, .int (p3)] : List Value).toArray below meth c H locs 0 0 (MQ below (va_Qv (fun _ : Unit => True) (mB (dC, dI) A [(h0, vE (f_O_shiftBy z0 p1 z2 p3)), (h2, vE z2)]) A) ([.ref h0, .int (p1), .ref h2, .int (p3)] : List Value).toArray s 0 0 A) (F0 m 130 ls []) := by
    intro w130_0_0 w130_0_1 w130_0_2 w130_0_3 w130_0_4 w130_0_5 w130_0_6 hj H locs hP hD hS ls hl
    refine lv_aload_n hx hb d_O_shiftBy_130 rfl (lv_at hl 1 rfl) ?_
    refine va_get (D := (dC, dI)) (ci := 0) (v := .long (z2.2.2.2.2.1)) (C := R_V) (T := F_V) (N := 7) hx hb hts (fun w h => List.mem_cons_of_mem _ (uw_V w h)) hown hK hP 1 rfl rfl 4 (by decide) (hG (.fieldLink R_O 79 "ValueSieve$Value" "least" "J") gw34) (fun _ h9 => h9) rfl d_O_shiftBy_131 ?_
    refine lv_iload_n hx hb d_O_shiftBy_134 rfl (lv_at hl 2 rfl) ?_
    refine lv_lshl (v := z2.2.2.2.2.1 <<< (p3.toInt64 &&& 63)) hx hb d_O_shiftBy_135 rfl ?_
    refine lv_iload_n hx hb d_O_shiftBy_136 rfl (lv_at hl 2 rfl) ?_
    refine lv_lshr (v := (z2.2.2.2.2.1 <<< (p3.toInt64 &&& 63)) >>> (p3.toInt64 &&& 63)) hx hb d_O_shiftBy_137 rfl ?_
    refine lv_aload_n hx hb d_O_shiftBy_138 rfl (lv_at hl 1 rfl) ?_
    refine va_get (D := (dC, dI)) (ci := 0) (v := .long (z2.2.2.2.2.1)) (C := R_V) (T := F_V) (N := 7) hx hb hts (fun w h => List.mem_cons_of_mem _ (uw_V w h)) hown hK hP 1 rfl rfl 4 (by decide) (hG (.fieldLink R_O 79 "ValueSieve$Value" "least" "J") gw34) (fun _ h9 => h9) rfl d_O_shiftBy_139 ?_
    refine wl_ne (tgt := 178) hx hb d_O_shiftBy_142 d_O_shiftBy_143 (by decide) (fun e1_178 => ?_) (fun e1_178 => ?_)
    · have fe : f_O_shiftBy z0 p1 z2 p3 = ((w130_0_0, w130_0_1, w130_0_2, w130_0_3, w130_0_4, w130_0_5, w130_0_6)) := hj.trans (by unfold f_O_shiftBy_130; first | with_reducible exact if_neg e1_178 | exact if_neg e1_178)
      exact W.vret hx hb hr (fun t ht hW => ⟨⟨(), rfl, trivial, by rw [ht, fe]; (try simp only [vE_mk]); exact hP, by rw [fe]; (try simp only [vE_mk]); exact hD⟩, hS.F ht⟩) hS.2.2 d_O_shiftBy_178
    · refine lv_aload_n hx hb d_O_shiftBy_146 rfl (lv_at hl 1 rfl) ?_
      refine va_get (D := (dC, dI)) (ci := 0) (v := .long (z2.2.2.2.2.2.1)) (C := R_V) (T := F_V) (N := 7) hx hb hts (fun w h => List.mem_cons_of_mem _ (uw_V w h)) hown hK hP 1 rfl rfl 5 (by decide) (hG (.fieldLink R_O 85 "ValueSieve$Value" "greatest" "J") gw38) (fun _ h9 => h9) rfl d_O_shiftBy_147 ?_
      refine lv_iload_n hx hb d_O_shiftBy_150 rfl (lv_at hl 2 rfl) ?_
      refine lv_lshl (v := z2.2.2.2.2.2.1 <<< (p3.toInt64 &&& 63)) hx hb d_O_shiftBy_151 rfl ?_
      refine lv_iload_n hx hb d_O_shiftBy_152 rfl (lv_at hl 2 rfl) ?_
      refine lv_lshr (v := (z2.2.2.2.2.2.1 <<< (p3.toInt64 &&& 63)) >>> (p3.toInt64 &&& 63)) hx hb d_O_shiftBy_153 rfl ?_
      refine lv_aload_n hx hb d_O_shiftBy_154 rfl (lv_at hl 1 rfl) ?_
      refine va_get (D := (dC, dI)) (ci := 0) (v := .long (z2.2.2.2.2.2.1)) (C := R_V) (T := F_V) (N := 7) hx hb hts (fun w h => List.mem_cons_of_mem _ (uw_V w h)) hown hK hP 1 rfl rfl 5 (by decide) (hG (.fieldLink R_O 85 "ValueSieve$Value" "greatest" "J") gw38) (fun _ h9 => h9) rfl d_O_shiftBy_155 ?_
      refine wl_ne (tgt := 178) hx hb d_O_shiftBy_158 d_O_shiftBy_159 (by decide) (fun e2_178 => ?_) (fun e2_178 => ?_)
      · have fe : f_O_shiftBy z0 p1 z2 p3 = ((w130_0_0, w130_0_1, w130_0_2, w130_0_3, w130_0_4, w130_0_5, w130_0_6)) := hj.trans (by unfold f_O_shiftBy_130; first | with_reducible exact (if_pos e1_178).trans (if_neg e2_178) | exact (if_pos e1_178).trans (if_neg e2_178))
        exact W.vret hx hb hr (fun t ht hW => ⟨⟨(), rfl, trivial, by rw [ht, fe]; (try simp only [vE_mk]); exact hP, by rw [fe]; (try simp only [vE_mk]); exact hD⟩, hS.F ht⟩) hS.2.2 d_O_shiftBy_178
      · refine lv_aload_n hx hb d_O_shiftBy_162 rfl (lv_at hl 0 rfl) ?_
        refine lv_aload_n hx hb d_O_shiftBy_163 rfl (lv_at hl 1 rfl) ?_
        refine va_get (D := (dC, dI)) (ci := 0) (v := .long (z2.2.2.2.2.1)) (C := R_V) (T := F_V) (N := 7) hx hb hts (fun w h => List.mem_cons_of_mem _ (uw_V w h)) hown hK hP 1 rfl rfl 4 (by decide) (hG (.fieldLink R_O 79 "ValueSieve$Value" "least" "J") gw34) (fun _ h9 => h9) rfl d_O_shiftBy_164 ?_
        refine lv_iload_n hx hb d_O_shiftBy_167 rfl (lv_at hl 2 rfl) ?_
        refine lv_lshl (v := z2.2.2.2.2.1 <<< (p3.toInt64 &&& 63)) hx hb d_O_shiftBy_168 rfl ?_
        refine lv_aload_n hx hb d_O_shiftBy_169 rfl (lv_at hl 1 rfl) ?_
        refine va_get (D := (dC, dI)) (ci := 0) (v := .long (z2.2.2.2.2.2.1)) (C := R_V) (T := F_V) (N := 7) hx hb hts (fun w h => List.mem_cons_of_mem _ (uw_V w h)) hown hK hP 1 rfl rfl 5 (by decide) (hG (.fieldLink R_O 85 "ValueSieve$Value" "greatest" "J") gw38) (fun _ h9 => h9) rfl d_O_shiftBy_170 ?_
        refine lv_iload_n hx hb d_O_shiftBy_173 rfl (lv_at hl 2 rfl) ?_
        refine lv_lshl (v := z2.2.2.2.2.2.1 <<< (p3.toInt64 &&& 63)) hx hb d_O_shiftBy_174 rfl ?_
        refine mg_v (F := f_V_saySigned ((w130_0_0, w130_0_1, w130_0_2, w130_0_3, w130_0_4, w130_0_5, w130_0_6)) (z2.2.2.2.2.1 <<< (p3.toInt64 &&& 63)) (z2.2.2.2.2.2.1 <<< (p3.toInt64 &&& 63))) (wc := [(h0, vE ((w130_0_0, w130_0_1, w130_0_2, w130_0_3, w130_0_4, w130_0_5, w130_0_6)))]) (w1 := fun g175 => [(h0, vE g175)]) (wr := [(h2, .inr (0, [.long (z2.1), .long (z2.2.1), .long (z2.2.2.1), .long (z2.2.2.2.1), .long (z2.2.2.2.2.1), .long (z2.2.2.2.2.2.1), .int (bI z2.2.2.2.2.2.2)]))]) (ws' := fun g175 => [(h0, .inr (0, [.long (g175.1), .long (g175.2.1), .long (g175.2.2.1), .long (g175.2.2.2.1), .long (g175.2.2.2.2.1), .long (g175.2.2.2.2.2.1), .int (bI g175.2.2.2.2.2.2)])), (h2, .inr (0, [.long (z2.1), .long (z2.2.1), .long (z2.2.2.1), .long (z2.2.2.2.1), .long (z2.2.2.2.2.1), .long (z2.2.2.2.2.2.1), .int (bI z2.2.2.2.2.2.2)]))]) (va_runV (As := [.long (z2.2.2.2.2.1 <<< (p3.toInt64 &&& 63)), .long (z2.2.2.2.2.2.1 <<< (p3.toInt64 &&& 63))]) (rest := []) ⟨hx, hb, hml, hown, hts⟩ (c_V_saySigned l dC dI h0 H.size ((w130_0_0, w130_0_1, w130_0_2, w130_0_3, w130_0_4, w130_0_5, w130_0_6)) (z2.2.2.2.2.1 <<< (p3.toInt64 &&& 63)) (z2.2.2.2.2.2.1 <<< (p3.toInt64 &&& 63))) (cwV 2 hts (gV gw197 gw90 gw91 gw1 gw92) rfl rfl rfl (by decide +kernel) ⟨(Nat.le_of_ble_eq_true rfl), (Nat.le_of_ble_eq_true rfl)⟩) ⟨blm, va_recv hK hP (ci := 0) (q0 := 0) rfl rfl, fun U hU hW => ⟨rfl, by rw [hU], by rw [hU]; exact hP.sub [0] rfl, va_K.moved hW.alike hK, (hD.sub [0] (by decide) rfl).weaken (fun _ _ _ _ => trivial)⟩⟩ rfl rfl hl.1 rfl (lv_room (Nat.le_of_ble_eq_true rfl)) d_O_shiftBy_175 ⟨Nat.zero_le _, Nat.zero_le _⟩) hP hD hS hA [0] [1] [1, 0] rfl rfl (by decide) (by decide) (fun _ => rfl) (by decide) (fun g175 eg175 H locs hP hD hS => ?_)
        refine K175g g175 (Eq.trans (hj.trans (by unfold f_O_shiftBy_130; first | with_reducible exact (if_pos e1_178).trans (if_pos e2_178) | exact (if_pos e1_178).trans (if_pos e2_178))) (congrArg (fun g175 => f_O_shiftBy_175g z0 p1 z2 p3 g175) eg175)) H locs ?_ ?_ hS ls (lv_sub hl [] rfl)
        · with_reducible exact hP
        · with_reducible exact hD
  have K127g : ∀ (g127 : VV) (hj : f_O_shiftBy z0 p1 z2 p3 = f_O_shiftBy_127g z0 p1 z2 p3 g127) (H : Heap) (locs : List Loc) (hP : va_P (dC, dI) classes [(h0, .inr (0, [.long (g127.1), .long (g127.2.1), .long (g127.2.2.1), .long (g127.2.2.2.1), .long (g127.2.2.2.2.1), .long (g127.2.2.2.2.2.1), .int (bI g127.2.2.2.2.2.2)])), (h2, .inr (0, [.long (z2.1), .long (z2.2.1), .long (z2.2.2.1), .long (z2.2.2.2.1), .long (z2.2.2.2.2.1), .long (z2.2.2.2.2.2.1), .int (bI z2.2.2.2.2.2.2)]))] H) (hD : va_D A [(h0, .inr (0, [.long (g127.1), .long (g127.2.1), .long (g127.2.2.1), .long (g127.2.2.2.1), .long (g127.2.2.2.2.1), .long (g127.2.2.2.2.2.1), .int (bI g127.2.2.2.2.2.2)])), (h2, .inr (0, [.long (z2.1), .long (z2.2.1), .long (z2.2.2.1), .long (z2.2.2.2.1), .long (z2.2.2.2.2.1), .long (z2.2.2.2.2.2.1), .int (bI z2.2.2.2.2.2.2)]))]) (hS : va_S A s.heap H locs) (ls : Array Slot) (hl : lv_has ls 4 [(0, .ref h0), (2, .ref h2), (3, .int (p3))]), W p l e (headSpec w_O_shiftBy ({ frames := 1, cells := 0, slots := 0, locals := 24 } : Room)).room s m ([.ref h0, .int (p1), .ref h2, .int (p3)] : List Value).toArray below meth c H locs 0 0 (MQ below (va_Qv (fun _ : Unit => True) (mB (dC, dI) A [(h0, vE (f_O_shiftBy z0 p1 z2 p3)), (h2, vE z2)]) A) ([.ref h0, .int (p1), .ref h2, .int (p3)] : List Value).toArray s 0 0 A) (F0 m 130 ls []) := by
    intro g127 hj H locs hP hD hS ls hl
    refine K130 g127.1 g127.2.1 g127.2.2.1 g127.2.2.2.1 g127.2.2.2.2.1 g127.2.2.2.2.2.1 g127.2.2.2.2.2.2 (hj.trans rfl) H locs ?_ ?_ hS ls (lv_sub hl [0, 1, 2] rfl)
    · with_reducible exact hP
    · with_reducible exact hD
  have K95g : ∀ (g95 : VV) (hj : f_O_shiftBy z0 p1 z2 p3 = f_O_shiftBy_95g z0 p1 z2 p3 g95) (H : Heap) (locs : List Loc) (hP : va_P (dC, dI) classes [(h0, .inr (0, [.long (g95.1), .long (g95.2.1), .long (g95.2.2.1), .long (g95.2.2.2.1), .long (g95.2.2.2.2.1), .long (g95.2.2.2.2.2.1), .int (bI g95.2.2.2.2.2.2)])), (h2, .inr (0, [.long (z2.1), .long (z2.2.1), .long (z2.2.2.1), .long (z2.2.2.2.1), .long (z2.2.2.2.2.1), .long (z2.2.2.2.2.2.1), .int (bI z2.2.2.2.2.2.2)]))] H) (hD : va_D A [(h0, .inr (0, [.long (g95.1), .long (g95.2.1), .long (g95.2.2.1), .long (g95.2.2.2.1), .long (g95.2.2.2.2.1), .long (g95.2.2.2.2.2.1), .int (bI g95.2.2.2.2.2.2)])), (h2, .inr (0, [.long (z2.1), .long (z2.2.1), .long (z2.2.2.1), .long (z2.2.2.2.1), .long (z2.2.2.2.2.1), .long (z2.2.2.2.2.2.1), .int (bI z2.2.2.2.2.2.2)]))]) (hS : va_S A s.heap H locs) (ls : Array Slot) (hl : lv_has ls 4 [(0, .ref h0), (2, .ref h2), (3, .int (p3))]), W p l e (headSpec w_O_shiftBy ({ frames := 1, cells := 0, slots := 0, locals := 24 } : Room)).room s m ([.ref h0, .int (p1), .ref h2, .int (p3)] : List Value).toArray below meth c H locs 0 0 (MQ below (va_Qv (fun _ : Unit => True) (mB (dC, dI) A [(h0, vE (f_O_shiftBy z0 p1 z2 p3)), (h2, vE z2)]) A) ([.ref h0, .int (p1), .ref h2, .int (p3)] : List Value).toArray s 0 0 A) (F0 m 98 ls []) := by
    intro g95 hj H locs hP hD hS ls hl
    refine lv_aload_n hx hb d_O_shiftBy_98 rfl (lv_at hl 1 rfl) ?_
    refine va_get (D := (dC, dI)) (ci := 0) (v := .long (z2.2.2.2.1)) (C := R_V) (T := F_V) (N := 7) hx hb hts (fun w h => List.mem_cons_of_mem _ (uw_V w h)) hown hK hP 1 rfl rfl 3 (by decide) (hG (.fieldLink R_O 49 "ValueSieve$Value" "high" "J") gw30) (fun _ h9 => h9) rfl d_O_shiftBy_99 ?_
    refine lv_iload_n hx hb d_O_shiftBy_102 rfl (lv_at hl 2 rfl) ?_
    refine lv_lshl (v := z2.2.2.2.1 <<< (p3.toInt64 &&& 63)) hx hb d_O_shiftBy_103 rfl ?_
    refine lv_iload_n hx hb d_O_shiftBy_104 rfl (lv_at hl 2 rfl) ?_
    refine lv_lushr (v := ((z2.2.2.2.1 <<< (p3.toInt64 &&& 63)).toUInt64 >>> (p3.toInt64.toUInt64 &&& Int64.toUInt64 63)).toInt64) hx hb d_O_shiftBy_105 rfl ?_
    refine lv_aload_n hx hb d_O_shiftBy_106 rfl (lv_at hl 1 rfl) ?_
    refine va_get (D := (dC, dI)) (ci := 0) (v := .long (z2.2.2.2.1)) (C := R_V) (T := F_V) (N := 7) hx hb hts (fun w h => List.mem_cons_of_mem _ (uw_V w h)) hown hK hP 1 rfl rfl 3 (by decide) (hG (.fieldLink R_O 49 "ValueSieve$Value" "high" "J") gw30) (fun _ h9 => h9) rfl d_O_shiftBy_107 ?_
    refine wl_ne (tgt := 130) hx hb d_O_shiftBy_110 d_O_shiftBy_111 (by decide) (fun e1_130 => ?_) (fun e1_130 => ?_)
    · refine K130 g95.1 g95.2.1 g95.2.2.1 g95.2.2.2.1 g95.2.2.2.2.1 g95.2.2.2.2.2.1 g95.2.2.2.2.2.2 (hj.trans (by unfold f_O_shiftBy_95g; first | with_reducible exact if_neg e1_130 | exact if_neg e1_130)) H locs ?_ ?_ hS ls (lv_sub hl [0, 1, 2] rfl)
      · with_reducible exact hP
      · with_reducible exact hD
    · refine lv_aload_n hx hb d_O_shiftBy_114 rfl (lv_at hl 0 rfl) ?_
      refine lv_aload_n hx hb d_O_shiftBy_115 rfl (lv_at hl 1 rfl) ?_
      refine va_get (D := (dC, dI)) (ci := 0) (v := .long (z2.2.2.1)) (C := R_V) (T := F_V) (N := 7) hx hb hts (fun w h => List.mem_cons_of_mem _ (uw_V w h)) hown hK hP 1 rfl rfl 2 (by decide) (hG (.fieldLink R_O 55 "ValueSieve$Value" "low" "J") gw26) (fun _ h9 => h9) rfl d_O_shiftBy_116 ?_
      refine lv_iload_n hx hb d_O_shiftBy_119 rfl (lv_at hl 2 rfl) ?_
      refine lv_lshl (v := z2.2.2.1 <<< (p3.toInt64 &&& 63)) hx hb d_O_shiftBy_120 rfl ?_
      refine lv_aload_n hx hb d_O_shiftBy_121 rfl (lv_at hl 1 rfl) ?_
      refine va_get (D := (dC, dI)) (ci := 0) (v := .long (z2.2.2.2.1)) (C := R_V) (T := F_V) (N := 7) hx hb hts (fun w h => List.mem_cons_of_mem _ (uw_V w h)) hown hK hP 1 rfl rfl 3 (by decide) (hG (.fieldLink R_O 49 "ValueSieve$Value" "high" "J") gw30) (fun _ h9 => h9) rfl d_O_shiftBy_122 ?_
      refine lv_iload_n hx hb d_O_shiftBy_125 rfl (lv_at hl 2 rfl) ?_
      refine lv_lshl (v := z2.2.2.2.1 <<< (p3.toInt64 &&& 63)) hx hb d_O_shiftBy_126 rfl ?_
      refine mg_v (F := f_V_sayUnsigned g95 (z2.2.2.1 <<< (p3.toInt64 &&& 63)) (z2.2.2.2.1 <<< (p3.toInt64 &&& 63))) (wc := [(h0, vE g95)]) (w1 := fun g127 => [(h0, vE g127)]) (wr := [(h2, .inr (0, [.long (z2.1), .long (z2.2.1), .long (z2.2.2.1), .long (z2.2.2.2.1), .long (z2.2.2.2.2.1), .long (z2.2.2.2.2.2.1), .int (bI z2.2.2.2.2.2.2)]))]) (ws' := fun g127 => [(h0, .inr (0, [.long (g127.1), .long (g127.2.1), .long (g127.2.2.1), .long (g127.2.2.2.1), .long (g127.2.2.2.2.1), .long (g127.2.2.2.2.2.1), .int (bI g127.2.2.2.2.2.2)])), (h2, .inr (0, [.long (z2.1), .long (z2.2.1), .long (z2.2.2.1), .long (z2.2.2.2.1), .long (z2.2.2.2.2.1), .long (z2.2.2.2.2.2.1), .int (bI z2.2.2.2.2.2.2)]))]) (va_runV (As := [.long (z2.2.2.1 <<< (p3.toInt64 &&& 63)), .long (z2.2.2.2.1 <<< (p3.toInt64 &&& 63))]) (rest := []) ⟨hx, hb, hml, hown, hts⟩ (c_V_sayUnsigned l dC dI h0 H.size g95 (z2.2.2.1 <<< (p3.toInt64 &&& 63)) (z2.2.2.2.1 <<< (p3.toInt64 &&& 63))) (cwV 2 hts (gV gw193 gw84 gw85 gw1 gw86) rfl rfl rfl (by decide +kernel) ⟨(Nat.le_of_ble_eq_true rfl), (Nat.le_of_ble_eq_true rfl)⟩) ⟨blm, va_recv hK hP (ci := 0) (q0 := 0) rfl rfl, fun U hU hW => ⟨rfl, by rw [hU], by rw [hU]; exact hP.sub [0] rfl, va_K.moved hW.alike hK, (hD.sub [0] (by decide) rfl).weaken (fun _ _ _ _ => trivial)⟩⟩ rfl rfl hl.1 rfl (lv_room (Nat.le_of_ble_eq_true rfl)) d_O_shiftBy_127 ⟨Nat.zero_le _, Nat.zero_le _⟩) hP hD hS hA [0] [1] [1, 0] rfl rfl (by decide) (by decide) (fun _ => rfl) (by decide) (fun g127 eg127 H locs hP hD hS => ?_)
      refine K127g g127 (Eq.trans (hj.trans (by unfold f_O_shiftBy_95g; first | with_reducible exact if_pos e1_130 | exact if_pos e1_130)) (congrArg (fun g127 => f_O_shiftBy_127g z0 p1 z2 p3 g127) eg127)) H locs ?_ ?_ hS ls (lv_sub hl [0, 1, 2] rfl)
      · with_reducible exact hP
      · with_reducible exact hD
  have K76g : ∀ (g76 : VV) (hj : f_O_shiftBy z0 p1 z2 p3 = f_O_shiftBy_76g z0 p1 z2 p3 g76) (H : Heap) (locs : List Loc) (hP : va_P (dC, dI) classes [(h0, .inr (0, [.long (g76.1), .long (g76.2.1), .long (g76.2.2.1), .long (g76.2.2.2.1), .long (g76.2.2.2.2.1), .long (g76.2.2.2.2.2.1), .int (bI g76.2.2.2.2.2.2)])), (h2, .inr (0, [.long (z2.1), .long (z2.2.1), .long (z2.2.2.1), .long (z2.2.2.2.1), .long (z2.2.2.2.2.1), .long (z2.2.2.2.2.2.1), .int (bI z2.2.2.2.2.2.2)]))] H) (hD : va_D A [(h0, .inr (0, [.long (g76.1), .long (g76.2.1), .long (g76.2.2.1), .long (g76.2.2.2.1), .long (g76.2.2.2.2.1), .long (g76.2.2.2.2.2.1), .int (bI g76.2.2.2.2.2.2)])), (h2, .inr (0, [.long (z2.1), .long (z2.2.1), .long (z2.2.2.1), .long (z2.2.2.2.1), .long (z2.2.2.2.2.1), .long (z2.2.2.2.2.2.1), .int (bI z2.2.2.2.2.2.2)]))]) (hS : va_S A s.heap H locs) (ls : Array Slot) (hl : lv_has ls 4 []), W p l e (headSpec w_O_shiftBy ({ frames := 1, cells := 0, slots := 0, locals := 24 } : Room)).room s m ([.ref h0, .int (p1), .ref h2, .int (p3)] : List Value).toArray below meth c H locs 0 0 (MQ below (va_Qv (fun _ : Unit => True) (mB (dC, dI) A [(h0, vE (f_O_shiftBy z0 p1 z2 p3)), (h2, vE z2)]) A) ([.ref h0, .int (p1), .ref h2, .int (p3)] : List Value).toArray s 0 0 A) (F0 m 79 ls []) := by
    intro g76 hj H locs hP hD hS ls hl
    refine lv_goto (tgt := 178) hx hb d_O_shiftBy_79 (by decide) ?_
    have fe : f_O_shiftBy z0 p1 z2 p3 = g76 := hj.trans rfl
    exact W.vret hx hb hr (fun t ht hW => ⟨⟨(), rfl, trivial, by rw [ht, fe]; (try simp only [vE_mk]); exact hP, by rw [fe]; (try simp only [vE_mk]); exact hD⟩, hS.F ht⟩) hS.2.2 d_O_shiftBy_178
  have K60g : ∀ (g60 : VV) (hj : f_O_shiftBy z0 p1 z2 p3 = f_O_shiftBy_60g z0 p1 z2 p3 g60) (H : Heap) (locs : List Loc) (hP : va_P (dC, dI) classes [(h0, .inr (0, [.long (g60.1), .long (g60.2.1), .long (g60.2.2.1), .long (g60.2.2.2.1), .long (g60.2.2.2.2.1), .long (g60.2.2.2.2.2.1), .int (bI g60.2.2.2.2.2.2)])), (h2, .inr (0, [.long (z2.1), .long (z2.2.1), .long (z2.2.2.1), .long (z2.2.2.2.1), .long (z2.2.2.2.2.1), .long (z2.2.2.2.2.2.1), .int (bI z2.2.2.2.2.2.2)]))] H) (hD : va_D A [(h0, .inr (0, [.long (g60.1), .long (g60.2.1), .long (g60.2.2.1), .long (g60.2.2.2.1), .long (g60.2.2.2.2.1), .long (g60.2.2.2.2.2.1), .int (bI g60.2.2.2.2.2.2)])), (h2, .inr (0, [.long (z2.1), .long (z2.2.1), .long (z2.2.2.1), .long (z2.2.2.2.1), .long (z2.2.2.2.2.1), .long (z2.2.2.2.2.2.1), .int (bI z2.2.2.2.2.2.2)]))]) (hS : va_S A s.heap H locs) (ls : Array Slot) (hl : lv_has ls 4 [(0, .ref h0), (2, .ref h2), (3, .int (p3))]), W p l e (headSpec w_O_shiftBy ({ frames := 1, cells := 0, slots := 0, locals := 24 } : Room)).room s m ([.ref h0, .int (p1), .ref h2, .int (p3)] : List Value).toArray below meth c H locs 0 0 (MQ below (va_Qv (fun _ : Unit => True) (mB (dC, dI) A [(h0, vE (f_O_shiftBy z0 p1 z2 p3)), (h2, vE z2)]) A) ([.ref h0, .int (p1), .ref h2, .int (p3)] : List Value).toArray s 0 0 A) (F0 m 63 ls []) := by
    intro g60 hj H locs hP hD hS ls hl
    refine lv_aload_n hx hb d_O_shiftBy_63 rfl (lv_at hl 0 rfl) ?_
    refine lv_aload_n hx hb d_O_shiftBy_64 rfl (lv_at hl 1 rfl) ?_
    refine va_get (D := (dC, dI)) (ci := 0) (v := .long (z2.2.2.2.2.1)) (C := R_V) (T := F_V) (N := 7) hx hb hts (fun w h => List.mem_cons_of_mem _ (uw_V w h)) hown hK hP 1 rfl rfl 4 (by decide) (hG (.fieldLink R_O 79 "ValueSieve$Value" "least" "J") gw34) (fun _ h9 => h9) rfl d_O_shiftBy_65 ?_
    refine lv_iload_n hx hb d_O_shiftBy_68 rfl (lv_at hl 2 rfl) ?_
    refine lv_lshr (v := z2.2.2.2.2.1 >>> (p3.toInt64 &&& 63)) hx hb d_O_shiftBy_69 rfl ?_
    refine lv_aload_n hx hb d_O_shiftBy_70 rfl (lv_at hl 1 rfl) ?_
    refine va_get (D := (dC, dI)) (ci := 0) (v := .long (z2.2.2.2.2.2.1)) (C := R_V) (T := F_V) (N := 7) hx hb hts (fun w h => List.mem_cons_of_mem _ (uw_V w h)) hown hK hP 1 rfl rfl 5 (by decide) (hG (.fieldLink R_O 85 "ValueSieve$Value" "greatest" "J") gw38) (fun _ h9 => h9) rfl d_O_shiftBy_71 ?_
    refine lv_iload_n hx hb d_O_shiftBy_74 rfl (lv_at hl 2 rfl) ?_
    refine lv_lshr (v := z2.2.2.2.2.2.1 >>> (p3.toInt64 &&& 63)) hx hb d_O_shiftBy_75 rfl ?_
    refine mg_v (F := f_V_saySigned g60 (z2.2.2.2.2.1 >>> (p3.toInt64 &&& 63)) (z2.2.2.2.2.2.1 >>> (p3.toInt64 &&& 63))) (wc := [(h0, vE g60)]) (w1 := fun g76 => [(h0, vE g76)]) (wr := [(h2, .inr (0, [.long (z2.1), .long (z2.2.1), .long (z2.2.2.1), .long (z2.2.2.2.1), .long (z2.2.2.2.2.1), .long (z2.2.2.2.2.2.1), .int (bI z2.2.2.2.2.2.2)]))]) (ws' := fun g76 => [(h0, .inr (0, [.long (g76.1), .long (g76.2.1), .long (g76.2.2.1), .long (g76.2.2.2.1), .long (g76.2.2.2.2.1), .long (g76.2.2.2.2.2.1), .int (bI g76.2.2.2.2.2.2)])), (h2, .inr (0, [.long (z2.1), .long (z2.2.1), .long (z2.2.2.1), .long (z2.2.2.2.1), .long (z2.2.2.2.2.1), .long (z2.2.2.2.2.2.1), .int (bI z2.2.2.2.2.2.2)]))]) (va_runV (As := [.long (z2.2.2.2.2.1 >>> (p3.toInt64 &&& 63)), .long (z2.2.2.2.2.2.1 >>> (p3.toInt64 &&& 63))]) (rest := []) ⟨hx, hb, hml, hown, hts⟩ (c_V_saySigned l dC dI h0 H.size g60 (z2.2.2.2.2.1 >>> (p3.toInt64 &&& 63)) (z2.2.2.2.2.2.1 >>> (p3.toInt64 &&& 63))) (cwV 2 hts (gV gw197 gw90 gw91 gw1 gw92) rfl rfl rfl (by decide +kernel) ⟨(Nat.le_of_ble_eq_true rfl), (Nat.le_of_ble_eq_true rfl)⟩) ⟨blm, va_recv hK hP (ci := 0) (q0 := 0) rfl rfl, fun U hU hW => ⟨rfl, by rw [hU], by rw [hU]; exact hP.sub [0] rfl, va_K.moved hW.alike hK, (hD.sub [0] (by decide) rfl).weaken (fun _ _ _ _ => trivial)⟩⟩ rfl rfl hl.1 rfl (lv_room (Nat.le_of_ble_eq_true rfl)) d_O_shiftBy_76 ⟨Nat.zero_le _, Nat.zero_le _⟩) hP hD hS hA [0] [1] [1, 0] rfl rfl (by decide) (by decide) (fun _ => rfl) (by decide) (fun g76 eg76 H locs hP hD hS => ?_)
    refine K76g g76 (Eq.trans (hj.trans rfl) (congrArg (fun g76 => f_O_shiftBy_76g z0 p1 z2 p3 g76) eg76)) H locs ?_ ?_ hS ls (lv_sub hl [] rfl)
    · with_reducible exact hP
    · with_reducible exact hD
  have K35g : ∀ (g35 : VV) (hj : f_O_shiftBy z0 p1 z2 p3 = f_O_shiftBy_35g z0 p1 z2 p3 g35) (H : Heap) (locs : List Loc) (hP : va_P (dC, dI) classes [(h0, .inr (0, [.long (g35.1), .long (g35.2.1), .long (g35.2.2.1), .long (g35.2.2.2.1), .long (g35.2.2.2.2.1), .long (g35.2.2.2.2.2.1), .int (bI g35.2.2.2.2.2.2)])), (h2, .inr (0, [.long (z2.1), .long (z2.2.1), .long (z2.2.2.1), .long (z2.2.2.2.1), .long (z2.2.2.2.2.1), .long (z2.2.2.2.2.2.1), .int (bI z2.2.2.2.2.2.2)]))] H) (hD : va_D A [(h0, .inr (0, [.long (g35.1), .long (g35.2.1), .long (g35.2.2.1), .long (g35.2.2.2.1), .long (g35.2.2.2.2.1), .long (g35.2.2.2.2.2.1), .int (bI g35.2.2.2.2.2.2)])), (h2, .inr (0, [.long (z2.1), .long (z2.2.1), .long (z2.2.2.1), .long (z2.2.2.2.1), .long (z2.2.2.2.2.1), .long (z2.2.2.2.2.2.1), .int (bI z2.2.2.2.2.2.2)]))]) (hS : va_S A s.heap H locs) (ls : Array Slot) (hl : lv_has ls 4 []), W p l e (headSpec w_O_shiftBy ({ frames := 1, cells := 0, slots := 0, locals := 24 } : Room)).room s m ([.ref h0, .int (p1), .ref h2, .int (p3)] : List Value).toArray below meth c H locs 0 0 (MQ below (va_Qv (fun _ : Unit => True) (mB (dC, dI) A [(h0, vE (f_O_shiftBy z0 p1 z2 p3)), (h2, vE z2)]) A) ([.ref h0, .int (p1), .ref h2, .int (p3)] : List Value).toArray s 0 0 A) (F0 m 38 ls []) := by
    intro g35 hj H locs hP hD hS ls hl
    refine lv_goto (tgt := 178) hx hb d_O_shiftBy_38 (by decide) ?_
    have fe : f_O_shiftBy z0 p1 z2 p3 = g35 := hj.trans rfl
    exact W.vret hx hb hr (fun t ht hW => ⟨⟨(), rfl, trivial, by rw [ht, fe]; (try simp only [vE_mk]); exact hP, by rw [fe]; (try simp only [vE_mk]); exact hD⟩, hS.F ht⟩) hS.2.2 d_O_shiftBy_178
  have K19g : ∀ (g19 : VV) (hj : f_O_shiftBy z0 p1 z2 p3 = f_O_shiftBy_19g z0 p1 z2 p3 g19) (H : Heap) (locs : List Loc) (hP : va_P (dC, dI) classes [(h0, .inr (0, [.long (g19.1), .long (g19.2.1), .long (g19.2.2.1), .long (g19.2.2.2.1), .long (g19.2.2.2.2.1), .long (g19.2.2.2.2.2.1), .int (bI g19.2.2.2.2.2.2)])), (h2, .inr (0, [.long (z2.1), .long (z2.2.1), .long (z2.2.2.1), .long (z2.2.2.2.1), .long (z2.2.2.2.2.1), .long (z2.2.2.2.2.2.1), .int (bI z2.2.2.2.2.2.2)]))] H) (hD : va_D A [(h0, .inr (0, [.long (g19.1), .long (g19.2.1), .long (g19.2.2.1), .long (g19.2.2.2.1), .long (g19.2.2.2.2.1), .long (g19.2.2.2.2.2.1), .int (bI g19.2.2.2.2.2.2)])), (h2, .inr (0, [.long (z2.1), .long (z2.2.1), .long (z2.2.2.1), .long (z2.2.2.2.1), .long (z2.2.2.2.2.1), .long (z2.2.2.2.2.2.1), .int (bI z2.2.2.2.2.2.2)]))]) (hS : va_S A s.heap H locs) (ls : Array Slot) (hl : lv_has ls 4 [(0, .ref h0), (2, .ref h2), (3, .int (p3))]), W p l e (headSpec w_O_shiftBy ({ frames := 1, cells := 0, slots := 0, locals := 24 } : Room)).room s m ([.ref h0, .int (p1), .ref h2, .int (p3)] : List Value).toArray below meth c H locs 0 0 (MQ below (va_Qv (fun _ : Unit => True) (mB (dC, dI) A [(h0, vE (f_O_shiftBy z0 p1 z2 p3)), (h2, vE z2)]) A) ([.ref h0, .int (p1), .ref h2, .int (p3)] : List Value).toArray s 0 0 A) (F0 m 22 ls []) := by
    intro g19 hj H locs hP hD hS ls hl
    refine lv_aload_n hx hb d_O_shiftBy_22 rfl (lv_at hl 0 rfl) ?_
    refine lv_aload_n hx hb d_O_shiftBy_23 rfl (lv_at hl 1 rfl) ?_
    refine va_get (D := (dC, dI)) (ci := 0) (v := .long (z2.2.2.1)) (C := R_V) (T := F_V) (N := 7) hx hb hts (fun w h => List.mem_cons_of_mem _ (uw_V w h)) hown hK hP 1 rfl rfl 2 (by decide) (hG (.fieldLink R_O 55 "ValueSieve$Value" "low" "J") gw26) (fun _ h9 => h9) rfl d_O_shiftBy_24 ?_
    refine lv_iload_n hx hb d_O_shiftBy_27 rfl (lv_at hl 2 rfl) ?_
    refine lv_lushr (v := (z2.2.2.1.toUInt64 >>> (p3.toInt64.toUInt64 &&& Int64.toUInt64 63)).toInt64) hx hb d_O_shiftBy_28 rfl ?_
    refine lv_aload_n hx hb d_O_shiftBy_29 rfl (lv_at hl 1 rfl) ?_
    refine va_get (D := (dC, dI)) (ci := 0) (v := .long (z2.2.2.2.1)) (C := R_V) (T := F_V) (N := 7) hx hb hts (fun w h => List.mem_cons_of_mem _ (uw_V w h)) hown hK hP 1 rfl rfl 3 (by decide) (hG (.fieldLink R_O 49 "ValueSieve$Value" "high" "J") gw30) (fun _ h9 => h9) rfl d_O_shiftBy_30 ?_
    refine lv_iload_n hx hb d_O_shiftBy_33 rfl (lv_at hl 2 rfl) ?_
    refine lv_lushr (v := (z2.2.2.2.1.toUInt64 >>> (p3.toInt64.toUInt64 &&& Int64.toUInt64 63)).toInt64) hx hb d_O_shiftBy_34 rfl ?_
    refine mg_v (F := f_V_sayUnsigned g19 ((z2.2.2.1.toUInt64 >>> (p3.toInt64.toUInt64 &&& Int64.toUInt64 63)).toInt64) ((z2.2.2.2.1.toUInt64 >>> (p3.toInt64.toUInt64 &&& Int64.toUInt64 63)).toInt64)) (wc := [(h0, vE g19)]) (w1 := fun g35 => [(h0, vE g35)]) (wr := [(h2, .inr (0, [.long (z2.1), .long (z2.2.1), .long (z2.2.2.1), .long (z2.2.2.2.1), .long (z2.2.2.2.2.1), .long (z2.2.2.2.2.2.1), .int (bI z2.2.2.2.2.2.2)]))]) (ws' := fun g35 => [(h0, .inr (0, [.long (g35.1), .long (g35.2.1), .long (g35.2.2.1), .long (g35.2.2.2.1), .long (g35.2.2.2.2.1), .long (g35.2.2.2.2.2.1), .int (bI g35.2.2.2.2.2.2)])), (h2, .inr (0, [.long (z2.1), .long (z2.2.1), .long (z2.2.2.1), .long (z2.2.2.2.1), .long (z2.2.2.2.2.1), .long (z2.2.2.2.2.2.1), .int (bI z2.2.2.2.2.2.2)]))]) (va_runV (As := [.long ((z2.2.2.1.toUInt64 >>> (p3.toInt64.toUInt64 &&& Int64.toUInt64 63)).toInt64), .long ((z2.2.2.2.1.toUInt64 >>> (p3.toInt64.toUInt64 &&& Int64.toUInt64 63)).toInt64)]) (rest := []) ⟨hx, hb, hml, hown, hts⟩ (c_V_sayUnsigned l dC dI h0 H.size g19 ((z2.2.2.1.toUInt64 >>> (p3.toInt64.toUInt64 &&& Int64.toUInt64 63)).toInt64) ((z2.2.2.2.1.toUInt64 >>> (p3.toInt64.toUInt64 &&& Int64.toUInt64 63)).toInt64)) (cwV 2 hts (gV gw193 gw84 gw85 gw1 gw86) rfl rfl rfl (by decide +kernel) ⟨(Nat.le_of_ble_eq_true rfl), (Nat.le_of_ble_eq_true rfl)⟩) ⟨blm, va_recv hK hP (ci := 0) (q0 := 0) rfl rfl, fun U hU hW => ⟨rfl, by rw [hU], by rw [hU]; exact hP.sub [0] rfl, va_K.moved hW.alike hK, (hD.sub [0] (by decide) rfl).weaken (fun _ _ _ _ => trivial)⟩⟩ rfl rfl hl.1 rfl (lv_room (Nat.le_of_ble_eq_true rfl)) d_O_shiftBy_35 ⟨Nat.zero_le _, Nat.zero_le _⟩) hP hD hS hA [0] [1] [1, 0] rfl rfl (by decide) (by decide) (fun _ => rfl) (by decide) (fun g35 eg35 H locs hP hD hS => ?_)
    refine K35g g35 (Eq.trans (hj.trans rfl) (congrArg (fun g35 => f_O_shiftBy_35g z0 p1 z2 p3 g35) eg35)) H locs ?_ ?_ hS ls (lv_sub hl [] rfl)
    · with_reducible exact hP
    · with_reducible exact hD
  refine lv_iload_n hx hb d_O_shiftBy_0 rfl (lv_at hl 1 rfl) ?_
  refine lv_bipush (v := 9) hx hb d_O_shiftBy_1 (by decide) ?_
  refine lv_icmp_ne (tgt := 41) hx hb d_O_shiftBy_3 (by decide) (fun e1_41 => ?_) (fun e1_41 => ?_)
  · refine lv_iload_n hx hb d_O_shiftBy_41 rfl (lv_at hl 1 rfl) ?_
    refine lv_bipush (v := 10) hx hb d_O_shiftBy_42 (by decide) ?_
    refine lv_icmp_ne (tgt := 82) hx hb d_O_shiftBy_44 (by decide) (fun e2_82 => ?_) (fun e2_82 => ?_)
    · refine lv_aload_n hx hb d_O_shiftBy_82 rfl (lv_at hl 0 rfl) ?_
      refine lv_aload_n hx hb d_O_shiftBy_83 rfl (lv_at hl 2 rfl) ?_
      refine va_get (D := (dC, dI)) (ci := 0) (v := .long (z2.1)) (C := R_V) (T := F_V) (N := 7) hx hb hts (fun w h => List.mem_cons_of_mem _ (uw_V w h)) hown hK hP 1 rfl rfl 0 (by decide) (hG (.fieldLink R_O 36 "ValueSieve$Value" "bits" "J") gw19) (fun _ h9 => h9) rfl d_O_shiftBy_84 ?_
      refine lv_iload_n hx hb d_O_shiftBy_87 rfl (lv_at hl 3 rfl) ?_
      refine lv_lshl (v := z2.1 <<< (p3.toInt64 &&& 63)) hx hb d_O_shiftBy_88 rfl ?_
      refine lv_aload_n hx hb d_O_shiftBy_89 rfl (lv_at hl 2 rfl) ?_
      refine va_get (D := (dC, dI)) (ci := 0) (v := .long (z2.2.1)) (C := R_V) (T := F_V) (N := 7) hx hb hts (fun w h => List.mem_cons_of_mem _ (uw_V w h)) hown hK hP 1 rfl rfl 1 (by decide) (hG (.fieldLink R_O 40 "ValueSieve$Value" "unknown" "J") gw22) (fun _ h9 => h9) rfl d_O_shiftBy_90 ?_
      refine lv_iload_n hx hb d_O_shiftBy_93 rfl (lv_at hl 3 rfl) ?_
      refine lv_lshl (v := z2.2.1 <<< (p3.toInt64 &&& 63)) hx hb d_O_shiftBy_94 rfl ?_
      refine mg_v (F := f_V_sayBits z0 (z2.1 <<< (p3.toInt64 &&& 63)) (z2.2.1 <<< (p3.toInt64 &&& 63))) (wc := [(h0, vE z0)]) (w1 := fun g95 => [(h0, vE g95)]) (wr := [(h2, .inr (0, [.long (z2.1), .long (z2.2.1), .long (z2.2.2.1), .long (z2.2.2.2.1), .long (z2.2.2.2.2.1), .long (z2.2.2.2.2.2.1), .int (bI z2.2.2.2.2.2.2)]))]) (ws' := fun g95 => [(h0, .inr (0, [.long (g95.1), .long (g95.2.1), .long (g95.2.2.1), .long (g95.2.2.2.1), .long (g95.2.2.2.2.1), .long (g95.2.2.2.2.2.1), .int (bI g95.2.2.2.2.2.2)])), (h2, .inr (0, [.long (z2.1), .long (z2.2.1), .long (z2.2.2.1), .long (z2.2.2.2.1), .long (z2.2.2.2.2.1), .long (z2.2.2.2.2.2.1), .int (bI z2.2.2.2.2.2.2)]))]) (va_runV (As := [.long (z2.1 <<< (p3.toInt64 &&& 63)), .long (z2.2.1 <<< (p3.toInt64 &&& 63))]) (rest := []) ⟨hx, hb, hml, hown, hts⟩ (c_V_sayBits l dC dI h0 s.heap.size z0 (z2.1 <<< (p3.toInt64 &&& 63)) (z2.2.1 <<< (p3.toInt64 &&& 63))) (cwV 2 hts (gV gw191 gw80 gw81 gw1 gw82) rfl rfl rfl (by decide +kernel) ⟨(Nat.le_of_ble_eq_true rfl), (Nat.le_of_ble_eq_true rfl)⟩) ⟨blm, va_recv hK hP (ci := 0) (q0 := 0) rfl rfl, fun U hU hW => ⟨rfl, by rw [hU], by rw [hU]; exact hP.sub [0] rfl, va_K.moved hW.alike hK, (hD.sub [0] (by decide) rfl).weaken (fun _ _ _ _ => trivial)⟩⟩ rfl rfl hl.1 rfl (lv_room (Nat.le_of_ble_eq_true rfl)) d_O_shiftBy_95 ⟨Nat.zero_le _, Nat.zero_le _⟩) hP hD hS hA [0] [1] [1, 0] rfl rfl (by decide) (by decide) (fun _ => rfl) (by decide) (fun g95 eg95 H locs hP hD hS => ?_)
      refine K95g g95 (Eq.trans (by unfold f_O_shiftBy; first | with_reducible exact (if_neg e1_41).trans (if_neg e2_82) | exact (if_neg e1_41).trans (if_neg e2_82)) (congrArg (fun g95 => f_O_shiftBy_95g z0 p1 z2 p3 g95) eg95)) H locs ?_ ?_ hS ls (lv_sub hl [0, 2, 3] rfl)
      · with_reducible exact hP
      · with_reducible exact hD
    · refine lv_aload_n hx hb d_O_shiftBy_47 rfl (lv_at hl 0 rfl) ?_
      refine lv_aload_n hx hb d_O_shiftBy_48 rfl (lv_at hl 2 rfl) ?_
      refine va_get (D := (dC, dI)) (ci := 0) (v := .long (z2.1)) (C := R_V) (T := F_V) (N := 7) hx hb hts (fun w h => List.mem_cons_of_mem _ (uw_V w h)) hown hK hP 1 rfl rfl 0 (by decide) (hG (.fieldLink R_O 36 "ValueSieve$Value" "bits" "J") gw19) (fun _ h9 => h9) rfl d_O_shiftBy_49 ?_
      refine lv_iload_n hx hb d_O_shiftBy_52 rfl (lv_at hl 3 rfl) ?_
      refine lv_lshr (v := z2.1 >>> (p3.toInt64 &&& 63)) hx hb d_O_shiftBy_53 rfl ?_
      refine lv_aload_n hx hb d_O_shiftBy_54 rfl (lv_at hl 2 rfl) ?_
      refine va_get (D := (dC, dI)) (ci := 0) (v := .long (z2.2.1)) (C := R_V) (T := F_V) (N := 7) hx hb hts (fun w h => List.mem_cons_of_mem _ (uw_V w h)) hown hK hP 1 rfl rfl 1 (by decide) (hG (.fieldLink R_O 40 "ValueSieve$Value" "unknown" "J") gw22) (fun _ h9 => h9) rfl d_O_shiftBy_55 ?_
      refine lv_iload_n hx hb d_O_shiftBy_58 rfl (lv_at hl 3 rfl) ?_
      refine lv_lshr (v := z2.2.1 >>> (p3.toInt64 &&& 63)) hx hb d_O_shiftBy_59 rfl ?_
      refine mg_v (F := f_V_sayBits z0 (z2.1 >>> (p3.toInt64 &&& 63)) (z2.2.1 >>> (p3.toInt64 &&& 63))) (wc := [(h0, vE z0)]) (w1 := fun g60 => [(h0, vE g60)]) (wr := [(h2, .inr (0, [.long (z2.1), .long (z2.2.1), .long (z2.2.2.1), .long (z2.2.2.2.1), .long (z2.2.2.2.2.1), .long (z2.2.2.2.2.2.1), .int (bI z2.2.2.2.2.2.2)]))]) (ws' := fun g60 => [(h0, .inr (0, [.long (g60.1), .long (g60.2.1), .long (g60.2.2.1), .long (g60.2.2.2.1), .long (g60.2.2.2.2.1), .long (g60.2.2.2.2.2.1), .int (bI g60.2.2.2.2.2.2)])), (h2, .inr (0, [.long (z2.1), .long (z2.2.1), .long (z2.2.2.1), .long (z2.2.2.2.1), .long (z2.2.2.2.2.1), .long (z2.2.2.2.2.2.1), .int (bI z2.2.2.2.2.2.2)]))]) (va_runV (As := [.long (z2.1 >>> (p3.toInt64 &&& 63)), .long (z2.2.1 >>> (p3.toInt64 &&& 63))]) (rest := []) ⟨hx, hb, hml, hown, hts⟩ (c_V_sayBits l dC dI h0 s.heap.size z0 (z2.1 >>> (p3.toInt64 &&& 63)) (z2.2.1 >>> (p3.toInt64 &&& 63))) (cwV 2 hts (gV gw191 gw80 gw81 gw1 gw82) rfl rfl rfl (by decide +kernel) ⟨(Nat.le_of_ble_eq_true rfl), (Nat.le_of_ble_eq_true rfl)⟩) ⟨blm, va_recv hK hP (ci := 0) (q0 := 0) rfl rfl, fun U hU hW => ⟨rfl, by rw [hU], by rw [hU]; exact hP.sub [0] rfl, va_K.moved hW.alike hK, (hD.sub [0] (by decide) rfl).weaken (fun _ _ _ _ => trivial)⟩⟩ rfl rfl hl.1 rfl (lv_room (Nat.le_of_ble_eq_true rfl)) d_O_shiftBy_60 ⟨Nat.zero_le _, Nat.zero_le _⟩) hP hD hS hA [0] [1] [1, 0] rfl rfl (by decide) (by decide) (fun _ => rfl) (by decide) (fun g60 eg60 H locs hP hD hS => ?_)
      refine K60g g60 (Eq.trans (by unfold f_O_shiftBy; first | with_reducible exact (if_neg e1_41).trans (if_pos e2_82) | exact (if_neg e1_41).trans (if_pos e2_82)) (congrArg (fun g60 => f_O_shiftBy_60g z0 p1 z2 p3 g60) eg60)) H locs ?_ ?_ hS ls (lv_sub hl [0, 2, 3] rfl)
      · with_reducible exact hP
      · with_reducible exact hD
  · refine lv_aload_n hx hb d_O_shiftBy_6 rfl (lv_at hl 0 rfl) ?_
    refine lv_aload_n hx hb d_O_shiftBy_7 rfl (lv_at hl 2 rfl) ?_
    refine va_get (D := (dC, dI)) (ci := 0) (v := .long (z2.1)) (C := R_V) (T := F_V) (N := 7) hx hb hts (fun w h => List.mem_cons_of_mem _ (uw_V w h)) hown hK hP 1 rfl rfl 0 (by decide) (hG (.fieldLink R_O 36 "ValueSieve$Value" "bits" "J") gw19) (fun _ h9 => h9) rfl d_O_shiftBy_8 ?_
    refine lv_iload_n hx hb d_O_shiftBy_11 rfl (lv_at hl 3 rfl) ?_
    refine lv_lushr (v := (z2.1.toUInt64 >>> (p3.toInt64.toUInt64 &&& Int64.toUInt64 63)).toInt64) hx hb d_O_shiftBy_12 rfl ?_
    refine lv_aload_n hx hb d_O_shiftBy_13 rfl (lv_at hl 2 rfl) ?_
    refine va_get (D := (dC, dI)) (ci := 0) (v := .long (z2.2.1)) (C := R_V) (T := F_V) (N := 7) hx hb hts (fun w h => List.mem_cons_of_mem _ (uw_V w h)) hown hK hP 1 rfl rfl 1 (by decide) (hG (.fieldLink R_O 40 "ValueSieve$Value" "unknown" "J") gw22) (fun _ h9 => h9) rfl d_O_shiftBy_14 ?_
    refine lv_iload_n hx hb d_O_shiftBy_17 rfl (lv_at hl 3 rfl) ?_
    refine lv_lushr (v := (z2.2.1.toUInt64 >>> (p3.toInt64.toUInt64 &&& Int64.toUInt64 63)).toInt64) hx hb d_O_shiftBy_18 rfl ?_
    refine mg_v (F := f_V_sayBits z0 ((z2.1.toUInt64 >>> (p3.toInt64.toUInt64 &&& Int64.toUInt64 63)).toInt64) ((z2.2.1.toUInt64 >>> (p3.toInt64.toUInt64 &&& Int64.toUInt64 63)).toInt64)) (wc := [(h0, vE z0)]) (w1 := fun g19 => [(h0, vE g19)]) (wr := [(h2, .inr (0, [.long (z2.1), .long (z2.2.1), .long (z2.2.2.1), .long (z2.2.2.2.1), .long (z2.2.2.2.2.1), .long (z2.2.2.2.2.2.1), .int (bI z2.2.2.2.2.2.2)]))]) (ws' := fun g19 => [(h0, .inr (0, [.long (g19.1), .long (g19.2.1), .long (g19.2.2.1), .long (g19.2.2.2.1), .long (g19.2.2.2.2.1), .long (g19.2.2.2.2.2.1), .int (bI g19.2.2.2.2.2.2)])), (h2, .inr (0, [.long (z2.1), .long (z2.2.1), .long (z2.2.2.1), .long (z2.2.2.2.1), .long (z2.2.2.2.2.1), .long (z2.2.2.2.2.2.1), .int (bI z2.2.2.2.2.2.2)]))]) (va_runV (As := [.long ((z2.1.toUInt64 >>> (p3.toInt64.toUInt64 &&& Int64.toUInt64 63)).toInt64), .long ((z2.2.1.toUInt64 >>> (p3.toInt64.toUInt64 &&& Int64.toUInt64 63)).toInt64)]) (rest := []) ⟨hx, hb, hml, hown, hts⟩ (c_V_sayBits l dC dI h0 s.heap.size z0 ((z2.1.toUInt64 >>> (p3.toInt64.toUInt64 &&& Int64.toUInt64 63)).toInt64) ((z2.2.1.toUInt64 >>> (p3.toInt64.toUInt64 &&& Int64.toUInt64 63)).toInt64)) (cwV 2 hts (gV gw191 gw80 gw81 gw1 gw82) rfl rfl rfl (by decide +kernel) ⟨(Nat.le_of_ble_eq_true rfl), (Nat.le_of_ble_eq_true rfl)⟩) ⟨blm, va_recv hK hP (ci := 0) (q0 := 0) rfl rfl, fun U hU hW => ⟨rfl, by rw [hU], by rw [hU]; exact hP.sub [0] rfl, va_K.moved hW.alike hK, (hD.sub [0] (by decide) rfl).weaken (fun _ _ _ _ => trivial)⟩⟩ rfl rfl hl.1 rfl (lv_room (Nat.le_of_ble_eq_true rfl)) d_O_shiftBy_19 ⟨Nat.zero_le _, Nat.zero_le _⟩) hP hD hS hA [0] [1] [1, 0] rfl rfl (by decide) (by decide) (fun _ => rfl) (by decide) (fun g19 eg19 H locs hP hD hS => ?_)
    refine K19g g19 (Eq.trans (by unfold f_O_shiftBy; first | with_reducible exact if_pos e1_41 | exact if_pos e1_41) (congrArg (fun g19 => f_O_shiftBy_19g z0 p1 z2 p3 g19) eg19)) H locs ?_ ?_ hS ls (lv_sub hl [0, 2, 3] rfl)
    · with_reducible exact hP
    · with_reducible exact hD
-- ValueSieve$Operations.shift
theorem d_O_shift_0 : decode b_O_shift 0 = .ok (.aload_n 3, 1) := by decide +kernel
theorem d_O_shift_1 : decode b_O_shift 1 = .ok (.invokevirtual 126, 3) := by decide +kernel
theorem d_O_shift_4 : decode b_O_shift 4 = .ok (.ifCond .eq 19, 3) := by decide +kernel
theorem d_O_shift_7 : decode b_O_shift 7 = .ok (.aload_n 0, 1) := by decide +kernel
theorem d_O_shift_8 : decode b_O_shift 8 = .ok (.iload_n 1, 1) := by decide +kernel
theorem d_O_shift_9 : decode b_O_shift 9 = .ok (.aload_n 2, 1) := by decide +kernel
theorem d_O_shift_10 : decode b_O_shift 10 = .ok (.aload_n 3, 1) := by decide +kernel
theorem d_O_shift_11 : decode b_O_shift 11 = .ok (.getfield 36, 3) := by decide +kernel
theorem d_O_shift_14 : decode b_O_shift 14 = .ok (.iload 4, 2) := by decide +kernel
theorem d_O_shift_16 : decode b_O_shift 16 = .ok (.i2l, 1) := by decide +kernel
theorem d_O_shift_17 : decode b_O_shift 17 = .ok (.land, 1) := by decide +kernel
theorem d_O_shift_18 : decode b_O_shift 18 = .ok (.l2i, 1) := by decide +kernel
theorem d_O_shift_19 : decode b_O_shift 19 = .ok (.invokestatic 130, 3) := by decide +kernel
theorem d_O_shift_22 : decode b_O_shift 22 = .ok (.return_, 1) := by decide +kernel
theorem d_O_shift_23 : decode b_O_shift 23 = .ok (.iload 4, 2) := by decide +kernel
theorem d_O_shift_25 : decode b_O_shift 25 = .ok (.i2l, 1) := by decide +kernel
theorem d_O_shift_26 : decode b_O_shift 26 = .ok (.aload_n 3, 1) := by decide +kernel
theorem d_O_shift_27 : decode b_O_shift 27 = .ok (.getfield 49, 3) := by decide +kernel
theorem d_O_shift_30 : decode b_O_shift 30 = .ok (.invokestatic 72, 3) := by decide +kernel
theorem d_O_shift_33 : decode b_O_shift 33 = .ok (.ifCond .ne 7, 3) := by decide +kernel
theorem d_O_shift_36 : decode b_O_shift 36 = .ok (.iconst 1, 1) := by decide +kernel
theorem d_O_shift_37 : decode b_O_shift 37 = .ok (.goto 4, 3) := by decide +kernel
theorem d_O_shift_40 : decode b_O_shift 40 = .ok (.iconst 0, 1) := by decide +kernel
theorem d_O_shift_41 : decode b_O_shift 41 = .ok (.istore 5, 2) := by decide +kernel
theorem d_O_shift_43 : decode b_O_shift 43 = .ok (.iload 5, 2) := by decide +kernel
theorem d_O_shift_45 : decode b_O_shift 45 = .ok (.ifCond .eq 11, 3) := by decide +kernel
theorem d_O_shift_48 : decode b_O_shift 48 = .ok (.aload_n 3, 1) := by decide +kernel
theorem d_O_shift_49 : decode b_O_shift 49 = .ok (.getfield 55, 3) := by decide +kernel
theorem d_O_shift_52 : decode b_O_shift 52 = .ok (.l2i, 1) := by decide +kernel
theorem d_O_shift_53 : decode b_O_shift 53 = .ok (.goto 4, 3) := by decide +kernel
theorem d_O_shift_56 : decode b_O_shift 56 = .ok (.iconst 0, 1) := by decide +kernel
theorem d_O_shift_57 : decode b_O_shift 57 = .ok (.istore 6, 2) := by decide +kernel
theorem d_O_shift_59 : decode b_O_shift 59 = .ok (.iload 5, 2) := by decide +kernel
theorem d_O_shift_61 : decode b_O_shift 61 = .ok (.ifCond .eq 11, 3) := by decide +kernel
theorem d_O_shift_64 : decode b_O_shift 64 = .ok (.aload_n 3, 1) := by decide +kernel
theorem d_O_shift_65 : decode b_O_shift 65 = .ok (.getfield 49, 3) := by decide +kernel
theorem d_O_shift_68 : decode b_O_shift 68 = .ok (.l2i, 1) := by decide +kernel
theorem d_O_shift_69 : decode b_O_shift 69 = .ok (.goto 5, 3) := by decide +kernel
theorem d_O_shift_72 : decode b_O_shift 72 = .ok (.iload 4, 2) := by decide +kernel
theorem d_O_shift_74 : decode b_O_shift 74 = .ok (.istore 7, 2) := by decide +kernel
theorem d_O_shift_76 : decode b_O_shift 76 = .ok (.iload_n 1, 1) := by decide +kernel
theorem d_O_shift_77 : decode b_O_shift 77 = .ok (.bipush 8, 2) := by decide +kernel
theorem d_O_shift_79 : decode b_O_shift 79 = .ok (.if_icmp .ne 25, 3) := by decide +kernel
theorem d_O_shift_82 : decode b_O_shift 82 = .ok (.aload_n 0, 1) := by decide +kernel
theorem d_O_shift_83 : decode b_O_shift 83 = .ok (.lconst 0, 1) := by decide +kernel
theorem d_O_shift_84 : decode b_O_shift 84 = .ok (.aload_n 2, 1) := by decide +kernel
theorem d_O_shift_85 : decode b_O_shift 85 = .ok (.invokestatic 98, 3) := by decide +kernel
theorem d_O_shift_88 : decode b_O_shift 88 = .ok (.iload 6, 2) := by decide +kernel
theorem d_O_shift_90 : decode b_O_shift 90 = .ok (.iadd, 1) := by decide +kernel
theorem d_O_shift_91 : decode b_O_shift 91 = .ok (.invokestatic 107, 3) := by decide +kernel
theorem d_O_shift_94 : decode b_O_shift 94 = .ok (.ldc2_w 43, 3) := by decide +kernel
theorem d_O_shift_97 : decode b_O_shift 97 = .ok (.lxor, 1) := by decide +kernel
theorem d_O_shift_98 : decode b_O_shift 98 = .ok (.invokevirtual 45, 3) := by decide +kernel
theorem d_O_shift_101 : decode b_O_shift 101 = .ok (.goto 68, 3) := by decide +kernel
theorem d_O_shift_104 : decode b_O_shift 104 = .ok (.iload_n 1, 1) := by decide +kernel
theorem d_O_shift_105 : decode b_O_shift 105 = .ok (.bipush 9, 2) := by decide +kernel
theorem d_O_shift_107 : decode b_O_shift 107 = .ok (.if_icmp .ne 24, 3) := by decide +kernel
theorem d_O_shift_110 : decode b_O_shift 110 = .ok (.aload_n 0, 1) := by decide +kernel
theorem d_O_shift_111 : decode b_O_shift 111 = .ok (.aload_n 2, 1) := by decide +kernel
theorem d_O_shift_112 : decode b_O_shift 112 = .ok (.getfield 55, 3) := by decide +kernel
theorem d_O_shift_115 : decode b_O_shift 115 = .ok (.iload 7, 2) := by decide +kernel
theorem d_O_shift_117 : decode b_O_shift 117 = .ok (.lushr, 1) := by decide +kernel
theorem d_O_shift_118 : decode b_O_shift 118 = .ok (.aload_n 2, 1) := by decide +kernel
theorem d_O_shift_119 : decode b_O_shift 119 = .ok (.getfield 49, 3) := by decide +kernel
theorem d_O_shift_122 : decode b_O_shift 122 = .ok (.iload 6, 2) := by decide +kernel
theorem d_O_shift_124 : decode b_O_shift 124 = .ok (.lushr, 1) := by decide +kernel
theorem d_O_shift_125 : decode b_O_shift 125 = .ok (.invokevirtual 76, 3) := by decide +kernel
theorem d_O_shift_128 : decode b_O_shift 128 = .ok (.goto 41, 3) := by decide +kernel
theorem d_O_shift_131 : decode b_O_shift 131 = .ok (.aload_n 0, 1) := by decide +kernel
theorem d_O_shift_132 : decode b_O_shift 132 = .ok (.aload_n 2, 1) := by decide +kernel
theorem d_O_shift_133 : decode b_O_shift 133 = .ok (.getfield 79, 3) := by decide +kernel
theorem d_O_shift_136 : decode b_O_shift 136 = .ok (.iload 6, 2) := by decide +kernel
theorem d_O_shift_138 : decode b_O_shift 138 = .ok (.lshr, 1) := by decide +kernel
theorem d_O_shift_139 : decode b_O_shift 139 = .ok (.aload_n 2, 1) := by decide +kernel
theorem d_O_shift_140 : decode b_O_shift 140 = .ok (.getfield 79, 3) := by decide +kernel
theorem d_O_shift_143 : decode b_O_shift 143 = .ok (.iload 7, 2) := by decide +kernel
theorem d_O_shift_145 : decode b_O_shift 145 = .ok (.lshr, 1) := by decide +kernel
theorem d_O_shift_146 : decode b_O_shift 146 = .ok (.invokestatic 117, 3) := by decide +kernel
theorem d_O_shift_149 : decode b_O_shift 149 = .ok (.aload_n 2, 1) := by decide +kernel
theorem d_O_shift_150 : decode b_O_shift 150 = .ok (.getfield 85, 3) := by decide +kernel
theorem d_O_shift_153 : decode b_O_shift 153 = .ok (.iload 6, 2) := by decide +kernel
theorem d_O_shift_155 : decode b_O_shift 155 = .ok (.lshr, 1) := by decide +kernel
theorem d_O_shift_156 : decode b_O_shift 156 = .ok (.aload_n 2, 1) := by decide +kernel
theorem d_O_shift_157 : decode b_O_shift 157 = .ok (.getfield 85, 3) := by decide +kernel
theorem d_O_shift_160 : decode b_O_shift 160 = .ok (.iload 7, 2) := by decide +kernel
theorem d_O_shift_162 : decode b_O_shift 162 = .ok (.lshr, 1) := by decide +kernel
theorem d_O_shift_163 : decode b_O_shift 163 = .ok (.invokestatic 119, 3) := by decide +kernel
theorem d_O_shift_166 : decode b_O_shift 166 = .ok (.invokevirtual 88, 3) := by decide +kernel
theorem d_O_shift_169 : decode b_O_shift 169 = .ok (.return_, 1) := by decide +kernel
def f_O_shift_166g (z0 : VV) (p1 : Int32) (z2 : VV) (z3 : VV) (p4 : Int32) (g166 : VV) : VV := g166
def f_O_shift_125g (z0 : VV) (p1 : Int32) (z2 : VV) (z3 : VV) (p4 : Int32) (g125 : VV) : VV := g125
def f_O_shift_98g (z0 : VV) (p1 : Int32) (z2 : VV) (z3 : VV) (p4 : Int32) (g98 : VV) : VV := g98
def f_O_shift_74 (z0 : VV) (p1 : Int32) (z2 : VV) (z3 : VV) (p4 : Int32) (s57_0 : Int32) (s74_0 : Int32) : VV := (if p1 = 8 then f_O_shift_98g z0 p1 z2 z3 p4 (f_V_sayBits z0 (0) ((f_N_lowest ((f_O_zerosBelow z2) + s57_0)) ^^^ (-1 : Int64))) else (if p1 = 9 then f_O_shift_125g z0 p1 z2 z3 p4 (f_V_sayUnsigned z0 ((z2.2.2.1.toUInt64 >>> (s74_0.toInt64.toUInt64 &&& Int64.toUInt64 63)).toInt64) ((z2.2.2.2.1.toUInt64 >>> (s57_0.toInt64.toUInt64 &&& Int64.toUInt64 63)).toInt64)) else f_O_shift_166g z0 p1 z2 z3 p4 (f_V_saySigned z0 (jmmin (z2.2.2.2.2.1 >>> (s57_0.toInt64 &&& 63)) (z2.2.2.2.2.1 >>> (s74_0.toInt64 &&& 63))) (jmmax (z2.2.2.2.2.2.1 >>> (s57_0.toInt64 &&& 63)) (z2.2.2.2.2.2.1 >>> (s74_0.toInt64 &&& 63))))))
def f_O_shift_57 (z0 : VV) (p1 : Int32) (z2 : VV) (z3 : VV) (p4 : Int32) (s41_0 : Int32) (s57_0 : Int32) : VV := (if s41_0 = 0 then f_O_shift_74 z0 p1 z2 z3 p4 s57_0 p4 else f_O_shift_74 z0 p1 z2 z3 p4 s57_0 z3.2.2.2.1.toInt32)
def f_O_shift_41 (z0 : VV) (p1 : Int32) (z2 : VV) (z3 : VV) (p4 : Int32) (s41_0 : Int32) : VV := (if s41_0 = 0 then f_O_shift_57 z0 p1 z2 z3 p4 s41_0 0 else f_O_shift_57 z0 p1 z2 z3 p4 s41_0 z3.2.2.1.toInt32)
def f_O_shift_19g (z0 : VV) (p1 : Int32) (z2 : VV) (z3 : VV) (p4 : Int32) (g19 : VV) : VV := g19
def f_O_shift (z0 : VV) (p1 : Int32) (z2 : VV) (z3 : VV) (p4 : Int32) : VV := (if (f_V_isSingle z3) = 0 then (if (f_N_below p4.toInt64 z3.2.2.2.1) = 0 then f_O_shift_41 z0 p1 z2 z3 p4 1 else f_O_shift_41 z0 p1 z2 z3 p4 0) else f_O_shift_19g z0 p1 z2 z3 p4 (f_O_shiftBy z0 p1 z2 ((z3.1 &&& p4.toInt64).toInt32)))
set_option maxRecDepth 100000 in
set_option maxHeartbeats 4000000 in
theorem c_O_shift (l : Launch) (dC : Nat → ClassId) (dI : Nat → Nat → Nat) (h0 : Nat) (h2 : Nat) (h3 : Nat) (sz : Nat) (z0 : VV) (p1 : Int32) (z2 : VV) (z3 : VV) (p4 : Int32) : Met l y_O_shift w_O_shift ({ frames := 3, cells := 0, slots := 0, locals := 62 } : Room) (va_Pc [.ref h0, .int (p1), .ref h2, .ref h3, .int (p4)] (mP (dC, dI) [(h0, vE z0), (h2, vE z2), (h3, vE z3)] sz)) (va_Qv (fun _ : Unit => True) (mB (dC, dI) (va_A [(h0, vE z0), (h2, vE z2), (h3, vE z3)] sz) [(h0, vE (f_O_shift z0 p1 z2 z3 p4)), (h2, vE z2), (h3, vE z3)]) (va_A [(h0, vE z0), (h2, vE z2), (h3, vE z3)] sz)) 0 0 (va_A [(h0, vE z0), (h2, vE z2), (h3, vE z3)] sz) := by
  refine Met.ofW (cc := b_O_shift) (maxL := 8) (ret := none) (by decide) rfl ?_
  intro p e s m args below meth c s₁ B hml hv
  obtain ⟨rfl, hsz, hP, hK, hD0⟩ := hv
  have hx := B.exec
  have hb := B.bytes
  have hr := B.returns
  have hts := atoms_spec (ws := w_O_shift) B.pre
  have hG : ∀ w ∈ gG, w.before _ s = true := fun w h => hts w (List.mem_cons_of_mem _ h)
  have hown : s.vm.findClass R_O = some m.cls := findClass_of_methodNamed B.named
  have hlocks := B.notSynchronized
  subst hsz
  have hD := hD0.self (sz := s.heap.size)
  generalize hAe : va_A [(h0, vE z0), (h2, vE z2), (h3, vE z3)] s.heap.size = A at hD ⊢
  have hA : ∀ q : Nat, s.heap.size ≤ q → A q := fun q h => by rw [← hAe]; exact Or.inr h
  have hS : va_S A s.heap s.heap [] := va_S.rf
  have hP : va_P (dC, dI) classes [(h0, .inr (0, [.long (z0.1), .long (z0.2.1), .long (z0.2.2.1), .long (z0.2.2.2.1), .long (z0.2.2.2.2.1), .long (z0.2.2.2.2.2.1), .int (bI z0.2.2.2.2.2.2)])), (h2, .inr (0, [.long (z2.1), .long (z2.2.1), .long (z2.2.2.1), .long (z2.2.2.2.1), .long (z2.2.2.2.2.1), .long (z2.2.2.2.2.2.1), .int (bI z2.2.2.2.2.2.2)])), (h3, .inr (0, [.long (z3.1), .long (z3.2.1), .long (z3.2.2.1), .long (z3.2.2.2.1), .long (z3.2.2.2.2.1), .long (z3.2.2.2.2.2.1), .int (bI z3.2.2.2.2.2.2)]))] s.heap := hP
  have hD : va_D A [(h0, .inr (0, [.long (z0.1), .long (z0.2.1), .long (z0.2.2.1), .long (z0.2.2.2.1), .long (z0.2.2.2.2.1), .long (z0.2.2.2.2.2.1), .int (bI z0.2.2.2.2.2.2)])), (h2, .inr (0, [.long (z2.1), .long (z2.2.1), .long (z2.2.2.1), .long (z2.2.2.2.1), .long (z2.2.2.2.2.1), .long (z2.2.2.2.2.2.1), .int (bI z2.2.2.2.2.2.2)])), (h3, .inr (0, [.long (z3.1), .long (z3.2.1), .long (z3.2.2.1), .long (z3.2.2.2.1), .long (z3.2.2.2.2.1), .long (z3.2.2.2.2.2.1), .int (bI z3.2.2.2.2.2.2)]))] := hD
  have hl := lv_entry ([.ref h0, .int (p1), .ref h2, .ref h3, .int (p4)]) (n := 8) (Nat.le_of_ble_eq_true rfl)
  rw [lg_entry_eq]
  generalize (lg_sl ([.ref h0, .int (p1), .ref h2, .ref h3, .int (p4)]) ++ List.replicate (8 - (lg_sl ([.ref h0, .int (p1), .ref h2, .ref h3, .int (p4)])).length) Slot.unset).toArray = ls at hl ⊢
  have hl : lv_has ls 8 [(0, .ref h0), (1, .int (p1)), (2, .ref h2), (3, .ref h3), (4, .int (p4))] := hl
  have K166g : ∀ (g166 : VV) (hj : f_O_shift z0 p1 z2 z3 p4 = f_O_shift_166g z0 p1 z2 z3 p4 g166) (H : Heap) (locs : List Loc) (hP : va_P (dC, dI) classes [(h0, .inr (0, [.long (g166.1), .long (g166.2.1), .long (g166.2.2.1), .long (g166.2.2.2.1), .long (g166.2.2.2.2.1), .long (g166.2.2.2.2.2.1), .int (bI g166.2.2.2.2.2.2)])), (h2, .inr (0, [.long (z2.1), .long (z2.2.1), .long (z2.2.2.1), .long (z2.2.2.2.1), .long (z2.2.2.2.2.1), .long (z2.2.2.2.2.2.1), .int (bI z2.2.2.2.2.2.2)])), (h3, .inr (0, [.long (z3.1), .long (z3.2.1), .long (z3.2.2.1), .long (z3.2.2.2.1), .long (z3.2.2.2.2.1), .long (z3.2.2.2.2.2.1), .int (bI z3.2.2.2.2.2.2)]))] H) (hD : va_D A [(h0, .inr (0, [.long (g166.1), .long (g166.2.1), .long (g166.2.2.1), .long (g166.2.2.2.1), .long (g166.2.2.2.2.1), .long (g166.2.2.2.2.2.1), .int (bI g166.2.2.2.2.2.2)])), (h2, .inr (0, [.long (z2.1), .long (z2.2.1), .long (z2.2.2.1), .long (z2.2.2.2.1), .long (z2.2.2.2.2.1), .long (z2.2.2.2.2.2.1), .int (bI z2.2.2.2.2.2.2)])), (h3, .inr (0, [.long (z3.1), .long (z3.2.1), .long (z3.2.2.1), .long (z3.2.2.2.1), .long (z3.2.2.2.2.1), .long (z3.2.2.2.2.2.1), .int (bI z3.2.2.2.2.2.2)]))]) (hS : va_S A s.heap H locs) (ls : Array Slot) (hl : lv_has ls 8 []), W p l e (headSpec w_O_shift ({ frames := 3, cells := 0, slots := 0, locals := 62 } : Room)).room s m ([.ref h0, .int (p1), .ref h2, .ref h3, .int (p4)] : List Value).toArray below meth c H locs 0 0 (MQ below (va_Qv (fun _ : Unit => True) (mB (dC, dI) A [(h0, vE (f_O_shift z0 p1 z2 z3 p4)), (h2, vE z2), (h3, vE z3)]) A) ([.ref h0, .int (p1), .ref h2, .ref h3, .int (p4)] : List Value).toArray s 0 0 A) (F0 m 169 ls []) := by
    intro g166 hj H locs hP hD hS ls hl
    have fe : f_O_shift z0 p1 z2 z3 p4 = g166 := hj.trans rfl
    exact W.vret hx hb hr (fun t ht hW => ⟨⟨(), rfl, trivial, by rw [ht, fe]; (try simp only [vE_mk]); exact hP, by rw [fe]; (try simp only [vE_mk]); exact hD⟩, hS.F ht⟩) hS.2.2 d_O_shift_169
  have K125g : ∀ (g125 : VV) (hj : f_O_shift z0 p1 z2 z3 p4 = f_O_shift_125g z0 p1 z2 z3 p4 g125) (H : Heap) (locs : List Loc) (hP : va_P (dC, dI) classes [(h0, .inr (0, [.long (g125.1), .long (g125.2.1), .long (g125.2.2.1), .long (g125.2.2.2.1), .long (g125.2.2.2.2.1), .long (g125.2.2.2.2.2.1), .int (bI g125.2.2.2.2.2.2)])), (h2, .inr (0, [.long (z2.1), .long (z2.2.1), .long (z2.2.2.1), .long (z2.2.2.2.1), .long (z2.2.2.2.2.1), .long (z2.2.2.2.2.2.1), .int (bI z2.2.2.2.2.2.2)])), (h3, .inr (0, [.long (z3.1), .long (z3.2.1), .long (z3.2.2.1), .long (z3.2.2.2.1), .long (z3.2.2.2.2.1), .long (z3.2.2.2.2.2.1), .int (bI z3.2.2.2.2.2.2)]))] H) (hD : va_D A [(h0, .inr (0, [.long (g125.1), .long (g125.2.1), .long (g125.2.2.1), .long (g125.2.2.2.1), .long (g125.2.2.2.2.1), .long (g125.2.2.2.2.2.1), .int (bI g125.2.2.2.2.2.2)])), (h2, .inr (0, [.long (z2.1), .long (z2.2.1), .long (z2.2.2.1), .long (z2.2.2.2.1), .long (z2.2.2.2.2.1), .long (z2.2.2.2.2.2.1), .int (bI z2.2.2.2.2.2.2)])), (h3, .inr (0, [.long (z3.1), .long (z3.2.1), .long (z3.2.2.1), .long (z3.2.2.2.1), .long (z3.2.2.2.2.1), .long (z3.2.2.2.2.2.1), .int (bI z3.2.2.2.2.2.2)]))]) (hS : va_S A s.heap H locs) (ls : Array Slot) (hl : lv_has ls 8 []), W p l e (headSpec w_O_shift ({ frames := 3, cells := 0, slots := 0, locals := 62 } : Room)).room s m ([.ref h0, .int (p1), .ref h2, .ref h3, .int (p4)] : List Value).toArray below meth c H locs 0 0 (MQ below (va_Qv (fun _ : Unit => True) (mB (dC, dI) A [(h0, vE (f_O_shift z0 p1 z2 z3 p4)), (h2, vE z2), (h3, vE z3)]) A) ([.ref h0, .int (p1), .ref h2, .ref h3, .int (p4)] : List Value).toArray s 0 0 A) (F0 m 128 ls []) := by
    intro g125 hj H locs hP hD hS ls hl
    refine lv_goto (tgt := 169) hx hb d_O_shift_128 (by decide) ?_
    have fe : f_O_shift z0 p1 z2 z3 p4 = g125 := hj.trans rfl
    exact W.vret hx hb hr (fun t ht hW => ⟨⟨(), rfl, trivial, by rw [ht, fe]; (try simp only [vE_mk]); exact hP, by rw [fe]; (try simp only [vE_mk]); exact hD⟩, hS.F ht⟩) hS.2.2 d_O_shift_169
  have K98g : ∀ (g98 : VV) (hj : f_O_shift z0 p1 z2 z3 p4 = f_O_shift_98g z0 p1 z2 z3 p4 g98) (H : Heap) (locs : List Loc) (hP : va_P (dC, dI) classes [(h0, .inr (0, [.long (g98.1), .long (g98.2.1), .long (g98.2.2.1), .long (g98.2.2.2.1), .long (g98.2.2.2.2.1), .long (g98.2.2.2.2.2.1), .int (bI g98.2.2.2.2.2.2)])), (h2, .inr (0, [.long (z2.1), .long (z2.2.1), .long (z2.2.2.1), .long (z2.2.2.2.1), .long (z2.2.2.2.2.1), .long (z2.2.2.2.2.2.1), .int (bI z2.2.2.2.2.2.2)])), (h3, .inr (0, [.long (z3.1), .long (z3.2.1), .long (z3.2.2.1), .long (z3.2.2.2.1), .long (z3.2.2.2.2.1), .long (z3.2.2.2.2.2.1), .int (bI z3.2.2.2.2.2.2)]))] H) (hD : va_D A [(h0, .inr (0, [.long (g98.1), .long (g98.2.1), .long (g98.2.2.1), .long (g98.2.2.2.1), .long (g98.2.2.2.2.1), .long (g98.2.2.2.2.2.1), .int (bI g98.2.2.2.2.2.2)])), (h2, .inr (0, [.long (z2.1), .long (z2.2.1), .long (z2.2.2.1), .long (z2.2.2.2.1), .long (z2.2.2.2.2.1), .long (z2.2.2.2.2.2.1), .int (bI z2.2.2.2.2.2.2)])), (h3, .inr (0, [.long (z3.1), .long (z3.2.1), .long (z3.2.2.1), .long (z3.2.2.2.1), .long (z3.2.2.2.2.1), .long (z3.2.2.2.2.2.1), .int (bI z3.2.2.2.2.2.2)]))]) (hS : va_S A s.heap H locs) (ls : Array Slot) (hl : lv_has ls 8 []), W p l e (headSpec w_O_shift ({ frames := 3, cells := 0, slots := 0, locals := 62 } : Room)).room s m ([.ref h0, .int (p1), .ref h2, .ref h3, .int (p4)] : List Value).toArray below meth c H locs 0 0 (MQ below (va_Qv (fun _ : Unit => True) (mB (dC, dI) A [(h0, vE (f_O_shift z0 p1 z2 z3 p4)), (h2, vE z2), (h3, vE z3)]) A) ([.ref h0, .int (p1), .ref h2, .ref h3, .int (p4)] : List Value).toArray s 0 0 A) (F0 m 101 ls []) := by
    intro g98 hj H locs hP hD hS ls hl
    refine lv_goto (tgt := 169) hx hb d_O_shift_101 (by decide) ?_
    have fe : f_O_shift z0 p1 z2 z3 p4 = g98 := hj.trans rfl
    exact W.vret hx hb hr (fun t ht hW => ⟨⟨(), rfl, trivial, by rw [ht, fe]; (try simp only [vE_mk]); exact hP, by rw [fe]; (try simp only [vE_mk]); exact hD⟩, hS.F ht⟩) hS.2.2 d_O_shift_169
  have K74 : ∀ (s57_0 : Int32) (s74_0 : Int32) (hj : f_O_shift z0 p1 z2 z3 p4 = f_O_shift_74 z0 p1 z2 z3 p4 s57_0 s74_0) (H : Heap) (locs : List Loc) (hP : va_P (dC, dI) classes [(h0, .inr (0, [.long (z0.1), .long (z0.2.1), .long (z0.2.2.1), .long (z0.2.2.2.1), .long (z0.2.2.2.2.1), .long (z0.2.2.2.2.2.1), .int (bI z0.2.2.2.2.2.2)])), (h2, .inr (0, [.long (z2.1), .long (z2.2.1), .long (z2.2.2.1), .long (z2.2.2.2.1), .long (z2.2.2.2.2.1), .long (z2.2.2.2.2.2.1), .int (bI z2.2.2.2.2.2.2)])), (h3, .inr (0, [.long (z3.1), .long (z3.2.1), .long (z3.2.2.1), .long (z3.2.2.2.1), .long (z3.2.2.2.2.1), .long (z3.2.2.2.2.2.1), .int (bI z3.2.2.2.2.2.2)]))] H) (hD : va_D A [(h0, .inr (0, [.long (z0.1), .long (z0.2.1), .long (z0.2.2.1), .long (z0.2.2.2.1), .long (z0.2.2.2.2.1), .long (z0.2.2.2.2.2.1), .int (bI z0.2.2.2.2.2.2)])), (h2, .inr (0, [.long (z2.1), .long (z2.2.1), .long (z2.2.2.1), .long (z2.2.2.2.1), .long (z2.2.2.2.2.1), .long (z2.2.2.2.2.2.1), .int (bI z2.2.2.2.2.2.2)])), (h3, .inr (0, [.long (z3.1), .long (z3.2.1), .long (z3.2.2.1), .long (z3.2.2.2.1), .long (z3.2.2.2.2.1), .long (z3.2.2.2.2.2.1), .int (bI z3.2.2.2.2.2.2)]))]) (hS : va_S A s.heap H locs) (ls : Array Slot) (hl : lv_has ls 8 [(6, .int (s57_0)), (0, .ref h0), (1, .int (p1)), (2, .ref h2)]), W p l e (headSpec w_O_shift ({ frames := 3, cells := 0, slots := 0, locals := 62 } : Room)).room s m ([.ref h0, .int (p1), .ref h2, .ref h3, .int (p4)] : List Value).toArray below meth c H locs 0 0 (MQ below (va_Qv (fun _ : Unit => True) (mB (dC, dI) A [(h0, vE (f_O_shift z0 p1 z2 z3 p4)), (h2, vE z2), (h3, vE z3)]) A) ([.ref h0, .int (p1), .ref h2, .ref h3, .int (p4)] : List Value).toArray s 0 0 A) (F0 m 74 ls [.int (s74_0)]) := by
    intro s57_0 s74_0 hj H locs hP hD hS ls hl
    refine lv_istore (lv' := [(7, .int (s74_0)), (6, .int (s57_0)), (0, .ref h0), (1, .int (p1)), (2, .ref h2)]) hx hb d_O_shift_74 hl (by decide) rfl (fun ls hl => ?_)
    refine lv_iload_n hx hb d_O_shift_76 rfl (lv_at hl 3 rfl) ?_
    refine lv_bipush (v := 8) hx hb d_O_shift_77 (by decide) ?_
    refine lv_icmp_ne (tgt := 104) hx hb d_O_shift_79 (by decide) (fun e1_104 => ?_) (fun e1_104 => ?_)
    · refine lv_iload_n hx hb d_O_shift_104 rfl (lv_at hl 3 rfl) ?_
      refine lv_bipush (v := 9) hx hb d_O_shift_105 (by decide) ?_
      refine lv_icmp_ne (tgt := 131) hx hb d_O_shift_107 (by decide) (fun e2_131 => ?_) (fun e2_131 => ?_)
      · refine lv_aload_n hx hb d_O_shift_131 rfl (lv_at hl 2 rfl) ?_
        refine lv_aload_n hx hb d_O_shift_132 rfl (lv_at hl 4 rfl) ?_
        refine va_get (D := (dC, dI)) (ci := 0) (v := .long (z2.2.2.2.2.1)) (C := R_V) (T := F_V) (N := 7) hx hb hts (fun w h => List.mem_cons_of_mem _ (uw_V w h)) hown hK hP 1 rfl rfl 4 (by decide) (hG (.fieldLink R_O 79 "ValueSieve$Value" "least" "J") gw34) (fun _ h9 => h9) rfl d_O_shift_133 ?_
        refine lv_iload hx hb d_O_shift_136 (lv_at hl 1 rfl) ?_
        refine lv_lshr (v := z2.2.2.2.2.1 >>> (s57_0.toInt64 &&& 63)) hx hb d_O_shift_138 rfl ?_
        refine lv_aload_n hx hb d_O_shift_139 rfl (lv_at hl 4 rfl) ?_
        refine va_get (D := (dC, dI)) (ci := 0) (v := .long (z2.2.2.2.2.1)) (C := R_V) (T := F_V) (N := 7) hx hb hts (fun w h => List.mem_cons_of_mem _ (uw_V w h)) hown hK hP 1 rfl rfl 4 (by decide) (hG (.fieldLink R_O 79 "ValueSieve$Value" "least" "J") gw34) (fun _ h9 => h9) rfl d_O_shift_140 ?_
        refine lv_iload hx hb d_O_shift_143 (lv_at hl 0 rfl) ?_
        refine lv_lshr (v := z2.2.2.2.2.1 >>> (s74_0.toInt64 &&& 63)) hx hb d_O_shift_145 rfl ?_
        refine va_mmin_long hx hb (hml.trans hl.1.symm) hown (hG (.methodLink R_O 117 Lib.MathLoose.min_long.x) gw236) (hG (.static Lib.MathLoose.min_long.x) gw137) (hG (.initialized "java/lang/Math") gw3) (hG (.code Lib.MathLoose.min_long.x Lib.MathLoose.min_long.code 4 (some .long)) gw138) (Nat.le_of_ble_eq_true rfl) (Nat.le_of_ble_eq_true rfl) (Nat.zero_le _) (Nat.zero_le _) d_O_shift_146 ?_
        refine lv_aload_n hx hb d_O_shift_149 rfl (lv_at hl 4 rfl) ?_
        refine va_get (D := (dC, dI)) (ci := 0) (v := .long (z2.2.2.2.2.2.1)) (C := R_V) (T := F_V) (N := 7) hx hb hts (fun w h => List.mem_cons_of_mem _ (uw_V w h)) hown hK hP 1 rfl rfl 5 (by decide) (hG (.fieldLink R_O 85 "ValueSieve$Value" "greatest" "J") gw38) (fun _ h9 => h9) rfl d_O_shift_150 ?_
        refine lv_iload hx hb d_O_shift_153 (lv_at hl 1 rfl) ?_
        refine lv_lshr (v := z2.2.2.2.2.2.1 >>> (s57_0.toInt64 &&& 63)) hx hb d_O_shift_155 rfl ?_
        refine lv_aload_n hx hb d_O_shift_156 rfl (lv_at hl 4 rfl) ?_
        refine va_get (D := (dC, dI)) (ci := 0) (v := .long (z2.2.2.2.2.2.1)) (C := R_V) (T := F_V) (N := 7) hx hb hts (fun w h => List.mem_cons_of_mem _ (uw_V w h)) hown hK hP 1 rfl rfl 5 (by decide) (hG (.fieldLink R_O 85 "ValueSieve$Value" "greatest" "J") gw38) (fun _ h9 => h9) rfl d_O_shift_157 ?_
        refine lv_iload hx hb d_O_shift_160 (lv_at hl 0 rfl) ?_
        refine lv_lshr (v := z2.2.2.2.2.2.1 >>> (s74_0.toInt64 &&& 63)) hx hb d_O_shift_162 rfl ?_
        refine va_mmax_long hx hb (hml.trans hl.1.symm) hown (hG (.methodLink R_O 119 Lib.MathLoose.max_long.x) gw237) (hG (.static Lib.MathLoose.max_long.x) gw120) (hG (.initialized "java/lang/Math") gw3) (hG (.code Lib.MathLoose.max_long.x Lib.MathLoose.max_long.code 4 (some .long)) gw121) (Nat.le_of_ble_eq_true rfl) (Nat.le_of_ble_eq_true rfl) (Nat.zero_le _) (Nat.zero_le _) d_O_shift_163 ?_
        refine mg_v (F := f_V_saySigned z0 (jmmin (z2.2.2.2.2.1 >>> (s57_0.toInt64 &&& 63)) (z2.2.2.2.2.1 >>> (s74_0.toInt64 &&& 63))) (jmmax (z2.2.2.2.2.2.1 >>> (s57_0.toInt64 &&& 63)) (z2.2.2.2.2.2.1 >>> (s74_0.toInt64 &&& 63)))) (wc := [(h0, vE z0)]) (w1 := fun g166 => [(h0, vE g166)]) (wr := [(h2, .inr (0, [.long (z2.1), .long (z2.2.1), .long (z2.2.2.1), .long (z2.2.2.2.1), .long (z2.2.2.2.2.1), .long (z2.2.2.2.2.2.1), .int (bI z2.2.2.2.2.2.2)])), (h3, .inr (0, [.long (z3.1), .long (z3.2.1), .long (z3.2.2.1), .long (z3.2.2.2.1), .long (z3.2.2.2.2.1), .long (z3.2.2.2.2.2.1), .int (bI z3.2.2.2.2.2.2)]))]) (ws' := fun g166 => [(h0, .inr (0, [.long (g166.1), .long (g166.2.1), .long (g166.2.2.1), .long (g166.2.2.2.1), .long (g166.2.2.2.2.1), .long (g166.2.2.2.2.2.1), .int (bI g166.2.2.2.2.2.2)])), (h2, .inr (0, [.long (z2.1), .long (z2.2.1), .long (z2.2.2.1), .long (z2.2.2.2.1), .long (z2.2.2.2.2.1), .long (z2.2.2.2.2.2.1), .int (bI z2.2.2.2.2.2.2)])), (h3, .inr (0, [.long (z3.1), .long (z3.2.1), .long (z3.2.2.1), .long (z3.2.2.2.1), .long (z3.2.2.2.2.1), .long (z3.2.2.2.2.2.1), .int (bI z3.2.2.2.2.2.2)]))]) (va_runV (As := [.long (jmmin (z2.2.2.2.2.1 >>> (s57_0.toInt64 &&& 63)) (z2.2.2.2.2.1 >>> (s74_0.toInt64 &&& 63))), .long (jmmax (z2.2.2.2.2.2.1 >>> (s57_0.toInt64 &&& 63)) (z2.2.2.2.2.2.1 >>> (s74_0.toInt64 &&& 63)))]) (rest := []) ⟨hx, hb, hml, hown, hts⟩ (c_V_saySigned l dC dI h0 H.size z0 (jmmin (z2.2.2.2.2.1 >>> (s57_0.toInt64 &&& 63)) (z2.2.2.2.2.1 >>> (s74_0.toInt64 &&& 63))) (jmmax (z2.2.2.2.2.2.1 >>> (s57_0.toInt64 &&& 63)) (z2.2.2.2.2.2.1 >>> (s74_0.toInt64 &&& 63)))) (cwV 2 hts (gV gw197 gw90 gw91 gw1 gw92) rfl rfl rfl (by decide +kernel) ⟨(Nat.le_of_ble_eq_true rfl), (Nat.le_of_ble_eq_true rfl)⟩) ⟨blm, va_recv hK hP (ci := 0) (q0 := 0) rfl rfl, fun U hU hW => ⟨rfl, by rw [hU], by rw [hU]; exact hP.sub [0] rfl, va_K.moved hW.alike hK, (hD.sub [0] (by decide) rfl).weaken (fun _ _ _ _ => trivial)⟩⟩ rfl rfl hl.1 rfl (lv_room (Nat.le_of_ble_eq_true rfl)) d_O_shift_166 ⟨Nat.zero_le _, Nat.zero_le _⟩) hP hD hS hA [0] [1, 2] [2, 0, 1] rfl rfl (by decide) (by decide) (fun _ => rfl) (by decide) (fun g166 eg166 H locs hP hD hS => ?_)
        refine K166g g166 (Eq.trans (hj.trans (by unfold f_O_shift_74; first | with_reducible exact (if_neg e1_104).trans (if_neg e2_131) | exact (if_neg e1_104).trans (if_neg e2_131))) (congrArg (fun g166 => f_O_shift_166g z0 p1 z2 z3 p4 g166) eg166)) H locs ?_ ?_ hS ls (lv_sub hl [] rfl)
        · with_reducible exact hP
        · with_reducible exact hD
      · refine lv_aload_n hx hb d_O_shift_110 rfl (lv_at hl 2 rfl) ?_
        refine lv_aload_n hx hb d_O_shift_111 rfl (lv_at hl 4 rfl) ?_
        refine va_get (D := (dC, dI)) (ci := 0) (v := .long (z2.2.2.1)) (C := R_V) (T := F_V) (N := 7) hx hb hts (fun w h => List.mem_cons_of_mem _ (uw_V w h)) hown hK hP 1 rfl rfl 2 (by decide) (hG (.fieldLink R_O 55 "ValueSieve$Value" "low" "J") gw26) (fun _ h9 => h9) rfl d_O_shift_112 ?_
        refine lv_iload hx hb d_O_shift_115 (lv_at hl 0 rfl) ?_
        refine lv_lushr (v := (z2.2.2.1.toUInt64 >>> (s74_0.toInt64.toUInt64 &&& Int64.toUInt64 63)).toInt64) hx hb d_O_shift_117 rfl ?_
        refine lv_aload_n hx hb d_O_shift_118 rfl (lv_at hl 4 rfl) ?_
        refine va_get (D := (dC, dI)) (ci := 0) (v := .long (z2.2.2.2.1)) (C := R_V) (T := F_V) (N := 7) hx hb hts (fun w h => List.mem_cons_of_mem _ (uw_V w h)) hown hK hP 1 rfl rfl 3 (by decide) (hG (.fieldLink R_O 49 "ValueSieve$Value" "high" "J") gw30) (fun _ h9 => h9) rfl d_O_shift_119 ?_
        refine lv_iload hx hb d_O_shift_122 (lv_at hl 1 rfl) ?_
        refine lv_lushr (v := (z2.2.2.2.1.toUInt64 >>> (s57_0.toInt64.toUInt64 &&& Int64.toUInt64 63)).toInt64) hx hb d_O_shift_124 rfl ?_
        refine mg_v (F := f_V_sayUnsigned z0 ((z2.2.2.1.toUInt64 >>> (s74_0.toInt64.toUInt64 &&& Int64.toUInt64 63)).toInt64) ((z2.2.2.2.1.toUInt64 >>> (s57_0.toInt64.toUInt64 &&& Int64.toUInt64 63)).toInt64)) (wc := [(h0, vE z0)]) (w1 := fun g125 => [(h0, vE g125)]) (wr := [(h2, .inr (0, [.long (z2.1), .long (z2.2.1), .long (z2.2.2.1), .long (z2.2.2.2.1), .long (z2.2.2.2.2.1), .long (z2.2.2.2.2.2.1), .int (bI z2.2.2.2.2.2.2)])), (h3, .inr (0, [.long (z3.1), .long (z3.2.1), .long (z3.2.2.1), .long (z3.2.2.2.1), .long (z3.2.2.2.2.1), .long (z3.2.2.2.2.2.1), .int (bI z3.2.2.2.2.2.2)]))]) (ws' := fun g125 => [(h0, .inr (0, [.long (g125.1), .long (g125.2.1), .long (g125.2.2.1), .long (g125.2.2.2.1), .long (g125.2.2.2.2.1), .long (g125.2.2.2.2.2.1), .int (bI g125.2.2.2.2.2.2)])), (h2, .inr (0, [.long (z2.1), .long (z2.2.1), .long (z2.2.2.1), .long (z2.2.2.2.1), .long (z2.2.2.2.2.1), .long (z2.2.2.2.2.2.1), .int (bI z2.2.2.2.2.2.2)])), (h3, .inr (0, [.long (z3.1), .long (z3.2.1), .long (z3.2.2.1), .long (z3.2.2.2.1), .long (z3.2.2.2.2.1), .long (z3.2.2.2.2.2.1), .int (bI z3.2.2.2.2.2.2)]))]) (va_runV (As := [.long ((z2.2.2.1.toUInt64 >>> (s74_0.toInt64.toUInt64 &&& Int64.toUInt64 63)).toInt64), .long ((z2.2.2.2.1.toUInt64 >>> (s57_0.toInt64.toUInt64 &&& Int64.toUInt64 63)).toInt64)]) (rest := []) ⟨hx, hb, hml, hown, hts⟩ (c_V_sayUnsigned l dC dI h0 H.size z0 ((z2.2.2.1.toUInt64 >>> (s74_0.toInt64.toUInt64 &&& Int64.toUInt64 63)).toInt64) ((z2.2.2.2.1.toUInt64 >>> (s57_0.toInt64.toUInt64 &&& Int64.toUInt64 63)).toInt64)) (cwV 2 hts (gV gw193 gw84 gw85 gw1 gw86) rfl rfl rfl (by decide +kernel) ⟨(Nat.le_of_ble_eq_true rfl), (Nat.le_of_ble_eq_true rfl)⟩) ⟨blm, va_recv hK hP (ci := 0) (q0 := 0) rfl rfl, fun U hU hW => ⟨rfl, by rw [hU], by rw [hU]; exact hP.sub [0] rfl, va_K.moved hW.alike hK, (hD.sub [0] (by decide) rfl).weaken (fun _ _ _ _ => trivial)⟩⟩ rfl rfl hl.1 rfl (lv_room (Nat.le_of_ble_eq_true rfl)) d_O_shift_125 ⟨Nat.zero_le _, Nat.zero_le _⟩) hP hD hS hA [0] [1, 2] [2, 0, 1] rfl rfl (by decide) (by decide) (fun _ => rfl) (by decide) (fun g125 eg125 H locs hP hD hS => ?_)
        refine K125g g125 (Eq.trans (hj.trans (by unfold f_O_shift_74; first | with_reducible exact (if_neg e1_104).trans (if_pos e2_131) | exact (if_neg e1_104).trans (if_pos e2_131))) (congrArg (fun g125 => f_O_shift_125g z0 p1 z2 z3 p4 g125) eg125)) H locs ?_ ?_ hS ls (lv_sub hl [] rfl)
        · with_reducible exact hP
        · with_reducible exact hD
    · refine lv_aload_n hx hb d_O_shift_82 rfl (lv_at hl 2 rfl) ?_
      refine lv_lconst (v := 0) hx hb d_O_shift_83 (by decide) ?_
      refine lv_aload_n hx hb d_O_shift_84 rfl (lv_at hl 4 rfl) ?_
      refine rc_i (W.runS (As := [.ref h2]) (rest := [.long (0), .ref h0]) ⟨hx, hb, hml, hown, hts⟩ (c_O_zerosBelow l dC dI h2 z2) (va_cwS 1 hts (gS gw219 gw220 gw4 gw221) rfl rfl rfl (by decide +kernel) ⟨(Nat.le_of_ble_eq_true rfl), (Nat.le_of_ble_eq_true rfl)⟩) ⟨blr, fun U hU hW => ⟨rfl, by rw [hU]; exact hP.sub [1] rfl, va_K.moved hW.alike hK⟩⟩ rfl rfl hl.1 rfl (lv_room (Nat.le_of_ble_eq_true rfl)) d_O_shift_85 ⟨Nat.zero_le _, Nat.zero_le _⟩) ?_
      refine lv_iload hx hb d_O_shift_88 (lv_at hl 1 rfl) ?_
      refine lv_iadd hx hb d_O_shift_90 ?_
      refine rc_l (W.runS (As := [.int ((f_O_zerosBelow z2) + s57_0)]) (rest := [.long (0), .ref h0]) ⟨hx, hb, hml, hown, hts⟩ (c_N_lowest l ((f_O_zerosBelow z2) + s57_0)) (va_cwS 1 hts (gS gw225 gw168 gw2 gw169) rfl rfl rfl (by decide +kernel) ⟨(Nat.le_of_ble_eq_true rfl), (Nat.le_of_ble_eq_true rfl)⟩) ⟨bl0, fun U hU hW => ⟨rfl, trivial⟩⟩ rfl rfl hl.1 rfl (lv_room (Nat.le_of_ble_eq_true rfl)) d_O_shift_91 ⟨Nat.zero_le _, Nat.zero_le _⟩) ?_
      refine lv_ldc2 (v := -1) hx hb hown (hG (.constantLong R_O 43 (-1)) gw226) d_O_shift_94 ?_
      refine lv_lxor hx hb d_O_shift_97 ?_
      refine mg_v (F := f_V_sayBits z0 (0) ((f_N_lowest ((f_O_zerosBelow z2) + s57_0)) ^^^ (-1 : Int64))) (wc := [(h0, vE z0)]) (w1 := fun g98 => [(h0, vE g98)]) (wr := [(h2, .inr (0, [.long (z2.1), .long (z2.2.1), .long (z2.2.2.1), .long (z2.2.2.2.1), .long (z2.2.2.2.2.1), .long (z2.2.2.2.2.2.1), .int (bI z2.2.2.2.2.2.2)])), (h3, .inr (0, [.long (z3.1), .long (z3.2.1), .long (z3.2.2.1), .long (z3.2.2.2.1), .long (z3.2.2.2.2.1), .long (z3.2.2.2.2.2.1), .int (bI z3.2.2.2.2.2.2)]))]) (ws' := fun g98 => [(h0, .inr (0, [.long (g98.1), .long (g98.2.1), .long (g98.2.2.1), .long (g98.2.2.2.1), .long (g98.2.2.2.2.1), .long (g98.2.2.2.2.2.1), .int (bI g98.2.2.2.2.2.2)])), (h2, .inr (0, [.long (z2.1), .long (z2.2.1), .long (z2.2.2.1), .long (z2.2.2.2.1), .long (z2.2.2.2.2.1), .long (z2.2.2.2.2.2.1), .int (bI z2.2.2.2.2.2.2)])), (h3, .inr (0, [.long (z3.1), .long (z3.2.1), .long (z3.2.2.1), .long (z3.2.2.2.1), .long (z3.2.2.2.2.1), .long (z3.2.2.2.2.2.1), .int (bI z3.2.2.2.2.2.2)]))]) (va_runV (As := [.long (0), .long ((f_N_lowest ((f_O_zerosBelow z2) + s57_0)) ^^^ (-1 : Int64))]) (rest := []) ⟨hx, hb, hml, hown, hts⟩ (c_V_sayBits l dC dI h0 H.size z0 (0) ((f_N_lowest ((f_O_zerosBelow z2) + s57_0)) ^^^ (-1 : Int64))) (cwV 2 hts (gV gw191 gw80 gw81 gw1 gw82) rfl rfl rfl (by decide +kernel) ⟨(Nat.le_of_ble_eq_true rfl), (Nat.le_of_ble_eq_true rfl)⟩) ⟨blm, va_recv hK hP (ci := 0) (q0 := 0) rfl rfl, fun U hU hW => ⟨rfl, by rw [hU], by rw [hU]; exact hP.sub [0] rfl, va_K.moved hW.alike hK, (hD.sub [0] (by decide) rfl).weaken (fun _ _ _ _ => trivial)⟩⟩ rfl rfl hl.1 rfl (lv_room (Nat.le_of_ble_eq_true rfl)) d_O_shift_98 ⟨Nat.zero_le _, Nat.zero_le _⟩) hP hD hS hA [0] [1, 2] [2, 0, 1] rfl rfl (by decide) (by decide) (fun _ => rfl) (by decide) (fun g98 eg98 H locs hP hD hS => ?_)
      refine K98g g98 (Eq.trans (hj.trans (by unfold f_O_shift_74; first | with_reducible exact if_pos e1_104 | exact if_pos e1_104)) (congrArg (fun g98 => f_O_shift_98g z0 p1 z2 z3 p4 g98) eg98)) H locs ?_ ?_ hS ls (lv_sub hl [] rfl)
      · with_reducible exact hP
      · with_reducible exact hD
  have K57 : ∀ (s41_0 : Int32) (s57_0 : Int32) (hj : f_O_shift z0 p1 z2 z3 p4 = f_O_shift_57 z0 p1 z2 z3 p4 s41_0 s57_0) (H : Heap) (locs : List Loc) (hP : va_P (dC, dI) classes [(h0, .inr (0, [.long (z0.1), .long (z0.2.1), .long (z0.2.2.1), .long (z0.2.2.2.1), .long (z0.2.2.2.2.1), .long (z0.2.2.2.2.2.1), .int (bI z0.2.2.2.2.2.2)])), (h2, .inr (0, [.long (z2.1), .long (z2.2.1), .long (z2.2.2.1), .long (z2.2.2.2.1), .long (z2.2.2.2.2.1), .long (z2.2.2.2.2.2.1), .int (bI z2.2.2.2.2.2.2)])), (h3, .inr (0, [.long (z3.1), .long (z3.2.1), .long (z3.2.2.1), .long (z3.2.2.2.1), .long (z3.2.2.2.2.1), .long (z3.2.2.2.2.2.1), .int (bI z3.2.2.2.2.2.2)]))] H) (hD : va_D A [(h0, .inr (0, [.long (z0.1), .long (z0.2.1), .long (z0.2.2.1), .long (z0.2.2.2.1), .long (z0.2.2.2.2.1), .long (z0.2.2.2.2.2.1), .int (bI z0.2.2.2.2.2.2)])), (h2, .inr (0, [.long (z2.1), .long (z2.2.1), .long (z2.2.2.1), .long (z2.2.2.2.1), .long (z2.2.2.2.2.1), .long (z2.2.2.2.2.2.1), .int (bI z2.2.2.2.2.2.2)])), (h3, .inr (0, [.long (z3.1), .long (z3.2.1), .long (z3.2.2.1), .long (z3.2.2.2.1), .long (z3.2.2.2.2.1), .long (z3.2.2.2.2.2.1), .int (bI z3.2.2.2.2.2.2)]))]) (hS : va_S A s.heap H locs) (ls : Array Slot) (hl : lv_has ls 8 [(5, .int (s41_0)), (0, .ref h0), (1, .int (p1)), (2, .ref h2), (3, .ref h3), (4, .int (p4))]), W p l e (headSpec w_O_shift ({ frames := 3, cells := 0, slots := 0, locals := 62 } : Room)).room s m ([.ref h0, .int (p1), .ref h2, .ref h3, .int (p4)] : List Value).toArray below meth c H locs 0 0 (MQ below (va_Qv (fun _ : Unit => True) (mB (dC, dI) A [(h0, vE (f_O_shift z0 p1 z2 z3 p4)), (h2, vE z2), (h3, vE z3)]) A) ([.ref h0, .int (p1), .ref h2, .ref h3, .int (p4)] : List Value).toArray s 0 0 A) (F0 m 57 ls [.int (s57_0)]) := by
    intro s41_0 s57_0 hj H locs hP hD hS ls hl
    refine lv_istore (lv' := [(6, .int (s57_0)), (5, .int (s41_0)), (0, .ref h0), (1, .int (p1)), (2, .ref h2), (3, .ref h3), (4, .int (p4))]) hx hb d_O_shift_57 hl (by decide) rfl (fun ls hl => ?_)
    refine lv_iload hx hb d_O_shift_59 (lv_at hl 1 rfl) ?_
    refine lv_if_eq (tgt := 72) hx hb d_O_shift_61 (by decide) (fun e1_72 => ?_) (fun e1_72 => ?_)
    · refine lv_iload hx hb d_O_shift_72 (lv_at hl 6 rfl) ?_
      refine K74 s57_0 p4 (hj.trans (by unfold f_O_shift_57; first | with_reducible exact if_pos e1_72 | exact if_pos e1_72)) H locs ?_ ?_ hS ls (lv_sub hl [0, 2, 3, 4] rfl)
      · with_reducible exact hP
      · with_reducible exact hD
    · refine lv_aload_n hx hb d_O_shift_64 rfl (lv_at hl 5 rfl) ?_
      refine va_get (D := (dC, dI)) (ci := 0) (v := .long (z3.2.2.2.1)) (C := R_V) (T := F_V) (N := 7) hx hb hts (fun w h => List.mem_cons_of_mem _ (uw_V w h)) hown hK hP 2 rfl rfl 3 (by decide) (hG (.fieldLink R_O 49 "ValueSieve$Value" "high" "J") gw30) (fun _ h9 => h9) rfl d_O_shift_65 ?_
      refine lv_l2i (v := z3.2.2.2.1.toInt32) hx hb d_O_shift_68 rfl ?_
      refine lv_goto (tgt := 74) hx hb d_O_shift_69 (by decide) ?_
      refine K74 s57_0 z3.2.2.2.1.toInt32 (hj.trans (by unfold f_O_shift_57; first | with_reducible exact if_neg e1_72 | exact if_neg e1_72)) H locs ?_ ?_ hS ls (lv_sub hl [0, 2, 3, 4] rfl)
      · with_reducible exact hP
      · with_reducible exact hD
  have K41 : ∀ (s41_0 : Int32) (hj : f_O_shift z0 p1 z2 z3 p4 = f_O_shift_41 z0 p1 z2 z3 p4 s41_0) (H : Heap) (locs : List Loc) (hP : va_P (dC, dI) classes [(h0, .inr (0, [.long (z0.1), .long (z0.2.1), .long (z0.2.2.1), .long (z0.2.2.2.1), .long (z0.2.2.2.2.1), .long (z0.2.2.2.2.2.1), .int (bI z0.2.2.2.2.2.2)])), (h2, .inr (0, [.long (z2.1), .long (z2.2.1), .long (z2.2.2.1), .long (z2.2.2.2.1), .long (z2.2.2.2.2.1), .long (z2.2.2.2.2.2.1), .int (bI z2.2.2.2.2.2.2)])), (h3, .inr (0, [.long (z3.1), .long (z3.2.1), .long (z3.2.2.1), .long (z3.2.2.2.1), .long (z3.2.2.2.2.1), .long (z3.2.2.2.2.2.1), .int (bI z3.2.2.2.2.2.2)]))] H) (hD : va_D A [(h0, .inr (0, [.long (z0.1), .long (z0.2.1), .long (z0.2.2.1), .long (z0.2.2.2.1), .long (z0.2.2.2.2.1), .long (z0.2.2.2.2.2.1), .int (bI z0.2.2.2.2.2.2)])), (h2, .inr (0, [.long (z2.1), .long (z2.2.1), .long (z2.2.2.1), .long (z2.2.2.2.1), .long (z2.2.2.2.2.1), .long (z2.2.2.2.2.2.1), .int (bI z2.2.2.2.2.2.2)])), (h3, .inr (0, [.long (z3.1), .long (z3.2.1), .long (z3.2.2.1), .long (z3.2.2.2.1), .long (z3.2.2.2.2.1), .long (z3.2.2.2.2.2.1), .int (bI z3.2.2.2.2.2.2)]))]) (hS : va_S A s.heap H locs) (ls : Array Slot) (hl : lv_has ls 8 [(0, .ref h0), (1, .int (p1)), (2, .ref h2), (3, .ref h3), (4, .int (p4))]), W p l e (headSpec w_O_shift ({ frames := 3, cells := 0, slots := 0, locals := 62 } : Room)).room s m ([.ref h0, .int (p1), .ref h2, .ref h3, .int (p4)] : List Value).toArray below meth c H locs 0 0 (MQ below (va_Qv (fun _ : Unit => True) (mB (dC, dI) A [(h0, vE (f_O_shift z0 p1 z2 z3 p4)), (h2, vE z2), (h3, vE z3)]) A) ([.ref h0, .int (p1), .ref h2, .ref h3, .int (p4)] : List Value).toArray s 0 0 A) (F0 m 41 ls [.int (s41_0)]) := by
    intro s41_0 hj H locs hP hD hS ls hl
    refine lv_istore (lv' := [(5, .int (s41_0)), (0, .ref h0), (1, .int (p1)), (2, .ref h2), (3, .ref h3), (4, .int (p4))]) hx hb d_O_shift_41 hl (by decide) rfl (fun ls hl => ?_)
    refine lv_iload hx hb d_O_shift_43 (lv_at hl 0 rfl) ?_
    refine lv_if_eq (tgt := 56) hx hb d_O_shift_45 (by decide) (fun e1_56 => ?_) (fun e1_56 => ?_)
    · refine lv_iconst (v := 0) hx hb d_O_shift_56 (by decide) ?_
      refine K57 s41_0 0 (hj.trans (by unfold f_O_shift_41; first | with_reducible exact if_pos e1_56 | exact if_pos e1_56)) H locs ?_ ?_ hS ls (lv_sub hl [0, 1, 2, 3, 4, 5] rfl)
      · with_reducible exact hP
      · with_reducible exact hD
    · refine lv_aload_n hx hb d_O_shift_48 rfl (lv_at hl 4 rfl) ?_
      refine va_get (D := (dC, dI)) (ci := 0) (v := .long (z3.2.2.1)) (C := R_V) (T := F_V) (N := 7) hx hb hts (fun w h => List.mem_cons_of_mem _ (uw_V w h)) hown hK hP 2 rfl rfl 2 (by decide) (hG (.fieldLink R_O 55 "ValueSieve$Value" "low" "J") gw26) (fun _ h9 => h9) rfl d_O_shift_49 ?_
      refine lv_l2i (v := z3.2.2.1.toInt32) hx hb d_O_shift_52 rfl ?_
      refine lv_goto (tgt := 57) hx hb d_O_shift_53 (by decide) ?_
      refine K57 s41_0 z3.2.2.1.toInt32 (hj.trans (by unfold f_O_shift_41; first | with_reducible exact if_neg e1_56 | exact if_neg e1_56)) H locs ?_ ?_ hS ls (lv_sub hl [0, 1, 2, 3, 4, 5] rfl)
      · with_reducible exact hP
      · with_reducible exact hD
  have K19g : ∀ (g19 : VV) (hj : f_O_shift z0 p1 z2 z3 p4 = f_O_shift_19g z0 p1 z2 z3 p4 g19) (H : Heap) (locs : List Loc) (hP : va_P (dC, dI) classes [(h0, .inr (0, [.long (g19.1), .long (g19.2.1), .long (g19.2.2.1), .long (g19.2.2.2.1), .long (g19.2.2.2.2.1), .long (g19.2.2.2.2.2.1), .int (bI g19.2.2.2.2.2.2)])), (h2, .inr (0, [.long (z2.1), .long (z2.2.1), .long (z2.2.2.1), .long (z2.2.2.2.1), .long (z2.2.2.2.2.1), .long (z2.2.2.2.2.2.1), .int (bI z2.2.2.2.2.2.2)])), (h3, .inr (0, [.long (z3.1), .long (z3.2.1), .long (z3.2.2.1), .long (z3.2.2.2.1), .long (z3.2.2.2.2.1), .long (z3.2.2.2.2.2.1), .int (bI z3.2.2.2.2.2.2)]))] H) (hD : va_D A [(h0, .inr (0, [.long (g19.1), .long (g19.2.1), .long (g19.2.2.1), .long (g19.2.2.2.1), .long (g19.2.2.2.2.1), .long (g19.2.2.2.2.2.1), .int (bI g19.2.2.2.2.2.2)])), (h2, .inr (0, [.long (z2.1), .long (z2.2.1), .long (z2.2.2.1), .long (z2.2.2.2.1), .long (z2.2.2.2.2.1), .long (z2.2.2.2.2.2.1), .int (bI z2.2.2.2.2.2.2)])), (h3, .inr (0, [.long (z3.1), .long (z3.2.1), .long (z3.2.2.1), .long (z3.2.2.2.1), .long (z3.2.2.2.2.1), .long (z3.2.2.2.2.2.1), .int (bI z3.2.2.2.2.2.2)]))]) (hS : va_S A s.heap H locs) (ls : Array Slot) (hl : lv_has ls 8 []), W p l e (headSpec w_O_shift ({ frames := 3, cells := 0, slots := 0, locals := 62 } : Room)).room s m ([.ref h0, .int (p1), .ref h2, .ref h3, .int (p4)] : List Value).toArray below meth c H locs 0 0 (MQ below (va_Qv (fun _ : Unit => True) (mB (dC, dI) A [(h0, vE (f_O_shift z0 p1 z2 z3 p4)), (h2, vE z2), (h3, vE z3)]) A) ([.ref h0, .int (p1), .ref h2, .ref h3, .int (p4)] : List Value).toArray s 0 0 A) (F0 m 22 ls []) := by
    intro g19 hj H locs hP hD hS ls hl
    have fe : f_O_shift z0 p1 z2 z3 p4 = g19 := hj.trans rfl
    exact W.vret hx hb hr (fun t ht hW => ⟨⟨(), rfl, trivial, by rw [ht, fe]; (try simp only [vE_mk]); exact hP, by rw [fe]; (try simp only [vE_mk]); exact hD⟩, hS.F ht⟩) hS.2.2 d_O_shift_22
  refine lv_aload_n hx hb d_O_shift_0 rfl (lv_at hl 3 rfl) ?_
  refine rc_i (W.runV (As := []) (rest := []) ⟨hx, hb, hml, hown, hts⟩ (c_V_isSingle l dC dI h3 z3) (cwV 0 hts (gV gw251 gw252 gw253 gw1 gw254) rfl rfl rfl (by decide +kernel) ⟨(Nat.le_of_ble_eq_true rfl), (Nat.le_of_ble_eq_true rfl)⟩) ⟨blr, va_recv hK hP (ci := 0) (q0 := 2) rfl rfl, fun U hU hW => ⟨rfl, by rw [hU]; exact hP.sub [2] rfl, va_K.moved hW.alike hK⟩⟩ rfl rfl hl.1 rfl (lv_room (Nat.le_of_ble_eq_true rfl)) d_O_shift_1 ⟨Nat.zero_le _, Nat.zero_le _⟩) ?_
  refine lv_if_eq (tgt := 23) hx hb d_O_shift_4 (by decide) (fun e1_23 => ?_) (fun e1_23 => ?_)
  · refine lv_iload hx hb d_O_shift_23 (lv_at hl 4 rfl) ?_
    refine lv_i2l (v := p4.toInt64) hx hb d_O_shift_25 rfl ?_
    refine lv_aload_n hx hb d_O_shift_26 rfl (lv_at hl 3 rfl) ?_
    refine va_get (D := (dC, dI)) (ci := 0) (v := .long (z3.2.2.2.1)) (C := R_V) (T := F_V) (N := 7) hx hb hts (fun w h => List.mem_cons_of_mem _ (uw_V w h)) hown hK hP 2 rfl rfl 3 (by decide) (hG (.fieldLink R_O 49 "ValueSieve$Value" "high" "J") gw30) (fun _ h9 => h9) rfl d_O_shift_27 ?_
    refine rc_i (W.runS (As := [.long (p4.toInt64), .long (z3.2.2.2.1)]) (rest := []) ⟨hx, hb, hml, hown, hts⟩ (c_N_below l p4.toInt64 z3.2.2.2.1) (va_cwS 2 hts (gS gw192 gw105 gw2 gw106) rfl rfl rfl (by decide +kernel) ⟨(Nat.le_of_ble_eq_true rfl), (Nat.le_of_ble_eq_true rfl)⟩) ⟨bl0, fun U hU hW => ⟨rfl, trivial⟩⟩ rfl rfl hl.1 rfl (lv_room (Nat.le_of_ble_eq_true rfl)) d_O_shift_30 ⟨Nat.zero_le _, Nat.zero_le _⟩) ?_
    refine lv_if_ne (tgt := 40) hx hb d_O_shift_33 (by decide) (fun e2_40 => ?_) (fun e2_40 => ?_)
    · refine lv_iconst (v := 0) hx hb d_O_shift_40 (by decide) ?_
      refine K41 0 (by unfold f_O_shift; first | with_reducible exact (if_pos e1_23).trans (if_neg e2_40) | exact (if_pos e1_23).trans (if_neg e2_40)) s.heap [] ?_ ?_ hS ls (lv_sub hl [0, 1, 2, 3, 4] rfl)
      · with_reducible exact hP
      · with_reducible exact hD
    · refine lv_iconst (v := 1) hx hb d_O_shift_36 (by decide) ?_
      refine lv_goto (tgt := 41) hx hb d_O_shift_37 (by decide) ?_
      refine K41 1 (by unfold f_O_shift; first | with_reducible exact (if_pos e1_23).trans (if_pos e2_40) | exact (if_pos e1_23).trans (if_pos e2_40)) s.heap [] ?_ ?_ hS ls (lv_sub hl [0, 1, 2, 3, 4] rfl)
      · with_reducible exact hP
      · with_reducible exact hD
  · refine lv_aload_n hx hb d_O_shift_7 rfl (lv_at hl 0 rfl) ?_
    refine lv_iload_n hx hb d_O_shift_8 rfl (lv_at hl 1 rfl) ?_
    refine lv_aload_n hx hb d_O_shift_9 rfl (lv_at hl 2 rfl) ?_
    refine lv_aload_n hx hb d_O_shift_10 rfl (lv_at hl 3 rfl) ?_
    refine va_get (D := (dC, dI)) (ci := 0) (v := .long (z3.1)) (C := R_V) (T := F_V) (N := 7) hx hb hts (fun w h => List.mem_cons_of_mem _ (uw_V w h)) hown hK hP 2 rfl rfl 0 (by decide) (hG (.fieldLink R_O 36 "ValueSieve$Value" "bits" "J") gw19) (fun _ h9 => h9) rfl d_O_shift_11 ?_
    refine lv_iload hx hb d_O_shift_14 (lv_at hl 4 rfl) ?_
    refine lv_i2l (v := p4.toInt64) hx hb d_O_shift_16 rfl ?_
    refine lv_land hx hb d_O_shift_17 ?_
    refine lv_l2i (v := (z3.1 &&& p4.toInt64).toInt32) hx hb d_O_shift_18 rfl ?_
    refine mg_v (F := f_O_shiftBy z0 p1 z2 ((z3.1 &&& p4.toInt64).toInt32)) (wc := [(h0, vE z0), (h2, vE z2)]) (w1 := fun g19 => [(h0, vE g19), (h2, vE z2)]) (wr := [(h3, .inr (0, [.long (z3.1), .long (z3.2.1), .long (z3.2.2.1), .long (z3.2.2.2.1), .long (z3.2.2.2.2.1), .long (z3.2.2.2.2.2.1), .int (bI z3.2.2.2.2.2.2)]))]) (ws' := fun g19 => [(h0, .inr (0, [.long (g19.1), .long (g19.2.1), .long (g19.2.2.1), .long (g19.2.2.2.1), .long (g19.2.2.2.2.1), .long (g19.2.2.2.2.2.1), .int (bI g19.2.2.2.2.2.2)])), (h2, .inr (0, [.long (z2.1), .long (z2.2.1), .long (z2.2.2.1), .long (z2.2.2.2.1), .long (z2.2.2.2.2.1), .long (z2.2.2.2.2.2.1), .int (bI z2.2.2.2.2.2.2)])), (h3, .inr (0, [.long (z3.1), .long (z3.2.1), .long (z3.2.2.1), .long (z3.2.2.2.1), .long (z3.2.2.2.2.1), .long (z3.2.2.2.2.2.1), .int (bI z3.2.2.2.2.2.2)]))]) (va_runS (As := [.ref h0, .int (p1), .ref h2, .int ((z3.1 &&& p4.toInt64).toInt32)]) (rest := []) ⟨hx, hb, hml, hown, hts⟩ (c_O_shiftBy l dC dI h0 h2 s.heap.size z0 p1 z2 ((z3.1 &&& p4.toInt64).toInt32)) (va_cwS 4 hts (gS gw255 gw256 gw4 gw257) rfl rfl rfl (by decide +kernel) ⟨(Nat.le_of_ble_eq_true rfl), (Nat.le_of_ble_eq_true rfl)⟩) ⟨blm, fun U hU hW => ⟨rfl, by rw [hU], by rw [hU]; exact hP.sub [0, 1] rfl, va_K.moved hW.alike hK, (hD.sub [0, 1] (by decide) rfl).weaken (fun _ _ _ _ => trivial)⟩⟩ rfl rfl hl.1 rfl (lv_room (Nat.le_of_ble_eq_true rfl)) d_O_shift_19 ⟨Nat.zero_le _, Nat.zero_le _⟩) hP hD hS hA [0, 1] [2] [1, 2, 0] rfl rfl (by decide) (by decide) (fun _ => rfl) (by decide) (fun g19 eg19 H locs hP hD hS => ?_)
    refine K19g g19 (Eq.trans (by unfold f_O_shift; first | with_reducible exact if_neg e1_23 | exact if_neg e1_23) (congrArg (fun g19 => f_O_shift_19g z0 p1 z2 z3 p4 g19) eg19)) H locs ?_ ?_ hS ls (lv_sub hl [] rfl)
    · with_reducible exact hP
    · with_reducible exact hD
-- ValueSieve$Operations.make
theorem d_O_make_0 : decode b_O_make 0 = .ok (.aload_n 0, 1) := by decide +kernel
theorem d_O_make_1 : decode b_O_make 1 = .ok (.invokevirtual 13, 3) := by decide +kernel
theorem d_O_make_4 : decode b_O_make 4 = .ok (.iload_n 1, 1) := by decide +kernel
theorem d_O_make_5 : decode b_O_make 5 = .ok (.tableswitch 259 0 10 #[59, 68, 77, 86, 95, 104, 168, 222, 247, 247, 247], 59) := by decide +kernel
theorem d_O_make_64 : decode b_O_make 64 = .ok (.aload_n 0, 1) := by decide +kernel
theorem d_O_make_65 : decode b_O_make 65 = .ok (.aload_n 2, 1) := by decide +kernel
theorem d_O_make_66 : decode b_O_make 66 = .ok (.aload_n 3, 1) := by decide +kernel
theorem d_O_make_67 : decode b_O_make 67 = .ok (.invokestatic 18, 3) := by decide +kernel
theorem d_O_make_70 : decode b_O_make 70 = .ok (.goto 199, 3) := by decide +kernel
theorem d_O_make_73 : decode b_O_make 73 = .ok (.aload_n 0, 1) := by decide +kernel
theorem d_O_make_74 : decode b_O_make 74 = .ok (.aload_n 2, 1) := by decide +kernel
theorem d_O_make_75 : decode b_O_make 75 = .ok (.aload_n 3, 1) := by decide +kernel
theorem d_O_make_76 : decode b_O_make 76 = .ok (.invokestatic 24, 3) := by decide +kernel
theorem d_O_make_79 : decode b_O_make 79 = .ok (.goto 190, 3) := by decide +kernel
theorem d_O_make_82 : decode b_O_make 82 = .ok (.aload_n 0, 1) := by decide +kernel
theorem d_O_make_83 : decode b_O_make 83 = .ok (.aload_n 2, 1) := by decide +kernel
theorem d_O_make_84 : decode b_O_make 84 = .ok (.aload_n 3, 1) := by decide +kernel
theorem d_O_make_85 : decode b_O_make 85 = .ok (.invokestatic 27, 3) := by decide +kernel
theorem d_O_make_88 : decode b_O_make 88 = .ok (.goto 181, 3) := by decide +kernel
theorem d_O_make_91 : decode b_O_make 91 = .ok (.aload_n 0, 1) := by decide +kernel
theorem d_O_make_92 : decode b_O_make 92 = .ok (.aload_n 2, 1) := by decide +kernel
theorem d_O_make_93 : decode b_O_make 93 = .ok (.aload_n 3, 1) := by decide +kernel
theorem d_O_make_94 : decode b_O_make 94 = .ok (.invokestatic 30, 3) := by decide +kernel
theorem d_O_make_97 : decode b_O_make 97 = .ok (.goto 172, 3) := by decide +kernel
theorem d_O_make_100 : decode b_O_make 100 = .ok (.aload_n 0, 1) := by decide +kernel
theorem d_O_make_101 : decode b_O_make 101 = .ok (.aload_n 2, 1) := by decide +kernel
theorem d_O_make_102 : decode b_O_make 102 = .ok (.aload_n 3, 1) := by decide +kernel
theorem d_O_make_103 : decode b_O_make 103 = .ok (.invokestatic 33, 3) := by decide +kernel
theorem d_O_make_106 : decode b_O_make 106 = .ok (.goto 163, 3) := by decide +kernel
theorem d_O_make_109 : decode b_O_make 109 = .ok (.aload_n 0, 1) := by decide +kernel
theorem d_O_make_110 : decode b_O_make 110 = .ok (.aload_n 2, 1) := by decide +kernel
theorem d_O_make_111 : decode b_O_make 111 = .ok (.getfield 36, 3) := by decide +kernel
theorem d_O_make_114 : decode b_O_make 114 = .ok (.aload_n 3, 1) := by decide +kernel
theorem d_O_make_115 : decode b_O_make 115 = .ok (.getfield 36, 3) := by decide +kernel
theorem d_O_make_118 : decode b_O_make 118 = .ok (.land, 1) := by decide +kernel
theorem d_O_make_119 : decode b_O_make 119 = .ok (.aload_n 2, 1) := by decide +kernel
theorem d_O_make_120 : decode b_O_make 120 = .ok (.getfield 36, 3) := by decide +kernel
theorem d_O_make_123 : decode b_O_make 123 = .ok (.aload_n 2, 1) := by decide +kernel
theorem d_O_make_124 : decode b_O_make 124 = .ok (.getfield 40, 3) := by decide +kernel
theorem d_O_make_127 : decode b_O_make 127 = .ok (.lor, 1) := by decide +kernel
theorem d_O_make_128 : decode b_O_make 128 = .ok (.aload_n 3, 1) := by decide +kernel
theorem d_O_make_129 : decode b_O_make 129 = .ok (.getfield 36, 3) := by decide +kernel
theorem d_O_make_132 : decode b_O_make 132 = .ok (.aload_n 3, 1) := by decide +kernel
theorem d_O_make_133 : decode b_O_make 133 = .ok (.getfield 40, 3) := by decide +kernel
theorem d_O_make_136 : decode b_O_make 136 = .ok (.lor, 1) := by decide +kernel
theorem d_O_make_137 : decode b_O_make 137 = .ok (.land, 1) := by decide +kernel
theorem d_O_make_138 : decode b_O_make 138 = .ok (.aload_n 2, 1) := by decide +kernel
theorem d_O_make_139 : decode b_O_make 139 = .ok (.getfield 36, 3) := by decide +kernel
theorem d_O_make_142 : decode b_O_make 142 = .ok (.aload_n 3, 1) := by decide +kernel
theorem d_O_make_143 : decode b_O_make 143 = .ok (.getfield 36, 3) := by decide +kernel
theorem d_O_make_146 : decode b_O_make 146 = .ok (.land, 1) := by decide +kernel
theorem d_O_make_147 : decode b_O_make 147 = .ok (.ldc2_w 43, 3) := by decide +kernel
theorem d_O_make_150 : decode b_O_make 150 = .ok (.lxor, 1) := by decide +kernel
theorem d_O_make_151 : decode b_O_make 151 = .ok (.land, 1) := by decide +kernel
theorem d_O_make_152 : decode b_O_make 152 = .ok (.invokevirtual 45, 3) := by decide +kernel
theorem d_O_make_155 : decode b_O_make 155 = .ok (.aload_n 0, 1) := by decide +kernel
theorem d_O_make_156 : decode b_O_make 156 = .ok (.aload_n 2, 1) := by decide +kernel
theorem d_O_make_157 : decode b_O_make 157 = .ok (.getfield 49, 3) := by decide +kernel
theorem d_O_make_160 : decode b_O_make 160 = .ok (.aload_n 3, 1) := by decide +kernel
theorem d_O_make_161 : decode b_O_make 161 = .ok (.getfield 49, 3) := by decide +kernel
theorem d_O_make_164 : decode b_O_make 164 = .ok (.invokestatic 52, 3) := by decide +kernel
theorem d_O_make_167 : decode b_O_make 167 = .ok (.putfield 49, 3) := by decide +kernel
theorem d_O_make_170 : decode b_O_make 170 = .ok (.goto 99, 3) := by decide +kernel
theorem d_O_make_173 : decode b_O_make 173 = .ok (.aload_n 0, 1) := by decide +kernel
theorem d_O_make_174 : decode b_O_make 174 = .ok (.aload_n 2, 1) := by decide +kernel
theorem d_O_make_175 : decode b_O_make 175 = .ok (.getfield 36, 3) := by decide +kernel
theorem d_O_make_178 : decode b_O_make 178 = .ok (.aload_n 3, 1) := by decide +kernel
theorem d_O_make_179 : decode b_O_make 179 = .ok (.getfield 36, 3) := by decide +kernel
theorem d_O_make_182 : decode b_O_make 182 = .ok (.lor, 1) := by decide +kernel
theorem d_O_make_183 : decode b_O_make 183 = .ok (.aload_n 2, 1) := by decide +kernel
theorem d_O_make_184 : decode b_O_make 184 = .ok (.getfield 40, 3) := by decide +kernel
theorem d_O_make_187 : decode b_O_make 187 = .ok (.aload_n 3, 1) := by decide +kernel
theorem d_O_make_188 : decode b_O_make 188 = .ok (.getfield 40, 3) := by decide +kernel
theorem d_O_make_191 : decode b_O_make 191 = .ok (.lor, 1) := by decide +kernel
theorem d_O_make_192 : decode b_O_make 192 = .ok (.aload_n 2, 1) := by decide +kernel
theorem d_O_make_193 : decode b_O_make 193 = .ok (.getfield 36, 3) := by decide +kernel
theorem d_O_make_196 : decode b_O_make 196 = .ok (.aload_n 3, 1) := by decide +kernel
theorem d_O_make_197 : decode b_O_make 197 = .ok (.getfield 36, 3) := by decide +kernel
theorem d_O_make_200 : decode b_O_make 200 = .ok (.lor, 1) := by decide +kernel
theorem d_O_make_201 : decode b_O_make 201 = .ok (.ldc2_w 43, 3) := by decide +kernel
theorem d_O_make_204 : decode b_O_make 204 = .ok (.lxor, 1) := by decide +kernel
theorem d_O_make_205 : decode b_O_make 205 = .ok (.land, 1) := by decide +kernel
theorem d_O_make_206 : decode b_O_make 206 = .ok (.invokevirtual 45, 3) := by decide +kernel
theorem d_O_make_209 : decode b_O_make 209 = .ok (.aload_n 0, 1) := by decide +kernel
theorem d_O_make_210 : decode b_O_make 210 = .ok (.aload_n 2, 1) := by decide +kernel
theorem d_O_make_211 : decode b_O_make 211 = .ok (.getfield 55, 3) := by decide +kernel
theorem d_O_make_214 : decode b_O_make 214 = .ok (.aload_n 3, 1) := by decide +kernel
theorem d_O_make_215 : decode b_O_make 215 = .ok (.getfield 55, 3) := by decide +kernel
theorem d_O_make_218 : decode b_O_make 218 = .ok (.invokestatic 58, 3) := by decide +kernel
theorem d_O_make_221 : decode b_O_make 221 = .ok (.putfield 55, 3) := by decide +kernel
theorem d_O_make_224 : decode b_O_make 224 = .ok (.goto 45, 3) := by decide +kernel
theorem d_O_make_227 : decode b_O_make 227 = .ok (.aload_n 0, 1) := by decide +kernel
theorem d_O_make_228 : decode b_O_make 228 = .ok (.aload_n 2, 1) := by decide +kernel
theorem d_O_make_229 : decode b_O_make 229 = .ok (.getfield 36, 3) := by decide +kernel
theorem d_O_make_232 : decode b_O_make 232 = .ok (.aload_n 3, 1) := by decide +kernel
theorem d_O_make_233 : decode b_O_make 233 = .ok (.getfield 36, 3) := by decide +kernel
theorem d_O_make_236 : decode b_O_make 236 = .ok (.lxor, 1) := by decide +kernel
theorem d_O_make_237 : decode b_O_make 237 = .ok (.aload_n 2, 1) := by decide +kernel
theorem d_O_make_238 : decode b_O_make 238 = .ok (.getfield 40, 3) := by decide +kernel
theorem d_O_make_241 : decode b_O_make 241 = .ok (.aload_n 3, 1) := by decide +kernel
theorem d_O_make_242 : decode b_O_make 242 = .ok (.getfield 40, 3) := by decide +kernel
theorem d_O_make_245 : decode b_O_make 245 = .ok (.lor, 1) := by decide +kernel
theorem d_O_make_246 : decode b_O_make 246 = .ok (.invokevirtual 45, 3) := by decide +kernel
theorem d_O_make_249 : decode b_O_make 249 = .ok (.goto 20, 3) := by decide +kernel
theorem d_O_make_252 : decode b_O_make 252 = .ok (.aload_n 0, 1) := by decide +kernel
theorem d_O_make_253 : decode b_O_make 253 = .ok (.iload_n 1, 1) := by decide +kernel
theorem d_O_make_254 : decode b_O_make 254 = .ok (.aload_n 2, 1) := by decide +kernel
theorem d_O_make_255 : decode b_O_make 255 = .ok (.aload_n 3, 1) := by decide +kernel
theorem d_O_make_256 : decode b_O_make 256 = .ok (.iload 4, 2) := by decide +kernel
theorem d_O_make_258 : decode b_O_make 258 = .ok (.invokestatic 61, 3) := by decide +kernel
theorem d_O_make_261 : decode b_O_make 261 = .ok (.goto 8, 3) := by decide +kernel
theorem d_O_make_264 : decode b_O_make 264 = .ok (.aload_n 0, 1) := by decide +kernel
theorem d_O_make_265 : decode b_O_make 265 = .ok (.aload_n 3, 1) := by decide +kernel
theorem d_O_make_266 : decode b_O_make 266 = .ok (.invokevirtual 65, 3) := by decide +kernel
theorem d_O_make_269 : decode b_O_make 269 = .ok (.aload_n 0, 1) := by decide +kernel
theorem d_O_make_270 : decode b_O_make 270 = .ok (.invokevirtual 69, 3) := by decide +kernel
theorem d_O_make_273 : decode b_O_make 273 = .ok (.return_, 1) := by decide +kernel
def f_O_make_270g (z0 : VV) (p1 : Int32) (z2 : VV) (z3 : VV) (p4 : Int32) (g270 : VV) : VV := g270
def f_O_make_269 (z0 : VV) (p1 : Int32) (z2 : VV) (z3 : VV) (p4 : Int32) (w269_0_0 : Int64) (w269_0_1 : Int64) (w269_0_2 : Int64) (w269_0_3 : Int64) (w269_0_4 : Int64) (w269_0_5 : Int64) (w269_0_6 : Bool) : VV := f_O_make_270g z0 p1 z2 z3 p4 (f_V_tighten ((w269_0_0, w269_0_1, w269_0_2, w269_0_3, w269_0_4, w269_0_5, w269_0_6)))
def f_O_make_266g (z0 : VV) (p1 : Int32) (z2 : VV) (z3 : VV) (p4 : Int32) (g266 : VV) : VV := f_O_make_269 z0 p1 z2 z3 p4 g266.1 g266.2.1 g266.2.2.1 g266.2.2.2.1 g266.2.2.2.2.1 g266.2.2.2.2.2.1 g266.2.2.2.2.2.2
def f_O_make_258g (z0 : VV) (p1 : Int32) (z2 : VV) (z3 : VV) (p4 : Int32) (g258 : VV) : VV := f_O_make_269 z0 p1 z2 z3 p4 g258.1 g258.2.1 g258.2.2.1 g258.2.2.2.1 g258.2.2.2.2.1 g258.2.2.2.2.2.1 g258.2.2.2.2.2.2
def f_O_make_246g (z0 : VV) (p1 : Int32) (z2 : VV) (z3 : VV) (p4 : Int32) (g246 : VV) : VV := f_O_make_269 z0 p1 z2 z3 p4 g246.1 g246.2.1 g246.2.2.1 g246.2.2.2.1 g246.2.2.2.2.1 g246.2.2.2.2.2.1 g246.2.2.2.2.2.2
def f_O_make_206g (z0 : VV) (p1 : Int32) (z2 : VV) (z3 : VV) (p4 : Int32) (g206 : VV) : VV := f_O_make_269 z0 p1 z2 z3 p4 g206.1 g206.2.1 (f_N_more z2.2.2.1 z3.2.2.1) g206.2.2.2.1 g206.2.2.2.2.1 g206.2.2.2.2.2.1 g206.2.2.2.2.2.2
def f_O_make_152g (z0 : VV) (p1 : Int32) (z2 : VV) (z3 : VV) (p4 : Int32) (g152 : VV) : VV := f_O_make_269 z0 p1 z2 z3 p4 g152.1 g152.2.1 g152.2.2.1 (f_N_less z2.2.2.2.1 z3.2.2.2.1) g152.2.2.2.2.1 g152.2.2.2.2.2.1 g152.2.2.2.2.2.2
def f_O_make_103g (z0 : VV) (p1 : Int32) (z2 : VV) (z3 : VV) (p4 : Int32) (g103 : VV) : VV := f_O_make_269 z0 p1 z2 z3 p4 g103.1 g103.2.1 g103.2.2.1 g103.2.2.2.1 g103.2.2.2.2.1 g103.2.2.2.2.2.1 g103.2.2.2.2.2.2
def f_O_make_94g (z0 : VV) (p1 : Int32) (z2 : VV) (z3 : VV) (p4 : Int32) (g94 : VV) : VV := f_O_make_269 z0 p1 z2 z3 p4 g94.1 g94.2.1 g94.2.2.1 g94.2.2.2.1 g94.2.2.2.2.1 g94.2.2.2.2.2.1 g94.2.2.2.2.2.2
def f_O_make_85g (z0 : VV) (p1 : Int32) (z2 : VV) (z3 : VV) (p4 : Int32) (g85 : VV) : VV := f_O_make_269 z0 p1 z2 z3 p4 g85.1 g85.2.1 g85.2.2.1 g85.2.2.2.1 g85.2.2.2.2.1 g85.2.2.2.2.2.1 g85.2.2.2.2.2.2
def f_O_make_76g (z0 : VV) (p1 : Int32) (z2 : VV) (z3 : VV) (p4 : Int32) (g76 : VV) : VV := f_O_make_269 z0 p1 z2 z3 p4 g76.1 g76.2.1 g76.2.2.1 g76.2.2.2.1 g76.2.2.2.2.1 g76.2.2.2.2.2.1 g76.2.2.2.2.2.2
def f_O_make_67g (z0 : VV) (p1 : Int32) (z2 : VV) (z3 : VV) (p4 : Int32) (g67 : VV) : VV := f_O_make_269 z0 p1 z2 z3 p4 g67.1 g67.2.1 g67.2.2.1 g67.2.2.2.1 g67.2.2.2.2.1 g67.2.2.2.2.2.1 g67.2.2.2.2.2.2
def f_O_make_1g (z0 : VV) (p1 : Int32) (z2 : VV) (z3 : VV) (p4 : Int32) (g1 : VV) : VV := (if p1 = 0 then f_O_make_67g z0 p1 z2 z3 p4 (f_O_addition g1 z2 z3) else (if p1 = 1 then f_O_make_76g z0 p1 z2 z3 p4 (f_O_subtraction g1 z2 z3) else (if p1 = 2 then f_O_make_85g z0 p1 z2 z3 p4 (f_O_multiplication g1 z2 z3) else (if p1 = 3 then f_O_make_94g z0 p1 z2 z3 p4 (f_O_division g1 z2 z3) else (if p1 = 4 then f_O_make_103g z0 p1 z2 z3 p4 (f_O_remainder g1 z2 z3) else (if p1 = 5 then f_O_make_152g z0 p1 z2 z3 p4 (f_V_sayBits g1 (z2.1 &&& z3.1) (((z2.1 ||| z2.2.1) &&& (z3.1 ||| z3.2.1)) &&& ((z2.1 &&& z3.1) ^^^ (-1 : Int64)))) else (if p1 = 6 then f_O_make_206g z0 p1 z2 z3 p4 (f_V_sayBits g1 (z2.1 ||| z3.1) ((z2.2.1 ||| z3.2.1) &&& ((z2.1 ||| z3.1) ^^^ (-1 : Int64)))) else (if p1 = 7 then f_O_make_246g z0 p1 z2 z3 p4 (f_V_sayBits g1 (z2.1 ^^^ z3.1) (z2.2.1 ||| z3.2.1)) else (if p1 = 8 then f_O_make_258g z0 p1 z2 z3 p4 (f_O_shift g1 p1 z2 z3 p4) else (if p1 = 9 then f_O_make_258g z0 p1 z2 z3 p4 (f_O_shift g1 p1 z2 z3 p4) else (if p1 = 10 then f_O_make_258g z0 p1 z2 z3 p4 (f_O_shift g1 p1 z2 z3 p4) else f_O_make_266g z0 p1 z2 z3 p4 (f_V_take g1 z3))))))))))))
def f_O_make (z0 : VV) (p1 : Int32) (z2 : VV) (z3 : VV) (p4 : Int32) : VV := f_O_make_1g z0 p1 z2 z3 p4 (f_V_sayAll z0)
set_option maxRecDepth 100000 in
set_option maxHeartbeats 4000000 in
theorem c_O_make (l : Launch) (dC : Nat → ClassId) (dI : Nat → Nat → Nat) (h0 : Nat) (h2 : Nat) (h3 : Nat) (sz : Nat) (z0 : VV) (p1 : Int32) (z2 : VV) (z3 : VV) (p4 : Int32) : Met l y_O_make w_O_make ({ frames := 4, cells := 0, slots := 0, locals := 118 } : Room) (va_Pc [.ref h0, .int (p1), .ref h2, .ref h3, .int (p4)] (mP (dC, dI) [(h0, vE z0), (h2, vE z2), (h3, vE z3)] sz)) (va_Qv (fun _ : Unit => True) (mB (dC, dI) (va_A [(h0, vE z0), (h2, vE z2), (h3, vE z3)] sz) [(h0, vE (f_O_make z0 p1 z2 z3 p4)), (h2, vE z2), (h3, vE z3)]) (va_A [(h0, vE z0), (h2, vE z2), (h3, vE z3)] sz)) 0 0 (va_A [(h0, vE z0), (h2, vE z2), (h3, vE z3)] sz) := by
  refine Met.ofW (cc := b_O_make) (maxL := 5) (ret := none) (by decide) rfl ?_
  intro p e s m args below meth c s₁ B hml hv
  obtain ⟨rfl, hsz, hP, hK, hD0⟩ := hv
  have hx := B.exec
  have hb := B.bytes
  have hr := B.returns
  have hts := atoms_spec (ws := w_O_make) B.pre
  have hG : ∀ w ∈ gG, w.before _ s = true := fun w h => hts w (List.mem_cons_of_mem _ h)
  have hown : s.vm.findClass R_O = some m.cls := findClass_of_methodNamed B.named
  have hlocks := B.notSynchronized
  subst hsz
  have hD := hD0.self (sz := s.heap.size)
  generalize hAe : va_A [(h0, vE z0), (h2, vE z2), (h3, vE z3)] s.heap.size = A at hD ⊢
  have hA : ∀ q : Nat, s.heap.size ≤ q → A q := fun q h => by rw [← hAe]; exact Or.inr h
  have hS : va_S A s.heap s.heap [] := va_S.rf
  have hP : va_P (dC, dI) classes [(h0, .inr (0, [.long (z0.1), .long (z0.2.1), .long (z0.2.2.1), .long (z0.2.2.2.1), .long (z0.2.2.2.2.1), .long (z0.2.2.2.2.2.1), .int (bI z0.2.2.2.2.2.2)])), (h2, .inr (0, [.long (z2.1), .long (z2.2.1), .long (z2.2.2.1), .long (z2.2.2.2.1), .long (z2.2.2.2.2.1), .long (z2.2.2.2.2.2.1), .int (bI z2.2.2.2.2.2.2)])), (h3, .inr (0, [.long (z3.1), .long (z3.2.1), .long (z3.2.2.1), .long (z3.2.2.2.1), .long (z3.2.2.2.2.1), .long (z3.2.2.2.2.2.1), .int (bI z3.2.2.2.2.2.2)]))] s.heap := hP
  have hD : va_D A [(h0, .inr (0, [.long (z0.1), .long (z0.2.1), .long (z0.2.2.1), .long (z0.2.2.2.1), .long (z0.2.2.2.2.1), .long (z0.2.2.2.2.2.1), .int (bI z0.2.2.2.2.2.2)])), (h2, .inr (0, [.long (z2.1), .long (z2.2.1), .long (z2.2.2.1), .long (z2.2.2.2.1), .long (z2.2.2.2.2.1), .long (z2.2.2.2.2.2.1), .int (bI z2.2.2.2.2.2.2)])), (h3, .inr (0, [.long (z3.1), .long (z3.2.1), .long (z3.2.2.1), .long (z3.2.2.2.1), .long (z3.2.2.2.2.1), .long (z3.2.2.2.2.2.1), .int (bI z3.2.2.2.2.2.2)]))] := hD
  have hl := lv_entry ([.ref h0, .int (p1), .ref h2, .ref h3, .int (p4)]) (n := 5) (Nat.le_of_ble_eq_true rfl)
  rw [lg_entry_eq]
  generalize (lg_sl ([.ref h0, .int (p1), .ref h2, .ref h3, .int (p4)]) ++ List.replicate (5 - (lg_sl ([.ref h0, .int (p1), .ref h2, .ref h3, .int (p4)])).length) Slot.unset).toArray = ls at hl ⊢
  have hl : lv_has ls 5 [(0, .ref h0), (1, .int (p1)), (2, .ref h2), (3, .ref h3), (4, .int (p4))] := hl
  have K270g : ∀ (g270 : VV) (hj : f_O_make z0 p1 z2 z3 p4 = f_O_make_270g z0 p1 z2 z3 p4 g270) (H : Heap) (locs : List Loc) (hP : va_P (dC, dI) classes [(h0, .inr (0, [.long (g270.1), .long (g270.2.1), .long (g270.2.2.1), .long (g270.2.2.2.1), .long (g270.2.2.2.2.1), .long (g270.2.2.2.2.2.1), .int (bI g270.2.2.2.2.2.2)])), (h2, .inr (0, [.long (z2.1), .long (z2.2.1), .long (z2.2.2.1), .long (z2.2.2.2.1), .long (z2.2.2.2.2.1), .long (z2.2.2.2.2.2.1), .int (bI z2.2.2.2.2.2.2)])), (h3, .inr (0, [.long (z3.1), .long (z3.2.1), .long (z3.2.2.1), .long (z3.2.2.2.1), .long (z3.2.2.2.2.1), .long (z3.2.2.2.2.2.1), .int (bI z3.2.2.2.2.2.2)]))] H) (hD : va_D A [(h0, .inr (0, [.long (g270.1), .long (g270.2.1), .long (g270.2.2.1), .long (g270.2.2.2.1), .long (g270.2.2.2.2.1), .long (g270.2.2.2.2.2.1), .int (bI g270.2.2.2.2.2.2)])), (h2, .inr (0, [.long (z2.1), .long (z2.2.1), .long (z2.2.2.1), .long (z2.2.2.2.1), .long (z2.2.2.2.2.1), .long (z2.2.2.2.2.2.1), .int (bI z2.2.2.2.2.2.2)])), (h3, .inr (0, [.long (z3.1), .long (z3.2.1), .long (z3.2.2.1), .long (z3.2.2.2.1), .long (z3.2.2.2.2.1), .long (z3.2.2.2.2.2.1), .int (bI z3.2.2.2.2.2.2)]))]) (hS : va_S A s.heap H locs) (ls : Array Slot) (hl : lv_has ls 5 []), W p l e (headSpec w_O_make ({ frames := 4, cells := 0, slots := 0, locals := 118 } : Room)).room s m ([.ref h0, .int (p1), .ref h2, .ref h3, .int (p4)] : List Value).toArray below meth c H locs 0 0 (MQ below (va_Qv (fun _ : Unit => True) (mB (dC, dI) A [(h0, vE (f_O_make z0 p1 z2 z3 p4)), (h2, vE z2), (h3, vE z3)]) A) ([.ref h0, .int (p1), .ref h2, .ref h3, .int (p4)] : List Value).toArray s 0 0 A) (F0 m 273 ls []) := by
    intro g270 hj H locs hP hD hS ls hl
    have fe : f_O_make z0 p1 z2 z3 p4 = g270 := hj.trans rfl
    exact W.vret hx hb hr (fun t ht hW => ⟨⟨(), rfl, trivial, by rw [ht, fe]; (try simp only [vE_mk]); exact hP, by rw [fe]; (try simp only [vE_mk]); exact hD⟩, hS.F ht⟩) hS.2.2 d_O_make_273
  have K269 : ∀ (w269_0_0 : Int64) (w269_0_1 : Int64) (w269_0_2 : Int64) (w269_0_3 : Int64) (w269_0_4 : Int64) (w269_0_5 : Int64) (w269_0_6 : Bool) (hj : f_O_make z0 p1 z2 z3 p4 = f_O_make_269 z0 p1 z2 z3 p4 w269_0_0 w269_0_1 w269_0_2 w269_0_3 w269_0_4 w269_0_5 w269_0_6) (H : Heap) (locs : List Loc) (hP : va_P (dC, dI) classes [(h0, .inr (0, [.long (w269_0_0), .long (w269_0_1), .long (w269_0_2), .long (w269_0_3), .long (w269_0_4), .long (w269_0_5), .int (bI w269_0_6)])), (h2, .inr (0, [.long (z2.1), .long (z2.2.1), .long (z2.2.2.1), .long (z2.2.2.2.1), .long (z2.2.2.2.2.1), .long (z2.2.2.2.2.2.1), .int (bI z2.2.2.2.2.2.2)])), (h3, .inr (0, [.long (z3.1), .long (z3.2.1), .long (z3.2.2.1), .long (z3.2.2.2.1), .long (z3.2.2.2.2.1), .long (z3.2.2.2.2.2.1), .int (bI z3.2.2.2.2.2.2)]))] H) (hD : va_D A [(h0, .inr (0, [.long (w269_0_0), .long (w269_0_1), .long (w269_0_2), .long (w269_0_3), .long (w269_0_4), .long (w269_0_5), .int (bI w269_0_6)])), (h2, .inr (0, [.long (z2.1), .long (z2.2.1), .long (z2.2.2.1), .long (z2.2.2.2.1), .long (z2.2.2.2.2.1), .long (z2.2.2.2.2.2.1), .int (bI z2.2.2.2.2.2.2)])), (h3, .inr (0, [.long (z3.1), .long (z3.2.1), .long (z3.2.2.1), .long (z3.2.2.2.1), .long (z3.2.2.2.2.1), .long (z3.2.2.2.2.2.1), .int (bI z3.2.2.2.2.2.2)]))]) (hS : va_S A s.heap H locs) (ls : Array Slot) (hl : lv_has ls 5 [(0, .ref h0)]), W p l e (headSpec w_O_make ({ frames := 4, cells := 0, slots := 0, locals := 118 } : Room)).room s m ([.ref h0, .int (p1), .ref h2, .ref h3, .int (p4)] : List Value).toArray below meth c H locs 0 0 (MQ below (va_Qv (fun _ : Unit => True) (mB (dC, dI) A [(h0, vE (f_O_make z0 p1 z2 z3 p4)), (h2, vE z2), (h3, vE z3)]) A) ([.ref h0, .int (p1), .ref h2, .ref h3, .int (p4)] : List Value).toArray s 0 0 A) (F0 m 269 ls []) := by
    intro w269_0_0 w269_0_1 w269_0_2 w269_0_3 w269_0_4 w269_0_5 w269_0_6 hj H locs hP hD hS ls hl
    refine lv_aload_n hx hb d_O_make_269 rfl (lv_at hl 0 rfl) ?_
    refine mg_v (F := f_V_tighten ((w269_0_0, w269_0_1, w269_0_2, w269_0_3, w269_0_4, w269_0_5, w269_0_6))) (wc := [(h0, vE ((w269_0_0, w269_0_1, w269_0_2, w269_0_3, w269_0_4, w269_0_5, w269_0_6)))]) (w1 := fun g270 => [(h0, vE g270)]) (wr := [(h2, .inr (0, [.long (z2.1), .long (z2.2.1), .long (z2.2.2.1), .long (z2.2.2.2.1), .long (z2.2.2.2.2.1), .long (z2.2.2.2.2.2.1), .int (bI z2.2.2.2.2.2.2)])), (h3, .inr (0, [.long (z3.1), .long (z3.2.1), .long (z3.2.2.1), .long (z3.2.2.2.1), .long (z3.2.2.2.2.1), .long (z3.2.2.2.2.2.1), .int (bI z3.2.2.2.2.2.2)]))]) (ws' := fun g270 => [(h0, .inr (0, [.long (g270.1), .long (g270.2.1), .long (g270.2.2.1), .long (g270.2.2.2.1), .long (g270.2.2.2.2.1), .long (g270.2.2.2.2.2.1), .int (bI g270.2.2.2.2.2.2)])), (h2, .inr (0, [.long (z2.1), .long (z2.2.1), .long (z2.2.2.1), .long (z2.2.2.2.1), .long (z2.2.2.2.2.1), .long (z2.2.2.2.2.2.1), .int (bI z2.2.2.2.2.2.2)])), (h3, .inr (0, [.long (z3.1), .long (z3.2.1), .long (z3.2.2.1), .long (z3.2.2.2.1), .long (z3.2.2.2.2.1), .long (z3.2.2.2.2.2.1), .int (bI z3.2.2.2.2.2.2)]))]) (va_runV (As := []) (rest := []) ⟨hx, hb, hml, hown, hts⟩ (c_V_tighten l dC dI h0 H.size ((w269_0_0, w269_0_1, w269_0_2, w269_0_3, w269_0_4, w269_0_5, w269_0_6))) (cwV 0 hts (gV gw258 gw113 gw114 gw1 gw115) rfl rfl rfl (by decide +kernel) ⟨(Nat.le_of_ble_eq_true rfl), (Nat.le_of_ble_eq_true rfl)⟩) ⟨blm, va_recv hK hP (ci := 0) (q0 := 0) rfl rfl, fun U hU hW => ⟨rfl, by rw [hU], by rw [hU]; exact hP.sub [0] rfl, va_K.moved hW.alike hK, (hD.sub [0] (by decide) rfl).weaken (fun _ _ _ _ => trivial)⟩⟩ rfl rfl hl.1 rfl (lv_room (Nat.le_of_ble_eq_true rfl)) d_O_make_270 ⟨Nat.zero_le _, Nat.zero_le _⟩) hP hD hS hA [0] [1, 2] [2, 0, 1] rfl rfl (by decide) (by decide) (fun _ => rfl) (by decide) (fun g270 eg270 H locs hP hD hS => ?_)
    refine K270g g270 (Eq.trans (hj.trans rfl) (congrArg (fun g270 => f_O_make_270g z0 p1 z2 z3 p4 g270) eg270)) H locs ?_ ?_ hS ls (lv_sub hl [] rfl)
    · with_reducible exact hP
    · with_reducible exact hD
  have K266g : ∀ (g266 : VV) (hj : f_O_make z0 p1 z2 z3 p4 = f_O_make_266g z0 p1 z2 z3 p4 g266) (H : Heap) (locs : List Loc) (hP : va_P (dC, dI) classes [(h0, .inr (0, [.long (g266.1), .long (g266.2.1), .long (g266.2.2.1), .long (g266.2.2.2.1), .long (g266.2.2.2.2.1), .long (g266.2.2.2.2.2.1), .int (bI g266.2.2.2.2.2.2)])), (h2, .inr (0, [.long (z2.1), .long (z2.2.1), .long (z2.2.2.1), .long (z2.2.2.2.1), .long (z2.2.2.2.2.1), .long (z2.2.2.2.2.2.1), .int (bI z2.2.2.2.2.2.2)])), (h3, .inr (0, [.long (z3.1), .long (z3.2.1), .long (z3.2.2.1), .long (z3.2.2.2.1), .long (z3.2.2.2.2.1), .long (z3.2.2.2.2.2.1), .int (bI z3.2.2.2.2.2.2)]))] H) (hD : va_D A [(h0, .inr (0, [.long (g266.1), .long (g266.2.1), .long (g266.2.2.1), .long (g266.2.2.2.1), .long (g266.2.2.2.2.1), .long (g266.2.2.2.2.2.1), .int (bI g266.2.2.2.2.2.2)])), (h2, .inr (0, [.long (z2.1), .long (z2.2.1), .long (z2.2.2.1), .long (z2.2.2.2.1), .long (z2.2.2.2.2.1), .long (z2.2.2.2.2.2.1), .int (bI z2.2.2.2.2.2.2)])), (h3, .inr (0, [.long (z3.1), .long (z3.2.1), .long (z3.2.2.1), .long (z3.2.2.2.1), .long (z3.2.2.2.2.1), .long (z3.2.2.2.2.2.1), .int (bI z3.2.2.2.2.2.2)]))]) (hS : va_S A s.heap H locs) (ls : Array Slot) (hl : lv_has ls 5 [(0, .ref h0)]), W p l e (headSpec w_O_make ({ frames := 4, cells := 0, slots := 0, locals := 118 } : Room)).room s m ([.ref h0, .int (p1), .ref h2, .ref h3, .int (p4)] : List Value).toArray below meth c H locs 0 0 (MQ below (va_Qv (fun _ : Unit => True) (mB (dC, dI) A [(h0, vE (f_O_make z0 p1 z2 z3 p4)), (h2, vE z2), (h3, vE z3)]) A) ([.ref h0, .int (p1), .ref h2, .ref h3, .int (p4)] : List Value).toArray s 0 0 A) (F0 m 269 ls []) := by
    intro g266 hj H locs hP hD hS ls hl
    refine K269 g266.1 g266.2.1 g266.2.2.1 g266.2.2.2.1 g266.2.2.2.2.1 g266.2.2.2.2.2.1 g266.2.2.2.2.2.2 (hj.trans rfl) H locs ?_ ?_ hS ls (lv_sub hl [0] rfl)
    · with_reducible exact hP
    · with_reducible exact hD
  have K258g : ∀ (g258 : VV) (hj : f_O_make z0 p1 z2 z3 p4 = f_O_make_258g z0 p1 z2 z3 p4 g258) (H : Heap) (locs : List Loc) (hP : va_P (dC, dI) classes [(h0, .inr (0, [.long (g258.1), .long (g258.2.1), .long (g258.2.2.1), .long (g258.2.2.2.1), .long (g258.2.2.2.2.1), .long (g258.2.2.2.2.2.1), .int (bI g258.2.2.2.2.2.2)])), (h2, .inr (0, [.long (z2.1), .long (z2.2.1), .long (z2.2.2.1), .long (z2.2.2.2.1), .long (z2.2.2.2.2.1), .long (z2.2.2.2.2.2.1), .int (bI z2.2.2.2.2.2.2)])), (h3, .inr (0, [.long (z3.1), .long (z3.2.1), .long (z3.2.2.1), .long (z3.2.2.2.1), .long (z3.2.2.2.2.1), .long (z3.2.2.2.2.2.1), .int (bI z3.2.2.2.2.2.2)]))] H) (hD : va_D A [(h0, .inr (0, [.long (g258.1), .long (g258.2.1), .long (g258.2.2.1), .long (g258.2.2.2.1), .long (g258.2.2.2.2.1), .long (g258.2.2.2.2.2.1), .int (bI g258.2.2.2.2.2.2)])), (h2, .inr (0, [.long (z2.1), .long (z2.2.1), .long (z2.2.2.1), .long (z2.2.2.2.1), .long (z2.2.2.2.2.1), .long (z2.2.2.2.2.2.1), .int (bI z2.2.2.2.2.2.2)])), (h3, .inr (0, [.long (z3.1), .long (z3.2.1), .long (z3.2.2.1), .long (z3.2.2.2.1), .long (z3.2.2.2.2.1), .long (z3.2.2.2.2.2.1), .int (bI z3.2.2.2.2.2.2)]))]) (hS : va_S A s.heap H locs) (ls : Array Slot) (hl : lv_has ls 5 [(0, .ref h0)]), W p l e (headSpec w_O_make ({ frames := 4, cells := 0, slots := 0, locals := 118 } : Room)).room s m ([.ref h0, .int (p1), .ref h2, .ref h3, .int (p4)] : List Value).toArray below meth c H locs 0 0 (MQ below (va_Qv (fun _ : Unit => True) (mB (dC, dI) A [(h0, vE (f_O_make z0 p1 z2 z3 p4)), (h2, vE z2), (h3, vE z3)]) A) ([.ref h0, .int (p1), .ref h2, .ref h3, .int (p4)] : List Value).toArray s 0 0 A) (F0 m 261 ls []) := by
    intro g258 hj H locs hP hD hS ls hl
    refine lv_goto (tgt := 269) hx hb d_O_make_261 (by decide) ?_
    refine K269 g258.1 g258.2.1 g258.2.2.1 g258.2.2.2.1 g258.2.2.2.2.1 g258.2.2.2.2.2.1 g258.2.2.2.2.2.2 (hj.trans rfl) H locs ?_ ?_ hS ls (lv_sub hl [0] rfl)
    · with_reducible exact hP
    · with_reducible exact hD
  have K246g : ∀ (g246 : VV) (hj : f_O_make z0 p1 z2 z3 p4 = f_O_make_246g z0 p1 z2 z3 p4 g246) (H : Heap) (locs : List Loc) (hP : va_P (dC, dI) classes [(h0, .inr (0, [.long (g246.1), .long (g246.2.1), .long (g246.2.2.1), .long (g246.2.2.2.1), .long (g246.2.2.2.2.1), .long (g246.2.2.2.2.2.1), .int (bI g246.2.2.2.2.2.2)])), (h2, .inr (0, [.long (z2.1), .long (z2.2.1), .long (z2.2.2.1), .long (z2.2.2.2.1), .long (z2.2.2.2.2.1), .long (z2.2.2.2.2.2.1), .int (bI z2.2.2.2.2.2.2)])), (h3, .inr (0, [.long (z3.1), .long (z3.2.1), .long (z3.2.2.1), .long (z3.2.2.2.1), .long (z3.2.2.2.2.1), .long (z3.2.2.2.2.2.1), .int (bI z3.2.2.2.2.2.2)]))] H) (hD : va_D A [(h0, .inr (0, [.long (g246.1), .long (g246.2.1), .long (g246.2.2.1), .long (g246.2.2.2.1), .long (g246.2.2.2.2.1), .long (g246.2.2.2.2.2.1), .int (bI g246.2.2.2.2.2.2)])), (h2, .inr (0, [.long (z2.1), .long (z2.2.1), .long (z2.2.2.1), .long (z2.2.2.2.1), .long (z2.2.2.2.2.1), .long (z2.2.2.2.2.2.1), .int (bI z2.2.2.2.2.2.2)])), (h3, .inr (0, [.long (z3.1), .long (z3.2.1), .long (z3.2.2.1), .long (z3.2.2.2.1), .long (z3.2.2.2.2.1), .long (z3.2.2.2.2.2.1), .int (bI z3.2.2.2.2.2.2)]))]) (hS : va_S A s.heap H locs) (ls : Array Slot) (hl : lv_has ls 5 [(0, .ref h0)]), W p l e (headSpec w_O_make ({ frames := 4, cells := 0, slots := 0, locals := 118 } : Room)).room s m ([.ref h0, .int (p1), .ref h2, .ref h3, .int (p4)] : List Value).toArray below meth c H locs 0 0 (MQ below (va_Qv (fun _ : Unit => True) (mB (dC, dI) A [(h0, vE (f_O_make z0 p1 z2 z3 p4)), (h2, vE z2), (h3, vE z3)]) A) ([.ref h0, .int (p1), .ref h2, .ref h3, .int (p4)] : List Value).toArray s 0 0 A) (F0 m 249 ls []) := by
    intro g246 hj H locs hP hD hS ls hl
    refine lv_goto (tgt := 269) hx hb d_O_make_249 (by decide) ?_
    refine K269 g246.1 g246.2.1 g246.2.2.1 g246.2.2.2.1 g246.2.2.2.2.1 g246.2.2.2.2.2.1 g246.2.2.2.2.2.2 (hj.trans rfl) H locs ?_ ?_ hS ls (lv_sub hl [0] rfl)
    · with_reducible exact hP
    · with_reducible exact hD
  have K206g : ∀ (g206 : VV) (hj : f_O_make z0 p1 z2 z3 p4 = f_O_make_206g z0 p1 z2 z3 p4 g206) (H : Heap) (locs : List Loc) (hP : va_P (dC, dI) classes [(h0, .inr (0, [.long (g206.1), .long (g206.2.1), .long (g206.2.2.1), .long (g206.2.2.2.1), .long (g206.2.2.2.2.1), .long (g206.2.2.2.2.2.1), .int (bI g206.2.2.2.2.2.2)])), (h2, .inr (0, [.long (z2.1), .long (z2.2.1), .long (z2.2.2.1), .long (z2.2.2.2.1), .long (z2.2.2.2.2.1), .long (z2.2.2.2.2.2.1), .int (bI z2.2.2.2.2.2.2)])), (h3, .inr (0, [.long (z3.1), .long (z3.2.1), .long (z3.2.2.1), .long (z3.2.2.2.1), .long (z3.2.2.2.2.1), .long (z3.2.2.2.2.2.1), .int (bI z3.2.2.2.2.2.2)]))] H) (hD : va_D A [(h0, .inr (0, [.long (g206.1), .long (g206.2.1), .long (g206.2.2.1), .long (g206.2.2.2.1), .long (g206.2.2.2.2.1), .long (g206.2.2.2.2.2.1), .int (bI g206.2.2.2.2.2.2)])), (h2, .inr (0, [.long (z2.1), .long (z2.2.1), .long (z2.2.2.1), .long (z2.2.2.2.1), .long (z2.2.2.2.2.1), .long (z2.2.2.2.2.2.1), .int (bI z2.2.2.2.2.2.2)])), (h3, .inr (0, [.long (z3.1), .long (z3.2.1), .long (z3.2.2.1), .long (z3.2.2.2.1), .long (z3.2.2.2.2.1), .long (z3.2.2.2.2.2.1), .int (bI z3.2.2.2.2.2.2)]))]) (hS : va_S A s.heap H locs) (ls : Array Slot) (hl : lv_has ls 5 [(0, .ref h0), (2, .ref h2), (3, .ref h3)]), W p l e (headSpec w_O_make ({ frames := 4, cells := 0, slots := 0, locals := 118 } : Room)).room s m ([.ref h0, .int (p1), .ref h2, .ref h3, .int (p4)] : List Value).toArray below meth c H locs 0 0 (MQ below (va_Qv (fun _ : Unit => True) (mB (dC, dI) A [(h0, vE (f_O_make z0 p1 z2 z3 p4)), (h2, vE z2), (h3, vE z3)]) A) ([.ref h0, .int (p1), .ref h2, .ref h3, .int (p4)] : List Value).toArray s 0 0 A) (F0 m 209 ls []) := by
    intro g206 hj H locs hP hD hS ls hl
    refine lv_aload_n hx hb d_O_make_209 rfl (lv_at hl 0 rfl) ?_
    refine lv_aload_n hx hb d_O_make_210 rfl (lv_at hl 1 rfl) ?_
    refine va_get (D := (dC, dI)) (ci := 0) (v := .long (z2.2.2.1)) (C := R_V) (T := F_V) (N := 7) hx hb hts (fun w h => List.mem_cons_of_mem _ (uw_V w h)) hown hK hP 1 rfl rfl 2 (by decide) (hG (.fieldLink R_O 55 "ValueSieve$Value" "low" "J") gw26) (fun _ h9 => h9) rfl d_O_make_211 ?_
    refine lv_aload_n hx hb d_O_make_214 rfl (lv_at hl 2 rfl) ?_
    refine va_get (D := (dC, dI)) (ci := 0) (v := .long (z3.2.2.1)) (C := R_V) (T := F_V) (N := 7) hx hb hts (fun w h => List.mem_cons_of_mem _ (uw_V w h)) hown hK hP 2 rfl rfl 2 (by decide) (hG (.fieldLink R_O 55 "ValueSieve$Value" "low" "J") gw26) (fun _ h9 => h9) rfl d_O_make_215 ?_
    refine rc_l (W.runS (As := [.long (z2.2.2.1), .long (z3.2.2.1)]) (rest := [.ref h0]) ⟨hx, hb, hml, hown, hts⟩ (c_N_more l z2.2.2.1 z3.2.2.1) (va_cwS 2 hts (gS gw247 gw123 gw2 gw124) rfl rfl rfl (by decide +kernel) ⟨(Nat.le_of_ble_eq_true rfl), (Nat.le_of_ble_eq_true rfl)⟩) ⟨bl0, fun U hU hW => ⟨rfl, trivial⟩⟩ rfl rfl hl.1 rfl (lv_room (Nat.le_of_ble_eq_true rfl)) d_O_make_218 ⟨Nat.zero_le _, Nat.zero_le _⟩) ?_
    refine va_put (D := (dC, dI)) (ci := 0) (v := .long (f_N_more z2.2.2.1 z3.2.2.1)) (ty := .long) (C := R_V) (T := F_V) (N := 7) hx hb hts (fun w h => List.mem_cons_of_mem _ (uw_V w h)) t_V t_V_ok n_V hown hK hP hD hS 0 rfl rfl 2 (by decide) (hG (.fieldLink R_O 55 "ValueSieve$Value" "low" "J") gw26) (fun _ h9 => h9) rfl (by decide +kernel) rfl rfl (Nat.le_of_ble_eq_true rfl) d_O_make_221 (fun H locs hP hD hS => ?_)
    have hP : va_P (dC, dI) classes [(h0, .inr (0, [.long (g206.1), .long (g206.2.1), .long (f_N_more z2.2.2.1 z3.2.2.1), .long (g206.2.2.2.1), .long (g206.2.2.2.2.1), .long (g206.2.2.2.2.2.1), .int (bI g206.2.2.2.2.2.2)])), (h2, .inr (0, [.long (z2.1), .long (z2.2.1), .long (z2.2.2.1), .long (z2.2.2.2.1), .long (z2.2.2.2.2.1), .long (z2.2.2.2.2.2.1), .int (bI z2.2.2.2.2.2.2)])), (h3, .inr (0, [.long (z3.1), .long (z3.2.1), .long (z3.2.2.1), .long (z3.2.2.2.1), .long (z3.2.2.2.2.1), .long (z3.2.2.2.2.2.1), .int (bI z3.2.2.2.2.2.2)]))] H := hP
    have hD : va_D A [(h0, .inr (0, [.long (g206.1), .long (g206.2.1), .long (f_N_more z2.2.2.1 z3.2.2.1), .long (g206.2.2.2.1), .long (g206.2.2.2.2.1), .long (g206.2.2.2.2.2.1), .int (bI g206.2.2.2.2.2.2)])), (h2, .inr (0, [.long (z2.1), .long (z2.2.1), .long (z2.2.2.1), .long (z2.2.2.2.1), .long (z2.2.2.2.2.1), .long (z2.2.2.2.2.2.1), .int (bI z2.2.2.2.2.2.2)])), (h3, .inr (0, [.long (z3.1), .long (z3.2.1), .long (z3.2.2.1), .long (z3.2.2.2.1), .long (z3.2.2.2.2.1), .long (z3.2.2.2.2.2.1), .int (bI z3.2.2.2.2.2.2)]))] := hD
    refine lv_goto (tgt := 269) hx hb d_O_make_224 (by decide) ?_
    refine K269 g206.1 g206.2.1 (f_N_more z2.2.2.1 z3.2.2.1) g206.2.2.2.1 g206.2.2.2.2.1 g206.2.2.2.2.2.1 g206.2.2.2.2.2.2 (hj.trans rfl) H locs ?_ ?_ hS ls (lv_sub hl [0] rfl)
    · with_reducible exact hP
    · with_reducible exact hD
  have K152g : ∀ (g152 : VV) (hj : f_O_make z0 p1 z2 z3 p4 = f_O_make_152g z0 p1 z2 z3 p4 g152) (H : Heap) (locs : List Loc) (hP : va_P (dC, dI) classes [(h0, .inr (0, [.long (g152.1), .long (g152.2.1), .long (g152.2.2.1), .long (g152.2.2.2.1), .long (g152.2.2.2.2.1), .long (g152.2.2.2.2.2.1), .int (bI g152.2.2.2.2.2.2)])), (h2, .inr (0, [.long (z2.1), .long (z2.2.1), .long (z2.2.2.1), .long (z2.2.2.2.1), .long (z2.2.2.2.2.1), .long (z2.2.2.2.2.2.1), .int (bI z2.2.2.2.2.2.2)])), (h3, .inr (0, [.long (z3.1), .long (z3.2.1), .long (z3.2.2.1), .long (z3.2.2.2.1), .long (z3.2.2.2.2.1), .long (z3.2.2.2.2.2.1), .int (bI z3.2.2.2.2.2.2)]))] H) (hD : va_D A [(h0, .inr (0, [.long (g152.1), .long (g152.2.1), .long (g152.2.2.1), .long (g152.2.2.2.1), .long (g152.2.2.2.2.1), .long (g152.2.2.2.2.2.1), .int (bI g152.2.2.2.2.2.2)])), (h2, .inr (0, [.long (z2.1), .long (z2.2.1), .long (z2.2.2.1), .long (z2.2.2.2.1), .long (z2.2.2.2.2.1), .long (z2.2.2.2.2.2.1), .int (bI z2.2.2.2.2.2.2)])), (h3, .inr (0, [.long (z3.1), .long (z3.2.1), .long (z3.2.2.1), .long (z3.2.2.2.1), .long (z3.2.2.2.2.1), .long (z3.2.2.2.2.2.1), .int (bI z3.2.2.2.2.2.2)]))]) (hS : va_S A s.heap H locs) (ls : Array Slot) (hl : lv_has ls 5 [(0, .ref h0), (2, .ref h2), (3, .ref h3)]), W p l e (headSpec w_O_make ({ frames := 4, cells := 0, slots := 0, locals := 118 } : Room)).room s m ([.ref h0, .int (p1), .ref h2, .ref h3, .int (p4)] : List Value).toArray below meth c H locs 0 0 (MQ below (va_Qv (fun _ : Unit => True) (mB (dC, dI) A [(h0, vE (f_O_make z0 p1 z2 z3 p4)), (h2, vE z2), (h3, vE z3)]) A) ([.ref h0, .int (p1), .ref h2, .ref h3, .int (p4)] : List Value).toArray s 0 0 A) (F0 m 155 ls []) := by
    intro g152 hj H locs hP hD hS ls hl
    refine lv_aload_n hx hb d_O_make_155 rfl (lv_at hl 0 rfl) ?_
    refine lv_aload_n hx hb d_O_make_156 rfl (lv_at hl 1 rfl) ?_
    refine va_get (D := (dC, dI)) (ci := 0) (v := .long (z2.2.2.2.1)) (C := R_V) (T := F_V) (N := 7) hx hb hts (fun w h => List.mem_cons_of_mem _ (uw_V w h)) hown hK hP 1 rfl rfl 3 (by decide) (hG (.fieldLink R_O 49 "ValueSieve$Value" "high" "J") gw30) (fun _ h9 => h9) rfl d_O_make_157 ?_
    refine lv_aload_n hx hb d_O_make_160 rfl (lv_at hl 2 rfl) ?_
    refine va_get (D := (dC, dI)) (ci := 0) (v := .long (z3.2.2.2.1)) (C := R_V) (T := F_V) (N := 7) hx hb hts (fun w h => List.mem_cons_of_mem _ (uw_V w h)) hown hK hP 2 rfl rfl 3 (by decide) (hG (.fieldLink R_O 49 "ValueSieve$Value" "high" "J") gw30) (fun _ h9 => h9) rfl d_O_make_161 ?_
    refine rc_l (W.runS (As := [.long (z2.2.2.2.1), .long (z3.2.2.2.1)]) (rest := [.ref h0]) ⟨hx, hb, hml, hown, hts⟩ (c_N_less l z2.2.2.2.1 z3.2.2.2.1) (va_cwS 2 hts (gS gw246 gw140 gw2 gw141) rfl rfl rfl (by decide +kernel) ⟨(Nat.le_of_ble_eq_true rfl), (Nat.le_of_ble_eq_true rfl)⟩) ⟨bl0, fun U hU hW => ⟨rfl, trivial⟩⟩ rfl rfl hl.1 rfl (lv_room (Nat.le_of_ble_eq_true rfl)) d_O_make_164 ⟨Nat.zero_le _, Nat.zero_le _⟩) ?_
    refine va_put (D := (dC, dI)) (ci := 0) (v := .long (f_N_less z2.2.2.2.1 z3.2.2.2.1)) (ty := .long) (C := R_V) (T := F_V) (N := 7) hx hb hts (fun w h => List.mem_cons_of_mem _ (uw_V w h)) t_V t_V_ok n_V hown hK hP hD hS 0 rfl rfl 3 (by decide) (hG (.fieldLink R_O 49 "ValueSieve$Value" "high" "J") gw30) (fun _ h9 => h9) rfl (by decide +kernel) rfl rfl (Nat.le_of_ble_eq_true rfl) d_O_make_167 (fun H locs hP hD hS => ?_)
    have hP : va_P (dC, dI) classes [(h0, .inr (0, [.long (g152.1), .long (g152.2.1), .long (g152.2.2.1), .long (f_N_less z2.2.2.2.1 z3.2.2.2.1), .long (g152.2.2.2.2.1), .long (g152.2.2.2.2.2.1), .int (bI g152.2.2.2.2.2.2)])), (h2, .inr (0, [.long (z2.1), .long (z2.2.1), .long (z2.2.2.1), .long (z2.2.2.2.1), .long (z2.2.2.2.2.1), .long (z2.2.2.2.2.2.1), .int (bI z2.2.2.2.2.2.2)])), (h3, .inr (0, [.long (z3.1), .long (z3.2.1), .long (z3.2.2.1), .long (z3.2.2.2.1), .long (z3.2.2.2.2.1), .long (z3.2.2.2.2.2.1), .int (bI z3.2.2.2.2.2.2)]))] H := hP
    have hD : va_D A [(h0, .inr (0, [.long (g152.1), .long (g152.2.1), .long (g152.2.2.1), .long (f_N_less z2.2.2.2.1 z3.2.2.2.1), .long (g152.2.2.2.2.1), .long (g152.2.2.2.2.2.1), .int (bI g152.2.2.2.2.2.2)])), (h2, .inr (0, [.long (z2.1), .long (z2.2.1), .long (z2.2.2.1), .long (z2.2.2.2.1), .long (z2.2.2.2.2.1), .long (z2.2.2.2.2.2.1), .int (bI z2.2.2.2.2.2.2)])), (h3, .inr (0, [.long (z3.1), .long (z3.2.1), .long (z3.2.2.1), .long (z3.2.2.2.1), .long (z3.2.2.2.2.1), .long (z3.2.2.2.2.2.1), .int (bI z3.2.2.2.2.2.2)]))] := hD
    refine lv_goto (tgt := 269) hx hb d_O_make_170 (by decide) ?_
    refine K269 g152.1 g152.2.1 g152.2.2.1 (f_N_less z2.2.2.2.1 z3.2.2.2.1) g152.2.2.2.2.1 g152.2.2.2.2.2.1 g152.2.2.2.2.2.2 (hj.trans rfl) H locs ?_ ?_ hS ls (lv_sub hl [0] rfl)
    · with_reducible exact hP
    · with_reducible exact hD
  have K103g : ∀ (g103 : VV) (hj : f_O_make z0 p1 z2 z3 p4 = f_O_make_103g z0 p1 z2 z3 p4 g103) (H : Heap) (locs : List Loc) (hP : va_P (dC, dI) classes [(h0, .inr (0, [.long (g103.1), .long (g103.2.1), .long (g103.2.2.1), .long (g103.2.2.2.1), .long (g103.2.2.2.2.1), .long (g103.2.2.2.2.2.1), .int (bI g103.2.2.2.2.2.2)])), (h2, .inr (0, [.long (z2.1), .long (z2.2.1), .long (z2.2.2.1), .long (z2.2.2.2.1), .long (z2.2.2.2.2.1), .long (z2.2.2.2.2.2.1), .int (bI z2.2.2.2.2.2.2)])), (h3, .inr (0, [.long (z3.1), .long (z3.2.1), .long (z3.2.2.1), .long (z3.2.2.2.1), .long (z3.2.2.2.2.1), .long (z3.2.2.2.2.2.1), .int (bI z3.2.2.2.2.2.2)]))] H) (hD : va_D A [(h0, .inr (0, [.long (g103.1), .long (g103.2.1), .long (g103.2.2.1), .long (g103.2.2.2.1), .long (g103.2.2.2.2.1), .long (g103.2.2.2.2.2.1), .int (bI g103.2.2.2.2.2.2)])), (h2, .inr (0, [.long (z2.1), .long (z2.2.1), .long (z2.2.2.1), .long (z2.2.2.2.1), .long (z2.2.2.2.2.1), .long (z2.2.2.2.2.2.1), .int (bI z2.2.2.2.2.2.2)])), (h3, .inr (0, [.long (z3.1), .long (z3.2.1), .long (z3.2.2.1), .long (z3.2.2.2.1), .long (z3.2.2.2.2.1), .long (z3.2.2.2.2.2.1), .int (bI z3.2.2.2.2.2.2)]))]) (hS : va_S A s.heap H locs) (ls : Array Slot) (hl : lv_has ls 5 [(0, .ref h0)]), W p l e (headSpec w_O_make ({ frames := 4, cells := 0, slots := 0, locals := 118 } : Room)).room s m ([.ref h0, .int (p1), .ref h2, .ref h3, .int (p4)] : List Value).toArray below meth c H locs 0 0 (MQ below (va_Qv (fun _ : Unit => True) (mB (dC, dI) A [(h0, vE (f_O_make z0 p1 z2 z3 p4)), (h2, vE z2), (h3, vE z3)]) A) ([.ref h0, .int (p1), .ref h2, .ref h3, .int (p4)] : List Value).toArray s 0 0 A) (F0 m 106 ls []) := by
    intro g103 hj H locs hP hD hS ls hl
    refine lv_goto (tgt := 269) hx hb d_O_make_106 (by decide) ?_
    refine K269 g103.1 g103.2.1 g103.2.2.1 g103.2.2.2.1 g103.2.2.2.2.1 g103.2.2.2.2.2.1 g103.2.2.2.2.2.2 (hj.trans rfl) H locs ?_ ?_ hS ls (lv_sub hl [0] rfl)
    · with_reducible exact hP
    · with_reducible exact hD
  have K94g : ∀ (g94 : VV) (hj : f_O_make z0 p1 z2 z3 p4 = f_O_make_94g z0 p1 z2 z3 p4 g94) (H : Heap) (locs : List Loc) (hP : va_P (dC, dI) classes [(h0, .inr (0, [.long (g94.1), .long (g94.2.1), .long (g94.2.2.1), .long (g94.2.2.2.1), .long (g94.2.2.2.2.1), .long (g94.2.2.2.2.2.1), .int (bI g94.2.2.2.2.2.2)])), (h2, .inr (0, [.long (z2.1), .long (z2.2.1), .long (z2.2.2.1), .long (z2.2.2.2.1), .long (z2.2.2.2.2.1), .long (z2.2.2.2.2.2.1), .int (bI z2.2.2.2.2.2.2)])), (h3, .inr (0, [.long (z3.1), .long (z3.2.1), .long (z3.2.2.1), .long (z3.2.2.2.1), .long (z3.2.2.2.2.1), .long (z3.2.2.2.2.2.1), .int (bI z3.2.2.2.2.2.2)]))] H) (hD : va_D A [(h0, .inr (0, [.long (g94.1), .long (g94.2.1), .long (g94.2.2.1), .long (g94.2.2.2.1), .long (g94.2.2.2.2.1), .long (g94.2.2.2.2.2.1), .int (bI g94.2.2.2.2.2.2)])), (h2, .inr (0, [.long (z2.1), .long (z2.2.1), .long (z2.2.2.1), .long (z2.2.2.2.1), .long (z2.2.2.2.2.1), .long (z2.2.2.2.2.2.1), .int (bI z2.2.2.2.2.2.2)])), (h3, .inr (0, [.long (z3.1), .long (z3.2.1), .long (z3.2.2.1), .long (z3.2.2.2.1), .long (z3.2.2.2.2.1), .long (z3.2.2.2.2.2.1), .int (bI z3.2.2.2.2.2.2)]))]) (hS : va_S A s.heap H locs) (ls : Array Slot) (hl : lv_has ls 5 [(0, .ref h0)]), W p l e (headSpec w_O_make ({ frames := 4, cells := 0, slots := 0, locals := 118 } : Room)).room s m ([.ref h0, .int (p1), .ref h2, .ref h3, .int (p4)] : List Value).toArray below meth c H locs 0 0 (MQ below (va_Qv (fun _ : Unit => True) (mB (dC, dI) A [(h0, vE (f_O_make z0 p1 z2 z3 p4)), (h2, vE z2), (h3, vE z3)]) A) ([.ref h0, .int (p1), .ref h2, .ref h3, .int (p4)] : List Value).toArray s 0 0 A) (F0 m 97 ls []) := by
    intro g94 hj H locs hP hD hS ls hl
    refine lv_goto (tgt := 269) hx hb d_O_make_97 (by decide) ?_
    refine K269 g94.1 g94.2.1 g94.2.2.1 g94.2.2.2.1 g94.2.2.2.2.1 g94.2.2.2.2.2.1 g94.2.2.2.2.2.2 (hj.trans rfl) H locs ?_ ?_ hS ls (lv_sub hl [0] rfl)
    · with_reducible exact hP
    · with_reducible exact hD
  have K85g : ∀ (g85 : VV) (hj : f_O_make z0 p1 z2 z3 p4 = f_O_make_85g z0 p1 z2 z3 p4 g85) (H : Heap) (locs : List Loc) (hP : va_P (dC, dI) classes [(h0, .inr (0, [.long (g85.1), .long (g85.2.1), .long (g85.2.2.1), .long (g85.2.2.2.1), .long (g85.2.2.2.2.1), .long (g85.2.2.2.2.2.1), .int (bI g85.2.2.2.2.2.2)])), (h2, .inr (0, [.long (z2.1), .long (z2.2.1), .long (z2.2.2.1), .long (z2.2.2.2.1), .long (z2.2.2.2.2.1), .long (z2.2.2.2.2.2.1), .int (bI z2.2.2.2.2.2.2)])), (h3, .inr (0, [.long (z3.1), .long (z3.2.1), .long (z3.2.2.1), .long (z3.2.2.2.1), .long (z3.2.2.2.2.1), .long (z3.2.2.2.2.2.1), .int (bI z3.2.2.2.2.2.2)]))] H) (hD : va_D A [(h0, .inr (0, [.long (g85.1), .long (g85.2.1), .long (g85.2.2.1), .long (g85.2.2.2.1), .long (g85.2.2.2.2.1), .long (g85.2.2.2.2.2.1), .int (bI g85.2.2.2.2.2.2)])), (h2, .inr (0, [.long (z2.1), .long (z2.2.1), .long (z2.2.2.1), .long (z2.2.2.2.1), .long (z2.2.2.2.2.1), .long (z2.2.2.2.2.2.1), .int (bI z2.2.2.2.2.2.2)])), (h3, .inr (0, [.long (z3.1), .long (z3.2.1), .long (z3.2.2.1), .long (z3.2.2.2.1), .long (z3.2.2.2.2.1), .long (z3.2.2.2.2.2.1), .int (bI z3.2.2.2.2.2.2)]))]) (hS : va_S A s.heap H locs) (ls : Array Slot) (hl : lv_has ls 5 [(0, .ref h0)]), W p l e (headSpec w_O_make ({ frames := 4, cells := 0, slots := 0, locals := 118 } : Room)).room s m ([.ref h0, .int (p1), .ref h2, .ref h3, .int (p4)] : List Value).toArray below meth c H locs 0 0 (MQ below (va_Qv (fun _ : Unit => True) (mB (dC, dI) A [(h0, vE (f_O_make z0 p1 z2 z3 p4)), (h2, vE z2), (h3, vE z3)]) A) ([.ref h0, .int (p1), .ref h2, .ref h3, .int (p4)] : List Value).toArray s 0 0 A) (F0 m 88 ls []) := by
    intro g85 hj H locs hP hD hS ls hl
    refine lv_goto (tgt := 269) hx hb d_O_make_88 (by decide) ?_
    refine K269 g85.1 g85.2.1 g85.2.2.1 g85.2.2.2.1 g85.2.2.2.2.1 g85.2.2.2.2.2.1 g85.2.2.2.2.2.2 (hj.trans rfl) H locs ?_ ?_ hS ls (lv_sub hl [0] rfl)
    · with_reducible exact hP
    · with_reducible exact hD
  have K76g : ∀ (g76 : VV) (hj : f_O_make z0 p1 z2 z3 p4 = f_O_make_76g z0 p1 z2 z3 p4 g76) (H : Heap) (locs : List Loc) (hP : va_P (dC, dI) classes [(h0, .inr (0, [.long (g76.1), .long (g76.2.1), .long (g76.2.2.1), .long (g76.2.2.2.1), .long (g76.2.2.2.2.1), .long (g76.2.2.2.2.2.1), .int (bI g76.2.2.2.2.2.2)])), (h2, .inr (0, [.long (z2.1), .long (z2.2.1), .long (z2.2.2.1), .long (z2.2.2.2.1), .long (z2.2.2.2.2.1), .long (z2.2.2.2.2.2.1), .int (bI z2.2.2.2.2.2.2)])), (h3, .inr (0, [.long (z3.1), .long (z3.2.1), .long (z3.2.2.1), .long (z3.2.2.2.1), .long (z3.2.2.2.2.1), .long (z3.2.2.2.2.2.1), .int (bI z3.2.2.2.2.2.2)]))] H) (hD : va_D A [(h0, .inr (0, [.long (g76.1), .long (g76.2.1), .long (g76.2.2.1), .long (g76.2.2.2.1), .long (g76.2.2.2.2.1), .long (g76.2.2.2.2.2.1), .int (bI g76.2.2.2.2.2.2)])), (h2, .inr (0, [.long (z2.1), .long (z2.2.1), .long (z2.2.2.1), .long (z2.2.2.2.1), .long (z2.2.2.2.2.1), .long (z2.2.2.2.2.2.1), .int (bI z2.2.2.2.2.2.2)])), (h3, .inr (0, [.long (z3.1), .long (z3.2.1), .long (z3.2.2.1), .long (z3.2.2.2.1), .long (z3.2.2.2.2.1), .long (z3.2.2.2.2.2.1), .int (bI z3.2.2.2.2.2.2)]))]) (hS : va_S A s.heap H locs) (ls : Array Slot) (hl : lv_has ls 5 [(0, .ref h0)]), W p l e (headSpec w_O_make ({ frames := 4, cells := 0, slots := 0, locals := 118 } : Room)).room s m ([.ref h0, .int (p1), .ref h2, .ref h3, .int (p4)] : List Value).toArray below meth c H locs 0 0 (MQ below (va_Qv (fun _ : Unit => True) (mB (dC, dI) A [(h0, vE (f_O_make z0 p1 z2 z3 p4)), (h2, vE z2), (h3, vE z3)]) A) ([.ref h0, .int (p1), .ref h2, .ref h3, .int (p4)] : List Value).toArray s 0 0 A) (F0 m 79 ls []) := by
    intro g76 hj H locs hP hD hS ls hl
    refine lv_goto (tgt := 269) hx hb d_O_make_79 (by decide) ?_
    refine K269 g76.1 g76.2.1 g76.2.2.1 g76.2.2.2.1 g76.2.2.2.2.1 g76.2.2.2.2.2.1 g76.2.2.2.2.2.2 (hj.trans rfl) H locs ?_ ?_ hS ls (lv_sub hl [0] rfl)
    · with_reducible exact hP
    · with_reducible exact hD
  have K67g : ∀ (g67 : VV) (hj : f_O_make z0 p1 z2 z3 p4 = f_O_make_67g z0 p1 z2 z3 p4 g67) (H : Heap) (locs : List Loc) (hP : va_P (dC, dI) classes [(h0, .inr (0, [.long (g67.1), .long (g67.2.1), .long (g67.2.2.1), .long (g67.2.2.2.1), .long (g67.2.2.2.2.1), .long (g67.2.2.2.2.2.1), .int (bI g67.2.2.2.2.2.2)])), (h2, .inr (0, [.long (z2.1), .long (z2.2.1), .long (z2.2.2.1), .long (z2.2.2.2.1), .long (z2.2.2.2.2.1), .long (z2.2.2.2.2.2.1), .int (bI z2.2.2.2.2.2.2)])), (h3, .inr (0, [.long (z3.1), .long (z3.2.1), .long (z3.2.2.1), .long (z3.2.2.2.1), .long (z3.2.2.2.2.1), .long (z3.2.2.2.2.2.1), .int (bI z3.2.2.2.2.2.2)]))] H) (hD : va_D A [(h0, .inr (0, [.long (g67.1), .long (g67.2.1), .long (g67.2.2.1), .long (g67.2.2.2.1), .long (g67.2.2.2.2.1), .long (g67.2.2.2.2.2.1), .int (bI g67.2.2.2.2.2.2)])), (h2, .inr (0, [.long (z2.1), .long (z2.2.1), .long (z2.2.2.1), .long (z2.2.2.2.1), .long (z2.2.2.2.2.1), .long (z2.2.2.2.2.2.1), .int (bI z2.2.2.2.2.2.2)])), (h3, .inr (0, [.long (z3.1), .long (z3.2.1), .long (z3.2.2.1), .long (z3.2.2.2.1), .long (z3.2.2.2.2.1), .long (z3.2.2.2.2.2.1), .int (bI z3.2.2.2.2.2.2)]))]) (hS : va_S A s.heap H locs) (ls : Array Slot) (hl : lv_has ls 5 [(0, .ref h0)]), W p l e (headSpec w_O_make ({ frames := 4, cells := 0, slots := 0, locals := 118 } : Room)).room s m ([.ref h0, .int (p1), .ref h2, .ref h3, .int (p4)] : List Value).toArray below meth c H locs 0 0 (MQ below (va_Qv (fun _ : Unit => True) (mB (dC, dI) A [(h0, vE (f_O_make z0 p1 z2 z3 p4)), (h2, vE z2), (h3, vE z3)]) A) ([.ref h0, .int (p1), .ref h2, .ref h3, .int (p4)] : List Value).toArray s 0 0 A) (F0 m 70 ls []) := by
    intro g67 hj H locs hP hD hS ls hl
    refine lv_goto (tgt := 269) hx hb d_O_make_70 (by decide) ?_
    refine K269 g67.1 g67.2.1 g67.2.2.1 g67.2.2.2.1 g67.2.2.2.2.1 g67.2.2.2.2.2.1 g67.2.2.2.2.2.2 (hj.trans rfl) H locs ?_ ?_ hS ls (lv_sub hl [0] rfl)
    · with_reducible exact hP
    · with_reducible exact hD
  have K1g : ∀ (g1 : VV) (hj : f_O_make z0 p1 z2 z3 p4 = f_O_make_1g z0 p1 z2 z3 p4 g1) (H : Heap) (locs : List Loc) (hP : va_P (dC, dI) classes [(h0, .inr (0, [.long (g1.1), .long (g1.2.1), .long (g1.2.2.1), .long (g1.2.2.2.1), .long (g1.2.2.2.2.1), .long (g1.2.2.2.2.2.1), .int (bI g1.2.2.2.2.2.2)])), (h2, .inr (0, [.long (z2.1), .long (z2.2.1), .long (z2.2.2.1), .long (z2.2.2.2.1), .long (z2.2.2.2.2.1), .long (z2.2.2.2.2.2.1), .int (bI z2.2.2.2.2.2.2)])), (h3, .inr (0, [.long (z3.1), .long (z3.2.1), .long (z3.2.2.1), .long (z3.2.2.2.1), .long (z3.2.2.2.2.1), .long (z3.2.2.2.2.2.1), .int (bI z3.2.2.2.2.2.2)]))] H) (hD : va_D A [(h0, .inr (0, [.long (g1.1), .long (g1.2.1), .long (g1.2.2.1), .long (g1.2.2.2.1), .long (g1.2.2.2.2.1), .long (g1.2.2.2.2.2.1), .int (bI g1.2.2.2.2.2.2)])), (h2, .inr (0, [.long (z2.1), .long (z2.2.1), .long (z2.2.2.1), .long (z2.2.2.2.1), .long (z2.2.2.2.2.1), .long (z2.2.2.2.2.2.1), .int (bI z2.2.2.2.2.2.2)])), (h3, .inr (0, [.long (z3.1), .long (z3.2.1), .long (z3.2.2.1), .long (z3.2.2.2.1), .long (z3.2.2.2.2.1), .long (z3.2.2.2.2.2.1), .int (bI z3.2.2.2.2.2.2)]))]) (hS : va_S A s.heap H locs) (ls : Array Slot) (hl : lv_has ls 5 [(0, .ref h0), (1, .int (p1)), (2, .ref h2), (3, .ref h3), (4, .int (p4))]), W p l e (headSpec w_O_make ({ frames := 4, cells := 0, slots := 0, locals := 118 } : Room)).room s m ([.ref h0, .int (p1), .ref h2, .ref h3, .int (p4)] : List Value).toArray below meth c H locs 0 0 (MQ below (va_Qv (fun _ : Unit => True) (mB (dC, dI) A [(h0, vE (f_O_make z0 p1 z2 z3 p4)), (h2, vE z2), (h3, vE z3)]) A) ([.ref h0, .int (p1), .ref h2, .ref h3, .int (p4)] : List Value).toArray s 0 0 A) (F0 m 4 ls []) := by
    intro g1 hj H locs hP hD hS ls hl
    refine lv_iload_n hx hb d_O_make_4 rfl (lv_at hl 1 rfl) ?_
    by_cases e1_64 : p1 = 0
    · refine lv_tableIn (off := 59) (tgt := 64) hx hb d_O_make_5 (by rw [e1_64]; decide) (by rw [e1_64]; decide) (by rw [e1_64]; rfl) (by decide) ?_
      refine lv_aload_n hx hb d_O_make_64 rfl (lv_at hl 0 rfl) ?_
      refine lv_aload_n hx hb d_O_make_65 rfl (lv_at hl 2 rfl) ?_
      refine lv_aload_n hx hb d_O_make_66 rfl (lv_at hl 3 rfl) ?_
      refine mg_v (F := f_O_addition g1 z2 z3) (wc := [(h0, vE g1), (h2, vE z2), (h3, vE z3)]) (w1 := fun g67 => [(h0, vE g67), (h2, vE z2), (h3, vE z3)]) (wr := []) (ws' := fun g67 => [(h0, .inr (0, [.long (g67.1), .long (g67.2.1), .long (g67.2.2.1), .long (g67.2.2.2.1), .long (g67.2.2.2.2.1), .long (g67.2.2.2.2.2.1), .int (bI g67.2.2.2.2.2.2)])), (h2, .inr (0, [.long (z2.1), .long (z2.2.1), .long (z2.2.2.1), .long (z2.2.2.2.1), .long (z2.2.2.2.2.1), .long (z2.2.2.2.2.2.1), .int (bI z2.2.2.2.2.2.2)])), (h3, .inr (0, [.long (z3.1), .long (z3.2.1), .long (z3.2.2.1), .long (z3.2.2.2.1), .long (z3.2.2.2.2.1), .long (z3.2.2.2.2.2.1), .int (bI z3.2.2.2.2.2.2)]))]) (va_runS (As := [.ref h0, .ref h2, .ref h3]) (rest := []) ⟨hx, hb, hml, hown, hts⟩ (c_O_addition l dC dI h0 h2 h3 H.size g1 z2 z3) (va_cwS 3 hts (gS gw188 gw189 gw4 gw190) rfl rfl rfl (by decide +kernel) ⟨(Nat.le_of_ble_eq_true rfl), (Nat.le_of_ble_eq_true rfl)⟩) ⟨blm, fun U hU hW => ⟨rfl, by rw [hU], by rw [hU]; exact hP.sub [0, 1, 2] rfl, va_K.moved hW.alike hK, (hD.sub [0, 1, 2] (by decide) rfl).weaken (fun _ _ _ _ => trivial)⟩⟩ rfl rfl hl.1 rfl (lv_room (Nat.le_of_ble_eq_true rfl)) d_O_make_67 ⟨Nat.zero_le _, Nat.zero_le _⟩) hP hD hS hA [0, 1, 2] [] [0, 1, 2] rfl rfl (by decide) (by decide) (fun _ => rfl) (by decide) (fun g67 eg67 H locs hP hD hS => ?_)
      refine K67g g67 (Eq.trans (hj.trans (by unfold f_O_make_1g; first | with_reducible exact if_pos e1_64 | exact if_pos e1_64)) (congrArg (fun g67 => f_O_make_67g z0 p1 z2 z3 p4 g67) eg67)) H locs ?_ ?_ hS ls (lv_sub hl [0] rfl)
      · with_reducible exact hP
      · with_reducible exact hD
    by_cases e2_73 : p1 = 1
    · refine lv_tableIn (off := 68) (tgt := 73) hx hb d_O_make_5 (by rw [e2_73]; decide) (by rw [e2_73]; decide) (by rw [e2_73]; rfl) (by decide) ?_
      refine lv_aload_n hx hb d_O_make_73 rfl (lv_at hl 0 rfl) ?_
      refine lv_aload_n hx hb d_O_make_74 rfl (lv_at hl 2 rfl) ?_
      refine lv_aload_n hx hb d_O_make_75 rfl (lv_at hl 3 rfl) ?_
      refine mg_v (F := f_O_subtraction g1 z2 z3) (wc := [(h0, vE g1), (h2, vE z2), (h3, vE z3)]) (w1 := fun g76 => [(h0, vE g76), (h2, vE z2), (h3, vE z3)]) (wr := []) (ws' := fun g76 => [(h0, .inr (0, [.long (g76.1), .long (g76.2.1), .long (g76.2.2.1), .long (g76.2.2.2.1), .long (g76.2.2.2.2.1), .long (g76.2.2.2.2.2.1), .int (bI g76.2.2.2.2.2.2)])), (h2, .inr (0, [.long (z2.1), .long (z2.2.1), .long (z2.2.2.1), .long (z2.2.2.2.1), .long (z2.2.2.2.2.1), .long (z2.2.2.2.2.2.1), .int (bI z2.2.2.2.2.2.2)])), (h3, .inr (0, [.long (z3.1), .long (z3.2.1), .long (z3.2.2.1), .long (z3.2.2.2.1), .long (z3.2.2.2.2.1), .long (z3.2.2.2.2.2.1), .int (bI z3.2.2.2.2.2.2)]))]) (va_runS (As := [.ref h0, .ref h2, .ref h3]) (rest := []) ⟨hx, hb, hml, hown, hts⟩ (c_O_subtraction l dC dI h0 h2 h3 H.size g1 z2 z3) (va_cwS 3 hts (gS gw198 gw199 gw4 gw200) rfl rfl rfl (by decide +kernel) ⟨(Nat.le_of_ble_eq_true rfl), (Nat.le_of_ble_eq_true rfl)⟩) ⟨blm, fun U hU hW => ⟨rfl, by rw [hU], by rw [hU]; exact hP.sub [0, 1, 2] rfl, va_K.moved hW.alike hK, (hD.sub [0, 1, 2] (by decide) rfl).weaken (fun _ _ _ _ => trivial)⟩⟩ rfl rfl hl.1 rfl (lv_room (Nat.le_of_ble_eq_true rfl)) d_O_make_76 ⟨Nat.zero_le _, Nat.zero_le _⟩) hP hD hS hA [0, 1, 2] [] [0, 1, 2] rfl rfl (by decide) (by decide) (fun _ => rfl) (by decide) (fun g76 eg76 H locs hP hD hS => ?_)
      refine K76g g76 (Eq.trans (hj.trans (by unfold f_O_make_1g; first | with_reducible exact (if_neg e1_64).trans (if_pos e2_73) | exact (if_neg e1_64).trans (if_pos e2_73))) (congrArg (fun g76 => f_O_make_76g z0 p1 z2 z3 p4 g76) eg76)) H locs ?_ ?_ hS ls (lv_sub hl [0] rfl)
      · with_reducible exact hP
      · with_reducible exact hD
    by_cases e3_82 : p1 = 2
    · refine lv_tableIn (off := 77) (tgt := 82) hx hb d_O_make_5 (by rw [e3_82]; decide) (by rw [e3_82]; decide) (by rw [e3_82]; rfl) (by decide) ?_
      refine lv_aload_n hx hb d_O_make_82 rfl (lv_at hl 0 rfl) ?_
      refine lv_aload_n hx hb d_O_make_83 rfl (lv_at hl 2 rfl) ?_
      refine lv_aload_n hx hb d_O_make_84 rfl (lv_at hl 3 rfl) ?_
      refine mg_v (F := f_O_multiplication g1 z2 z3) (wc := [(h0, vE g1), (h2, vE z2), (h3, vE z3)]) (w1 := fun g85 => [(h0, vE g85), (h2, vE z2), (h3, vE z3)]) (wr := []) (ws' := fun g85 => [(h0, .inr (0, [.long (g85.1), .long (g85.2.1), .long (g85.2.2.1), .long (g85.2.2.2.1), .long (g85.2.2.2.2.1), .long (g85.2.2.2.2.2.1), .int (bI g85.2.2.2.2.2.2)])), (h2, .inr (0, [.long (z2.1), .long (z2.2.1), .long (z2.2.2.1), .long (z2.2.2.2.1), .long (z2.2.2.2.2.1), .long (z2.2.2.2.2.2.1), .int (bI z2.2.2.2.2.2.2)])), (h3, .inr (0, [.long (z3.1), .long (z3.2.1), .long (z3.2.2.1), .long (z3.2.2.2.1), .long (z3.2.2.2.2.1), .long (z3.2.2.2.2.2.1), .int (bI z3.2.2.2.2.2.2)]))]) (va_runS (As := [.ref h0, .ref h2, .ref h3]) (rest := []) ⟨hx, hb, hml, hown, hts⟩ (c_O_multiplication l dC dI h0 h2 h3 H.size g1 z2 z3) (va_cwS 3 hts (gS gw204 gw205 gw4 gw206) rfl rfl rfl (by decide +kernel) ⟨(Nat.le_of_ble_eq_true rfl), (Nat.le_of_ble_eq_true rfl)⟩) ⟨blm, fun U hU hW => ⟨rfl, by rw [hU], by rw [hU]; exact hP.sub [0, 1, 2] rfl, va_K.moved hW.alike hK, (hD.sub [0, 1, 2] (by decide) rfl).weaken (fun _ _ _ _ => trivial)⟩⟩ rfl rfl hl.1 rfl (lv_room (Nat.le_of_ble_eq_true rfl)) d_O_make_85 ⟨Nat.zero_le _, Nat.zero_le _⟩) hP hD hS hA [0, 1, 2] [] [0, 1, 2] rfl rfl (by decide) (by decide) (fun _ => rfl) (by decide) (fun g85 eg85 H locs hP hD hS => ?_)
      refine K85g g85 (Eq.trans (hj.trans (by unfold f_O_make_1g; first | with_reducible exact (if_neg e1_64).trans ((if_neg e2_73).trans (if_pos e3_82)) | exact (if_neg e1_64).trans ((if_neg e2_73).trans (if_pos e3_82)))) (congrArg (fun g85 => f_O_make_85g z0 p1 z2 z3 p4 g85) eg85)) H locs ?_ ?_ hS ls (lv_sub hl [0] rfl)
      · with_reducible exact hP
      · with_reducible exact hD
    by_cases e4_91 : p1 = 3
    · refine lv_tableIn (off := 86) (tgt := 91) hx hb d_O_make_5 (by rw [e4_91]; decide) (by rw [e4_91]; decide) (by rw [e4_91]; rfl) (by decide) ?_
      refine lv_aload_n hx hb d_O_make_91 rfl (lv_at hl 0 rfl) ?_
      refine lv_aload_n hx hb d_O_make_92 rfl (lv_at hl 2 rfl) ?_
      refine lv_aload_n hx hb d_O_make_93 rfl (lv_at hl 3 rfl) ?_
      refine mg_v (F := f_O_division g1 z2 z3) (wc := [(h0, vE g1), (h2, vE z2), (h3, vE z3)]) (w1 := fun g94 => [(h0, vE g94), (h2, vE z2), (h3, vE z3)]) (wr := []) (ws' := fun g94 => [(h0, .inr (0, [.long (g94.1), .long (g94.2.1), .long (g94.2.2.1), .long (g94.2.2.2.1), .long (g94.2.2.2.2.1), .long (g94.2.2.2.2.2.1), .int (bI g94.2.2.2.2.2.2)])), (h2, .inr (0, [.long (z2.1), .long (z2.2.1), .long (z2.2.2.1), .long (z2.2.2.2.1), .long (z2.2.2.2.2.1), .long (z2.2.2.2.2.2.1), .int (bI z2.2.2.2.2.2.2)])), (h3, .inr (0, [.long (z3.1), .long (z3.2.1), .long (z3.2.2.1), .long (z3.2.2.2.1), .long (z3.2.2.2.2.1), .long (z3.2.2.2.2.2.1), .int (bI z3.2.2.2.2.2.2)]))]) (va_runS (As := [.ref h0, .ref h2, .ref h3]) (rest := []) ⟨hx, hb, hml, hown, hts⟩ (c_O_division l dC dI h0 h2 h3 H.size g1 z2 z3) (va_cwS 3 hts (gS gw238 gw239 gw4 gw240) rfl rfl rfl (by decide +kernel) ⟨(Nat.le_of_ble_eq_true rfl), (Nat.le_of_ble_eq_true rfl)⟩) ⟨blm, fun U hU hW => ⟨rfl, by rw [hU], by rw [hU]; exact hP.sub [0, 1, 2] rfl, va_K.moved hW.alike hK, (hD.sub [0, 1, 2] (by decide) rfl).weaken (fun _ _ _ _ => trivial)⟩⟩ rfl rfl hl.1 rfl (lv_room (Nat.le_of_ble_eq_true rfl)) d_O_make_94 ⟨Nat.zero_le _, Nat.zero_le _⟩) hP hD hS hA [0, 1, 2] [] [0, 1, 2] rfl rfl (by decide) (by decide) (fun _ => rfl) (by decide) (fun g94 eg94 H locs hP hD hS => ?_)
      refine K94g g94 (Eq.trans (hj.trans (by unfold f_O_make_1g; first | with_reducible exact (if_neg e1_64).trans ((if_neg e2_73).trans ((if_neg e3_82).trans (if_pos e4_91))) | exact (if_neg e1_64).trans ((if_neg e2_73).trans ((if_neg e3_82).trans (if_pos e4_91))))) (congrArg (fun g94 => f_O_make_94g z0 p1 z2 z3 p4 g94) eg94)) H locs ?_ ?_ hS ls (lv_sub hl [0] rfl)
      · with_reducible exact hP
      · with_reducible exact hD
    by_cases e5_100 : p1 = 4
    · refine lv_tableIn (off := 95) (tgt := 100) hx hb d_O_make_5 (by rw [e5_100]; decide) (by rw [e5_100]; decide) (by rw [e5_100]; rfl) (by decide) ?_
      refine lv_aload_n hx hb d_O_make_100 rfl (lv_at hl 0 rfl) ?_
      refine lv_aload_n hx hb d_O_make_101 rfl (lv_at hl 2 rfl) ?_
      refine lv_aload_n hx hb d_O_make_102 rfl (lv_at hl 3 rfl) ?_
      refine mg_v (F := f_O_remainder g1 z2 z3) (wc := [(h0, vE g1), (h2, vE z2), (h3, vE z3)]) (w1 := fun g103 => [(h0, vE g103), (h2, vE z2), (h3, vE z3)]) (wr := []) (ws' := fun g103 => [(h0, .inr (0, [.long (g103.1), .long (g103.2.1), .long (g103.2.2.1), .long (g103.2.2.2.1), .long (g103.2.2.2.2.1), .long (g103.2.2.2.2.2.1), .int (bI g103.2.2.2.2.2.2)])), (h2, .inr (0, [.long (z2.1), .long (z2.2.1), .long (z2.2.2.1), .long (z2.2.2.2.1), .long (z2.2.2.2.2.1), .long (z2.2.2.2.2.2.1), .int (bI z2.2.2.2.2.2.2)])), (h3, .inr (0, [.long (z3.1), .long (z3.2.1), .long (z3.2.2.1), .long (z3.2.2.2.1), .long (z3.2.2.2.2.1), .long (z3.2.2.2.2.2.1), .int (bI z3.2.2.2.2.2.2)]))]) (va_runS (As := [.ref h0, .ref h2, .ref h3]) (rest := []) ⟨hx, hb, hml, hown, hts⟩ (c_O_remainder l dC dI h0 h2 h3 H.size g1 z2 z3) (va_cwS 3 hts (gS gw242 gw243 gw4 gw244) rfl rfl rfl (by decide +kernel) ⟨(Nat.le_of_ble_eq_true rfl), (Nat.le_of_ble_eq_true rfl)⟩) ⟨blm, fun U hU hW => ⟨rfl, by rw [hU], by rw [hU]; exact hP.sub [0, 1, 2] rfl, va_K.moved hW.alike hK, (hD.sub [0, 1, 2] (by decide) rfl).weaken (fun _ _ _ _ => trivial)⟩⟩ rfl rfl hl.1 rfl (lv_room (Nat.le_of_ble_eq_true rfl)) d_O_make_103 ⟨Nat.zero_le _, Nat.zero_le _⟩) hP hD hS hA [0, 1, 2] [] [0, 1, 2] rfl rfl (by decide) (by decide) (fun _ => rfl) (by decide) (fun g103 eg103 H locs hP hD hS => ?_)
      refine K103g g103 (Eq.trans (hj.trans (by unfold f_O_make_1g; first | with_reducible exact (if_neg e1_64).trans ((if_neg e2_73).trans ((if_neg e3_82).trans ((if_neg e4_91).trans (if_pos e5_100)))) | exact (if_neg e1_64).trans ((if_neg e2_73).trans ((if_neg e3_82).trans ((if_neg e4_91).trans (if_pos e5_100)))))) (congrArg (fun g103 => f_O_make_103g z0 p1 z2 z3 p4 g103) eg103)) H locs ?_ ?_ hS ls (lv_sub hl [0] rfl)
      · with_reducible exact hP
      · with_reducible exact hD
    by_cases e6_109 : p1 = 5
    · refine lv_tableIn (off := 104) (tgt := 109) hx hb d_O_make_5 (by rw [e6_109]; decide) (by rw [e6_109]; decide) (by rw [e6_109]; rfl) (by decide) ?_
      refine lv_aload_n hx hb d_O_make_109 rfl (lv_at hl 0 rfl) ?_
      refine lv_aload_n hx hb d_O_make_110 rfl (lv_at hl 2 rfl) ?_
      refine va_get (D := (dC, dI)) (ci := 0) (v := .long (z2.1)) (C := R_V) (T := F_V) (N := 7) hx hb hts (fun w h => List.mem_cons_of_mem _ (uw_V w h)) hown hK hP 1 rfl rfl 0 (by decide) (hG (.fieldLink R_O 36 "ValueSieve$Value" "bits" "J") gw19) (fun _ h9 => h9) rfl d_O_make_111 ?_
      refine lv_aload_n hx hb d_O_make_114 rfl (lv_at hl 3 rfl) ?_
      refine va_get (D := (dC, dI)) (ci := 0) (v := .long (z3.1)) (C := R_V) (T := F_V) (N := 7) hx hb hts (fun w h => List.mem_cons_of_mem _ (uw_V w h)) hown hK hP 2 rfl rfl 0 (by decide) (hG (.fieldLink R_O 36 "ValueSieve$Value" "bits" "J") gw19) (fun _ h9 => h9) rfl d_O_make_115 ?_
      refine lv_land hx hb d_O_make_118 ?_
      refine lv_aload_n hx hb d_O_make_119 rfl (lv_at hl 2 rfl) ?_
      refine va_get (D := (dC, dI)) (ci := 0) (v := .long (z2.1)) (C := R_V) (T := F_V) (N := 7) hx hb hts (fun w h => List.mem_cons_of_mem _ (uw_V w h)) hown hK hP 1 rfl rfl 0 (by decide) (hG (.fieldLink R_O 36 "ValueSieve$Value" "bits" "J") gw19) (fun _ h9 => h9) rfl d_O_make_120 ?_
      refine lv_aload_n hx hb d_O_make_123 rfl (lv_at hl 2 rfl) ?_
      refine va_get (D := (dC, dI)) (ci := 0) (v := .long (z2.2.1)) (C := R_V) (T := F_V) (N := 7) hx hb hts (fun w h => List.mem_cons_of_mem _ (uw_V w h)) hown hK hP 1 rfl rfl 1 (by decide) (hG (.fieldLink R_O 40 "ValueSieve$Value" "unknown" "J") gw22) (fun _ h9 => h9) rfl d_O_make_124 ?_
      refine lv_lor hx hb d_O_make_127 ?_
      refine lv_aload_n hx hb d_O_make_128 rfl (lv_at hl 3 rfl) ?_
      refine va_get (D := (dC, dI)) (ci := 0) (v := .long (z3.1)) (C := R_V) (T := F_V) (N := 7) hx hb hts (fun w h => List.mem_cons_of_mem _ (uw_V w h)) hown hK hP 2 rfl rfl 0 (by decide) (hG (.fieldLink R_O 36 "ValueSieve$Value" "bits" "J") gw19) (fun _ h9 => h9) rfl d_O_make_129 ?_
      refine lv_aload_n hx hb d_O_make_132 rfl (lv_at hl 3 rfl) ?_
      refine va_get (D := (dC, dI)) (ci := 0) (v := .long (z3.2.1)) (C := R_V) (T := F_V) (N := 7) hx hb hts (fun w h => List.mem_cons_of_mem _ (uw_V w h)) hown hK hP 2 rfl rfl 1 (by decide) (hG (.fieldLink R_O 40 "ValueSieve$Value" "unknown" "J") gw22) (fun _ h9 => h9) rfl d_O_make_133 ?_
      refine lv_lor hx hb d_O_make_136 ?_
      refine lv_land hx hb d_O_make_137 ?_
      refine lv_aload_n hx hb d_O_make_138 rfl (lv_at hl 2 rfl) ?_
      refine va_get (D := (dC, dI)) (ci := 0) (v := .long (z2.1)) (C := R_V) (T := F_V) (N := 7) hx hb hts (fun w h => List.mem_cons_of_mem _ (uw_V w h)) hown hK hP 1 rfl rfl 0 (by decide) (hG (.fieldLink R_O 36 "ValueSieve$Value" "bits" "J") gw19) (fun _ h9 => h9) rfl d_O_make_139 ?_
      refine lv_aload_n hx hb d_O_make_142 rfl (lv_at hl 3 rfl) ?_
      refine va_get (D := (dC, dI)) (ci := 0) (v := .long (z3.1)) (C := R_V) (T := F_V) (N := 7) hx hb hts (fun w h => List.mem_cons_of_mem _ (uw_V w h)) hown hK hP 2 rfl rfl 0 (by decide) (hG (.fieldLink R_O 36 "ValueSieve$Value" "bits" "J") gw19) (fun _ h9 => h9) rfl d_O_make_143 ?_
      refine lv_land hx hb d_O_make_146 ?_
      refine lv_ldc2 (v := -1) hx hb hown (hG (.constantLong R_O 43 (-1)) gw226) d_O_make_147 ?_
      refine lv_lxor hx hb d_O_make_150 ?_
      refine lv_land hx hb d_O_make_151 ?_
      refine mg_v (F := f_V_sayBits g1 (z2.1 &&& z3.1) (((z2.1 ||| z2.2.1) &&& (z3.1 ||| z3.2.1)) &&& ((z2.1 &&& z3.1) ^^^ (-1 : Int64)))) (wc := [(h0, vE g1)]) (w1 := fun g152 => [(h0, vE g152)]) (wr := [(h2, .inr (0, [.long (z2.1), .long (z2.2.1), .long (z2.2.2.1), .long (z2.2.2.2.1), .long (z2.2.2.2.2.1), .long (z2.2.2.2.2.2.1), .int (bI z2.2.2.2.2.2.2)])), (h3, .inr (0, [.long (z3.1), .long (z3.2.1), .long (z3.2.2.1), .long (z3.2.2.2.1), .long (z3.2.2.2.2.1), .long (z3.2.2.2.2.2.1), .int (bI z3.2.2.2.2.2.2)]))]) (ws' := fun g152 => [(h0, .inr (0, [.long (g152.1), .long (g152.2.1), .long (g152.2.2.1), .long (g152.2.2.2.1), .long (g152.2.2.2.2.1), .long (g152.2.2.2.2.2.1), .int (bI g152.2.2.2.2.2.2)])), (h2, .inr (0, [.long (z2.1), .long (z2.2.1), .long (z2.2.2.1), .long (z2.2.2.2.1), .long (z2.2.2.2.2.1), .long (z2.2.2.2.2.2.1), .int (bI z2.2.2.2.2.2.2)])), (h3, .inr (0, [.long (z3.1), .long (z3.2.1), .long (z3.2.2.1), .long (z3.2.2.2.1), .long (z3.2.2.2.2.1), .long (z3.2.2.2.2.2.1), .int (bI z3.2.2.2.2.2.2)]))]) (va_runV (As := [.long (z2.1 &&& z3.1), .long (((z2.1 ||| z2.2.1) &&& (z3.1 ||| z3.2.1)) &&& ((z2.1 &&& z3.1) ^^^ (-1 : Int64)))]) (rest := []) ⟨hx, hb, hml, hown, hts⟩ (c_V_sayBits l dC dI h0 H.size g1 (z2.1 &&& z3.1) (((z2.1 ||| z2.2.1) &&& (z3.1 ||| z3.2.1)) &&& ((z2.1 &&& z3.1) ^^^ (-1 : Int64)))) (cwV 2 hts (gV gw191 gw80 gw81 gw1 gw82) rfl rfl rfl (by decide +kernel) ⟨(Nat.le_of_ble_eq_true rfl), (Nat.le_of_ble_eq_true rfl)⟩) ⟨blm, va_recv hK hP (ci := 0) (q0 := 0) rfl rfl, fun U hU hW => ⟨rfl, by rw [hU], by rw [hU]; exact hP.sub [0] rfl, va_K.moved hW.alike hK, (hD.sub [0] (by decide) rfl).weaken (fun _ _ _ _ => trivial)⟩⟩ rfl rfl hl.1 rfl (lv_room (Nat.le_of_ble_eq_true rfl)) d_O_make_152 ⟨Nat.zero_le _, Nat.zero_le _⟩) hP hD hS hA [0] [1, 2] [2, 0, 1] rfl rfl (by decide) (by decide) (fun _ => rfl) (by decide) (fun g152 eg152 H locs hP hD hS => ?_)
      refine K152g g152 (Eq.trans (hj.trans (by unfold f_O_make_1g; first | with_reducible exact (if_neg e1_64).trans ((if_neg e2_73).trans ((if_neg e3_82).trans ((if_neg e4_91).trans ((if_neg e5_100).trans (if_pos e6_109))))) | exact (if_neg e1_64).trans ((if_neg e2_73).trans ((if_neg e3_82).trans ((if_neg e4_91).trans ((if_neg e5_100).trans (if_pos e6_109))))))) (congrArg (fun g152 => f_O_make_152g z0 p1 z2 z3 p4 g152) eg152)) H locs ?_ ?_ hS ls (lv_sub hl [0, 2, 3] rfl)
      · with_reducible exact hP
      · with_reducible exact hD
    by_cases e7_173 : p1 = 6
    · refine lv_tableIn (off := 168) (tgt := 173) hx hb d_O_make_5 (by rw [e7_173]; decide) (by rw [e7_173]; decide) (by rw [e7_173]; rfl) (by decide) ?_
      refine lv_aload_n hx hb d_O_make_173 rfl (lv_at hl 0 rfl) ?_
      refine lv_aload_n hx hb d_O_make_174 rfl (lv_at hl 2 rfl) ?_
      refine va_get (D := (dC, dI)) (ci := 0) (v := .long (z2.1)) (C := R_V) (T := F_V) (N := 7) hx hb hts (fun w h => List.mem_cons_of_mem _ (uw_V w h)) hown hK hP 1 rfl rfl 0 (by decide) (hG (.fieldLink R_O 36 "ValueSieve$Value" "bits" "J") gw19) (fun _ h9 => h9) rfl d_O_make_175 ?_
      refine lv_aload_n hx hb d_O_make_178 rfl (lv_at hl 3 rfl) ?_
      refine va_get (D := (dC, dI)) (ci := 0) (v := .long (z3.1)) (C := R_V) (T := F_V) (N := 7) hx hb hts (fun w h => List.mem_cons_of_mem _ (uw_V w h)) hown hK hP 2 rfl rfl 0 (by decide) (hG (.fieldLink R_O 36 "ValueSieve$Value" "bits" "J") gw19) (fun _ h9 => h9) rfl d_O_make_179 ?_
      refine lv_lor hx hb d_O_make_182 ?_
      refine lv_aload_n hx hb d_O_make_183 rfl (lv_at hl 2 rfl) ?_
      refine va_get (D := (dC, dI)) (ci := 0) (v := .long (z2.2.1)) (C := R_V) (T := F_V) (N := 7) hx hb hts (fun w h => List.mem_cons_of_mem _ (uw_V w h)) hown hK hP 1 rfl rfl 1 (by decide) (hG (.fieldLink R_O 40 "ValueSieve$Value" "unknown" "J") gw22) (fun _ h9 => h9) rfl d_O_make_184 ?_
      refine lv_aload_n hx hb d_O_make_187 rfl (lv_at hl 3 rfl) ?_
      refine va_get (D := (dC, dI)) (ci := 0) (v := .long (z3.2.1)) (C := R_V) (T := F_V) (N := 7) hx hb hts (fun w h => List.mem_cons_of_mem _ (uw_V w h)) hown hK hP 2 rfl rfl 1 (by decide) (hG (.fieldLink R_O 40 "ValueSieve$Value" "unknown" "J") gw22) (fun _ h9 => h9) rfl d_O_make_188 ?_
      refine lv_lor hx hb d_O_make_191 ?_
      refine lv_aload_n hx hb d_O_make_192 rfl (lv_at hl 2 rfl) ?_
      refine va_get (D := (dC, dI)) (ci := 0) (v := .long (z2.1)) (C := R_V) (T := F_V) (N := 7) hx hb hts (fun w h => List.mem_cons_of_mem _ (uw_V w h)) hown hK hP 1 rfl rfl 0 (by decide) (hG (.fieldLink R_O 36 "ValueSieve$Value" "bits" "J") gw19) (fun _ h9 => h9) rfl d_O_make_193 ?_
      refine lv_aload_n hx hb d_O_make_196 rfl (lv_at hl 3 rfl) ?_
      refine va_get (D := (dC, dI)) (ci := 0) (v := .long (z3.1)) (C := R_V) (T := F_V) (N := 7) hx hb hts (fun w h => List.mem_cons_of_mem _ (uw_V w h)) hown hK hP 2 rfl rfl 0 (by decide) (hG (.fieldLink R_O 36 "ValueSieve$Value" "bits" "J") gw19) (fun _ h9 => h9) rfl d_O_make_197 ?_
      refine lv_lor hx hb d_O_make_200 ?_
      refine lv_ldc2 (v := -1) hx hb hown (hG (.constantLong R_O 43 (-1)) gw226) d_O_make_201 ?_
      refine lv_lxor hx hb d_O_make_204 ?_
      refine lv_land hx hb d_O_make_205 ?_
      refine mg_v (F := f_V_sayBits g1 (z2.1 ||| z3.1) ((z2.2.1 ||| z3.2.1) &&& ((z2.1 ||| z3.1) ^^^ (-1 : Int64)))) (wc := [(h0, vE g1)]) (w1 := fun g206 => [(h0, vE g206)]) (wr := [(h2, .inr (0, [.long (z2.1), .long (z2.2.1), .long (z2.2.2.1), .long (z2.2.2.2.1), .long (z2.2.2.2.2.1), .long (z2.2.2.2.2.2.1), .int (bI z2.2.2.2.2.2.2)])), (h3, .inr (0, [.long (z3.1), .long (z3.2.1), .long (z3.2.2.1), .long (z3.2.2.2.1), .long (z3.2.2.2.2.1), .long (z3.2.2.2.2.2.1), .int (bI z3.2.2.2.2.2.2)]))]) (ws' := fun g206 => [(h0, .inr (0, [.long (g206.1), .long (g206.2.1), .long (g206.2.2.1), .long (g206.2.2.2.1), .long (g206.2.2.2.2.1), .long (g206.2.2.2.2.2.1), .int (bI g206.2.2.2.2.2.2)])), (h2, .inr (0, [.long (z2.1), .long (z2.2.1), .long (z2.2.2.1), .long (z2.2.2.2.1), .long (z2.2.2.2.2.1), .long (z2.2.2.2.2.2.1), .int (bI z2.2.2.2.2.2.2)])), (h3, .inr (0, [.long (z3.1), .long (z3.2.1), .long (z3.2.2.1), .long (z3.2.2.2.1), .long (z3.2.2.2.2.1), .long (z3.2.2.2.2.2.1), .int (bI z3.2.2.2.2.2.2)]))]) (va_runV (As := [.long (z2.1 ||| z3.1), .long ((z2.2.1 ||| z3.2.1) &&& ((z2.1 ||| z3.1) ^^^ (-1 : Int64)))]) (rest := []) ⟨hx, hb, hml, hown, hts⟩ (c_V_sayBits l dC dI h0 H.size g1 (z2.1 ||| z3.1) ((z2.2.1 ||| z3.2.1) &&& ((z2.1 ||| z3.1) ^^^ (-1 : Int64)))) (cwV 2 hts (gV gw191 gw80 gw81 gw1 gw82) rfl rfl rfl (by decide +kernel) ⟨(Nat.le_of_ble_eq_true rfl), (Nat.le_of_ble_eq_true rfl)⟩) ⟨blm, va_recv hK hP (ci := 0) (q0 := 0) rfl rfl, fun U hU hW => ⟨rfl, by rw [hU], by rw [hU]; exact hP.sub [0] rfl, va_K.moved hW.alike hK, (hD.sub [0] (by decide) rfl).weaken (fun _ _ _ _ => trivial)⟩⟩ rfl rfl hl.1 rfl (lv_room (Nat.le_of_ble_eq_true rfl)) d_O_make_206 ⟨Nat.zero_le _, Nat.zero_le _⟩) hP hD hS hA [0] [1, 2] [2, 0, 1] rfl rfl (by decide) (by decide) (fun _ => rfl) (by decide) (fun g206 eg206 H locs hP hD hS => ?_)
      refine K206g g206 (Eq.trans (hj.trans (by unfold f_O_make_1g; first | with_reducible exact (if_neg e1_64).trans ((if_neg e2_73).trans ((if_neg e3_82).trans ((if_neg e4_91).trans ((if_neg e5_100).trans ((if_neg e6_109).trans (if_pos e7_173)))))) | exact (if_neg e1_64).trans ((if_neg e2_73).trans ((if_neg e3_82).trans ((if_neg e4_91).trans ((if_neg e5_100).trans ((if_neg e6_109).trans (if_pos e7_173)))))))) (congrArg (fun g206 => f_O_make_206g z0 p1 z2 z3 p4 g206) eg206)) H locs ?_ ?_ hS ls (lv_sub hl [0, 2, 3] rfl)
      · with_reducible exact hP
      · with_reducible exact hD
    by_cases e8_227 : p1 = 7
    · refine lv_tableIn (off := 222) (tgt := 227) hx hb d_O_make_5 (by rw [e8_227]; decide) (by rw [e8_227]; decide) (by rw [e8_227]; rfl) (by decide) ?_
      refine lv_aload_n hx hb d_O_make_227 rfl (lv_at hl 0 rfl) ?_
      refine lv_aload_n hx hb d_O_make_228 rfl (lv_at hl 2 rfl) ?_
      refine va_get (D := (dC, dI)) (ci := 0) (v := .long (z2.1)) (C := R_V) (T := F_V) (N := 7) hx hb hts (fun w h => List.mem_cons_of_mem _ (uw_V w h)) hown hK hP 1 rfl rfl 0 (by decide) (hG (.fieldLink R_O 36 "ValueSieve$Value" "bits" "J") gw19) (fun _ h9 => h9) rfl d_O_make_229 ?_
      refine lv_aload_n hx hb d_O_make_232 rfl (lv_at hl 3 rfl) ?_
      refine va_get (D := (dC, dI)) (ci := 0) (v := .long (z3.1)) (C := R_V) (T := F_V) (N := 7) hx hb hts (fun w h => List.mem_cons_of_mem _ (uw_V w h)) hown hK hP 2 rfl rfl 0 (by decide) (hG (.fieldLink R_O 36 "ValueSieve$Value" "bits" "J") gw19) (fun _ h9 => h9) rfl d_O_make_233 ?_
      refine lv_lxor hx hb d_O_make_236 ?_
      refine lv_aload_n hx hb d_O_make_237 rfl (lv_at hl 2 rfl) ?_
      refine va_get (D := (dC, dI)) (ci := 0) (v := .long (z2.2.1)) (C := R_V) (T := F_V) (N := 7) hx hb hts (fun w h => List.mem_cons_of_mem _ (uw_V w h)) hown hK hP 1 rfl rfl 1 (by decide) (hG (.fieldLink R_O 40 "ValueSieve$Value" "unknown" "J") gw22) (fun _ h9 => h9) rfl d_O_make_238 ?_
      refine lv_aload_n hx hb d_O_make_241 rfl (lv_at hl 3 rfl) ?_
      refine va_get (D := (dC, dI)) (ci := 0) (v := .long (z3.2.1)) (C := R_V) (T := F_V) (N := 7) hx hb hts (fun w h => List.mem_cons_of_mem _ (uw_V w h)) hown hK hP 2 rfl rfl 1 (by decide) (hG (.fieldLink R_O 40 "ValueSieve$Value" "unknown" "J") gw22) (fun _ h9 => h9) rfl d_O_make_242 ?_
      refine lv_lor hx hb d_O_make_245 ?_
      refine mg_v (F := f_V_sayBits g1 (z2.1 ^^^ z3.1) (z2.2.1 ||| z3.2.1)) (wc := [(h0, vE g1)]) (w1 := fun g246 => [(h0, vE g246)]) (wr := [(h2, .inr (0, [.long (z2.1), .long (z2.2.1), .long (z2.2.2.1), .long (z2.2.2.2.1), .long (z2.2.2.2.2.1), .long (z2.2.2.2.2.2.1), .int (bI z2.2.2.2.2.2.2)])), (h3, .inr (0, [.long (z3.1), .long (z3.2.1), .long (z3.2.2.1), .long (z3.2.2.2.1), .long (z3.2.2.2.2.1), .long (z3.2.2.2.2.2.1), .int (bI z3.2.2.2.2.2.2)]))]) (ws' := fun g246 => [(h0, .inr (0, [.long (g246.1), .long (g246.2.1), .long (g246.2.2.1), .long (g246.2.2.2.1), .long (g246.2.2.2.2.1), .long (g246.2.2.2.2.2.1), .int (bI g246.2.2.2.2.2.2)])), (h2, .inr (0, [.long (z2.1), .long (z2.2.1), .long (z2.2.2.1), .long (z2.2.2.2.1), .long (z2.2.2.2.2.1), .long (z2.2.2.2.2.2.1), .int (bI z2.2.2.2.2.2.2)])), (h3, .inr (0, [.long (z3.1), .long (z3.2.1), .long (z3.2.2.1), .long (z3.2.2.2.1), .long (z3.2.2.2.2.1), .long (z3.2.2.2.2.2.1), .int (bI z3.2.2.2.2.2.2)]))]) (va_runV (As := [.long (z2.1 ^^^ z3.1), .long (z2.2.1 ||| z3.2.1)]) (rest := []) ⟨hx, hb, hml, hown, hts⟩ (c_V_sayBits l dC dI h0 H.size g1 (z2.1 ^^^ z3.1) (z2.2.1 ||| z3.2.1)) (cwV 2 hts (gV gw191 gw80 gw81 gw1 gw82) rfl rfl rfl (by decide +kernel) ⟨(Nat.le_of_ble_eq_true rfl), (Nat.le_of_ble_eq_true rfl)⟩) ⟨blm, va_recv hK hP (ci := 0) (q0 := 0) rfl rfl, fun U hU hW => ⟨rfl, by rw [hU], by rw [hU]; exact hP.sub [0] rfl, va_K.moved hW.alike hK, (hD.sub [0] (by decide) rfl).weaken (fun _ _ _ _ => trivial)⟩⟩ rfl rfl hl.1 rfl (lv_room (Nat.le_of_ble_eq_true rfl)) d_O_make_246 ⟨Nat.zero_le _, Nat.zero_le _⟩) hP hD hS hA [0] [1, 2] [2, 0, 1] rfl rfl (by decide) (by decide) (fun _ => rfl) (by decide) (fun g246 eg246 H locs hP hD hS => ?_)
      refine K246g g246 (Eq.trans (hj.trans (by unfold f_O_make_1g; first | with_reducible exact (if_neg e1_64).trans ((if_neg e2_73).trans ((if_neg e3_82).trans ((if_neg e4_91).trans ((if_neg e5_100).trans ((if_neg e6_109).trans ((if_neg e7_173).trans (if_pos e8_227))))))) | exact (if_neg e1_64).trans ((if_neg e2_73).trans ((if_neg e3_82).trans ((if_neg e4_91).trans ((if_neg e5_100).trans ((if_neg e6_109).trans ((if_neg e7_173).trans (if_pos e8_227))))))))) (congrArg (fun g246 => f_O_make_246g z0 p1 z2 z3 p4 g246) eg246)) H locs ?_ ?_ hS ls (lv_sub hl [0] rfl)
      · with_reducible exact hP
      · with_reducible exact hD
    by_cases e9_252 : p1 = 8
    · refine lv_tableIn (off := 247) (tgt := 252) hx hb d_O_make_5 (by rw [e9_252]; decide) (by rw [e9_252]; decide) (by rw [e9_252]; rfl) (by decide) ?_
      refine lv_aload_n hx hb d_O_make_252 rfl (lv_at hl 0 rfl) ?_
      refine lv_iload_n hx hb d_O_make_253 rfl (lv_at hl 1 rfl) ?_
      refine lv_aload_n hx hb d_O_make_254 rfl (lv_at hl 2 rfl) ?_
      refine lv_aload_n hx hb d_O_make_255 rfl (lv_at hl 3 rfl) ?_
      refine lv_iload hx hb d_O_make_256 (lv_at hl 4 rfl) ?_
      refine mg_v (F := f_O_shift g1 p1 z2 z3 p4) (wc := [(h0, vE g1), (h2, vE z2), (h3, vE z3)]) (w1 := fun g258 => [(h0, vE g258), (h2, vE z2), (h3, vE z3)]) (wr := []) (ws' := fun g258 => [(h0, .inr (0, [.long (g258.1), .long (g258.2.1), .long (g258.2.2.1), .long (g258.2.2.2.1), .long (g258.2.2.2.2.1), .long (g258.2.2.2.2.2.1), .int (bI g258.2.2.2.2.2.2)])), (h2, .inr (0, [.long (z2.1), .long (z2.2.1), .long (z2.2.2.1), .long (z2.2.2.2.1), .long (z2.2.2.2.2.1), .long (z2.2.2.2.2.2.1), .int (bI z2.2.2.2.2.2.2)])), (h3, .inr (0, [.long (z3.1), .long (z3.2.1), .long (z3.2.2.1), .long (z3.2.2.2.1), .long (z3.2.2.2.2.1), .long (z3.2.2.2.2.2.1), .int (bI z3.2.2.2.2.2.2)]))]) (va_runS (As := [.ref h0, .int (p1), .ref h2, .ref h3, .int (p4)]) (rest := []) ⟨hx, hb, hml, hown, hts⟩ (c_O_shift l dC dI h0 h2 h3 H.size g1 p1 z2 z3 p4) (va_cwS 5 hts (gS gw248 gw249 gw4 gw250) rfl rfl rfl (by decide +kernel) ⟨(Nat.le_of_ble_eq_true rfl), (Nat.le_of_ble_eq_true rfl)⟩) ⟨blm, fun U hU hW => ⟨rfl, by rw [hU], by rw [hU]; exact hP.sub [0, 1, 2] rfl, va_K.moved hW.alike hK, (hD.sub [0, 1, 2] (by decide) rfl).weaken (fun _ _ _ _ => trivial)⟩⟩ rfl rfl hl.1 rfl (lv_room (Nat.le_of_ble_eq_true rfl)) d_O_make_258 ⟨Nat.zero_le _, Nat.zero_le _⟩) hP hD hS hA [0, 1, 2] [] [0, 1, 2] rfl rfl (by decide) (by decide) (fun _ => rfl) (by decide) (fun g258 eg258 H locs hP hD hS => ?_)
      refine K258g g258 (Eq.trans (hj.trans (by unfold f_O_make_1g; first | with_reducible exact (if_neg e1_64).trans ((if_neg e2_73).trans ((if_neg e3_82).trans ((if_neg e4_91).trans ((if_neg e5_100).trans ((if_neg e6_109).trans ((if_neg e7_173).trans ((if_neg e8_227).trans (if_pos e9_252)))))))) | exact (if_neg e1_64).trans ((if_neg e2_73).trans ((if_neg e3_82).trans ((if_neg e4_91).trans ((if_neg e5_100).trans ((if_neg e6_109).trans ((if_neg e7_173).trans ((if_neg e8_227).trans (if_pos e9_252)))))))))) (congrArg (fun g258 => f_O_make_258g z0 p1 z2 z3 p4 g258) eg258)) H locs ?_ ?_ hS ls (lv_sub hl [0] rfl)
      · with_reducible exact hP
      · with_reducible exact hD
    by_cases e10_252 : p1 = 9
    · refine lv_tableIn (off := 247) (tgt := 252) hx hb d_O_make_5 (by rw [e10_252]; decide) (by rw [e10_252]; decide) (by rw [e10_252]; rfl) (by decide) ?_
      refine lv_aload_n hx hb d_O_make_252 rfl (lv_at hl 0 rfl) ?_
      refine lv_iload_n hx hb d_O_make_253 rfl (lv_at hl 1 rfl) ?_
      refine lv_aload_n hx hb d_O_make_254 rfl (lv_at hl 2 rfl) ?_
      refine lv_aload_n hx hb d_O_make_255 rfl (lv_at hl 3 rfl) ?_
      refine lv_iload hx hb d_O_make_256 (lv_at hl 4 rfl) ?_
      refine mg_v (F := f_O_shift g1 p1 z2 z3 p4) (wc := [(h0, vE g1), (h2, vE z2), (h3, vE z3)]) (w1 := fun g258 => [(h0, vE g258), (h2, vE z2), (h3, vE z3)]) (wr := []) (ws' := fun g258 => [(h0, .inr (0, [.long (g258.1), .long (g258.2.1), .long (g258.2.2.1), .long (g258.2.2.2.1), .long (g258.2.2.2.2.1), .long (g258.2.2.2.2.2.1), .int (bI g258.2.2.2.2.2.2)])), (h2, .inr (0, [.long (z2.1), .long (z2.2.1), .long (z2.2.2.1), .long (z2.2.2.2.1), .long (z2.2.2.2.2.1), .long (z2.2.2.2.2.2.1), .int (bI z2.2.2.2.2.2.2)])), (h3, .inr (0, [.long (z3.1), .long (z3.2.1), .long (z3.2.2.1), .long (z3.2.2.2.1), .long (z3.2.2.2.2.1), .long (z3.2.2.2.2.2.1), .int (bI z3.2.2.2.2.2.2)]))]) (va_runS (As := [.ref h0, .int (p1), .ref h2, .ref h3, .int (p4)]) (rest := []) ⟨hx, hb, hml, hown, hts⟩ (c_O_shift l dC dI h0 h2 h3 H.size g1 p1 z2 z3 p4) (va_cwS 5 hts (gS gw248 gw249 gw4 gw250) rfl rfl rfl (by decide +kernel) ⟨(Nat.le_of_ble_eq_true rfl), (Nat.le_of_ble_eq_true rfl)⟩) ⟨blm, fun U hU hW => ⟨rfl, by rw [hU], by rw [hU]; exact hP.sub [0, 1, 2] rfl, va_K.moved hW.alike hK, (hD.sub [0, 1, 2] (by decide) rfl).weaken (fun _ _ _ _ => trivial)⟩⟩ rfl rfl hl.1 rfl (lv_room (Nat.le_of_ble_eq_true rfl)) d_O_make_258 ⟨Nat.zero_le _, Nat.zero_le _⟩) hP hD hS hA [0, 1, 2] [] [0, 1, 2] rfl rfl (by decide) (by decide) (fun _ => rfl) (by decide) (fun g258 eg258 H locs hP hD hS => ?_)
      refine K258g g258 (Eq.trans (hj.trans (by unfold f_O_make_1g; first | with_reducible exact (if_neg e1_64).trans ((if_neg e2_73).trans ((if_neg e3_82).trans ((if_neg e4_91).trans ((if_neg e5_100).trans ((if_neg e6_109).trans ((if_neg e7_173).trans ((if_neg e8_227).trans ((if_neg e9_252).trans (if_pos e10_252))))))))) | exact (if_neg e1_64).trans ((if_neg e2_73).trans ((if_neg e3_82).trans ((if_neg e4_91).trans ((if_neg e5_100).trans ((if_neg e6_109).trans ((if_neg e7_173).trans ((if_neg e8_227).trans ((if_neg e9_252).trans (if_pos e10_252))))))))))) (congrArg (fun g258 => f_O_make_258g z0 p1 z2 z3 p4 g258) eg258)) H locs ?_ ?_ hS ls (lv_sub hl [0] rfl)
      · with_reducible exact hP
      · with_reducible exact hD
    by_cases e11_252 : p1 = 10
    · refine lv_tableIn (off := 247) (tgt := 252) hx hb d_O_make_5 (by rw [e11_252]; decide) (by rw [e11_252]; decide) (by rw [e11_252]; rfl) (by decide) ?_
      refine lv_aload_n hx hb d_O_make_252 rfl (lv_at hl 0 rfl) ?_
      refine lv_iload_n hx hb d_O_make_253 rfl (lv_at hl 1 rfl) ?_
      refine lv_aload_n hx hb d_O_make_254 rfl (lv_at hl 2 rfl) ?_
      refine lv_aload_n hx hb d_O_make_255 rfl (lv_at hl 3 rfl) ?_
      refine lv_iload hx hb d_O_make_256 (lv_at hl 4 rfl) ?_
      refine mg_v (F := f_O_shift g1 p1 z2 z3 p4) (wc := [(h0, vE g1), (h2, vE z2), (h3, vE z3)]) (w1 := fun g258 => [(h0, vE g258), (h2, vE z2), (h3, vE z3)]) (wr := []) (ws' := fun g258 => [(h0, .inr (0, [.long (g258.1), .long (g258.2.1), .long (g258.2.2.1), .long (g258.2.2.2.1), .long (g258.2.2.2.2.1), .long (g258.2.2.2.2.2.1), .int (bI g258.2.2.2.2.2.2)])), (h2, .inr (0, [.long (z2.1), .long (z2.2.1), .long (z2.2.2.1), .long (z2.2.2.2.1), .long (z2.2.2.2.2.1), .long (z2.2.2.2.2.2.1), .int (bI z2.2.2.2.2.2.2)])), (h3, .inr (0, [.long (z3.1), .long (z3.2.1), .long (z3.2.2.1), .long (z3.2.2.2.1), .long (z3.2.2.2.2.1), .long (z3.2.2.2.2.2.1), .int (bI z3.2.2.2.2.2.2)]))]) (va_runS (As := [.ref h0, .int (p1), .ref h2, .ref h3, .int (p4)]) (rest := []) ⟨hx, hb, hml, hown, hts⟩ (c_O_shift l dC dI h0 h2 h3 H.size g1 p1 z2 z3 p4) (va_cwS 5 hts (gS gw248 gw249 gw4 gw250) rfl rfl rfl (by decide +kernel) ⟨(Nat.le_of_ble_eq_true rfl), (Nat.le_of_ble_eq_true rfl)⟩) ⟨blm, fun U hU hW => ⟨rfl, by rw [hU], by rw [hU]; exact hP.sub [0, 1, 2] rfl, va_K.moved hW.alike hK, (hD.sub [0, 1, 2] (by decide) rfl).weaken (fun _ _ _ _ => trivial)⟩⟩ rfl rfl hl.1 rfl (lv_room (Nat.le_of_ble_eq_true rfl)) d_O_make_258 ⟨Nat.zero_le _, Nat.zero_le _⟩) hP hD hS hA [0, 1, 2] [] [0, 1, 2] rfl rfl (by decide) (by decide) (fun _ => rfl) (by decide) (fun g258 eg258 H locs hP hD hS => ?_)
      refine K258g g258 (Eq.trans (hj.trans (by unfold f_O_make_1g; first | with_reducible exact (if_neg e1_64).trans ((if_neg e2_73).trans ((if_neg e3_82).trans ((if_neg e4_91).trans ((if_neg e5_100).trans ((if_neg e6_109).trans ((if_neg e7_173).trans ((if_neg e8_227).trans ((if_neg e9_252).trans ((if_neg e10_252).trans (if_pos e11_252)))))))))) | exact (if_neg e1_64).trans ((if_neg e2_73).trans ((if_neg e3_82).trans ((if_neg e4_91).trans ((if_neg e5_100).trans ((if_neg e6_109).trans ((if_neg e7_173).trans ((if_neg e8_227).trans ((if_neg e9_252).trans ((if_neg e10_252).trans (if_pos e11_252)))))))))))) (congrArg (fun g258 => f_O_make_258g z0 p1 z2 z3 p4 g258) eg258)) H locs ?_ ?_ hS ls (lv_sub hl [0] rfl)
      · with_reducible exact hP
      · with_reducible exact hD
    refine lv_tableOut (tgt := 264) hx hb d_O_make_5 (by have n0 := lv_neT (a := 0) e1_64 (by decide); have n1 := lv_neT (a := 1) e2_73 (by decide); have n2 := lv_neT (a := 2) e3_82 (by decide); have n3 := lv_neT (a := 3) e4_91 (by decide); have n4 := lv_neT (a := 4) e5_100 (by decide); have n5 := lv_neT (a := 5) e6_109 (by decide); have n6 := lv_neT (a := 6) e7_173 (by decide); have n7 := lv_neT (a := 7) e8_227 (by decide); have n8 := lv_neT (a := 8) e9_252 (by decide); have n9 := lv_neT (a := 9) e10_252 (by decide); have n10 := lv_neT (a := 10) e11_252 (by decide); omega) (by decide) ?_
    refine lv_aload_n hx hb d_O_make_264 rfl (lv_at hl 0 rfl) ?_
    refine lv_aload_n hx hb d_O_make_265 rfl (lv_at hl 3 rfl) ?_
    refine mg_v (F := f_V_take g1 z3) (wc := [(h0, vE g1), (h3, vE z3)]) (w1 := fun g266 => [(h0, vE g266), (h3, vE z3)]) (wr := [(h2, .inr (0, [.long (z2.1), .long (z2.2.1), .long (z2.2.2.1), .long (z2.2.2.2.1), .long (z2.2.2.2.2.1), .long (z2.2.2.2.2.2.1), .int (bI z2.2.2.2.2.2.2)]))]) (ws' := fun g266 => [(h0, .inr (0, [.long (g266.1), .long (g266.2.1), .long (g266.2.2.1), .long (g266.2.2.2.1), .long (g266.2.2.2.2.1), .long (g266.2.2.2.2.2.1), .int (bI g266.2.2.2.2.2.2)])), (h2, .inr (0, [.long (z2.1), .long (z2.2.1), .long (z2.2.2.1), .long (z2.2.2.2.1), .long (z2.2.2.2.2.1), .long (z2.2.2.2.2.2.1), .int (bI z2.2.2.2.2.2.2)])), (h3, .inr (0, [.long (z3.1), .long (z3.2.1), .long (z3.2.2.1), .long (z3.2.2.2.1), .long (z3.2.2.2.2.1), .long (z3.2.2.2.2.2.1), .int (bI z3.2.2.2.2.2.2)]))]) (va_runV (As := [.ref h3]) (rest := []) ⟨hx, hb, hml, hown, hts⟩ (c_V_take l dC dI h0 h3 H.size g1 z3) (cwV 1 hts (gV gw245 gw97 gw98 gw1 gw99) rfl rfl rfl (by decide +kernel) ⟨(Nat.le_of_ble_eq_true rfl), (Nat.le_of_ble_eq_true rfl)⟩) ⟨blm, va_recv hK hP (ci := 0) (q0 := 0) rfl rfl, fun U hU hW => ⟨rfl, by rw [hU], by rw [hU]; exact hP.sub [0, 2] rfl, va_K.moved hW.alike hK, (hD.sub [0, 2] (by decide) rfl).weaken (fun _ _ _ _ => trivial)⟩⟩ rfl rfl hl.1 rfl (lv_room (Nat.le_of_ble_eq_true rfl)) d_O_make_266 ⟨Nat.zero_le _, Nat.zero_le _⟩) hP hD hS hA [0, 2] [1] [1, 0, 2] rfl rfl (by decide) (by decide) (fun _ => rfl) (by decide) (fun g266 eg266 H locs hP hD hS => ?_)
    refine K266g g266 (Eq.trans (hj.trans (by unfold f_O_make_1g; first | with_reducible exact (if_neg e1_64).trans ((if_neg e2_73).trans ((if_neg e3_82).trans ((if_neg e4_91).trans ((if_neg e5_100).trans ((if_neg e6_109).trans ((if_neg e7_173).trans ((if_neg e8_227).trans ((if_neg e9_252).trans ((if_neg e10_252).trans (if_neg e11_252)))))))))) | exact (if_neg e1_64).trans ((if_neg e2_73).trans ((if_neg e3_82).trans ((if_neg e4_91).trans ((if_neg e5_100).trans ((if_neg e6_109).trans ((if_neg e7_173).trans ((if_neg e8_227).trans ((if_neg e9_252).trans ((if_neg e10_252).trans (if_neg e11_252)))))))))))) (congrArg (fun g266 => f_O_make_266g z0 p1 z2 z3 p4 g266) eg266)) H locs ?_ ?_ hS ls (lv_sub hl [0] rfl)
    · with_reducible exact hP
    · with_reducible exact hD
  refine lv_aload_n hx hb d_O_make_0 rfl (lv_at hl 0 rfl) ?_
  refine mg_v (F := f_V_sayAll z0) (wc := [(h0, vE z0)]) (w1 := fun g1 => [(h0, vE g1)]) (wr := [(h2, .inr (0, [.long (z2.1), .long (z2.2.1), .long (z2.2.2.1), .long (z2.2.2.2.1), .long (z2.2.2.2.2.1), .long (z2.2.2.2.2.2.1), .int (bI z2.2.2.2.2.2.2)])), (h3, .inr (0, [.long (z3.1), .long (z3.2.1), .long (z3.2.2.1), .long (z3.2.2.2.1), .long (z3.2.2.2.2.1), .long (z3.2.2.2.2.2.1), .int (bI z3.2.2.2.2.2.2)]))]) (ws' := fun g1 => [(h0, .inr (0, [.long (g1.1), .long (g1.2.1), .long (g1.2.2.1), .long (g1.2.2.2.1), .long (g1.2.2.2.2.1), .long (g1.2.2.2.2.2.1), .int (bI g1.2.2.2.2.2.2)])), (h2, .inr (0, [.long (z2.1), .long (z2.2.1), .long (z2.2.2.1), .long (z2.2.2.2.1), .long (z2.2.2.2.2.1), .long (z2.2.2.2.2.2.1), .int (bI z2.2.2.2.2.2.2)])), (h3, .inr (0, [.long (z3.1), .long (z3.2.1), .long (z3.2.2.1), .long (z3.2.2.2.1), .long (z3.2.2.2.2.1), .long (z3.2.2.2.2.2.1), .int (bI z3.2.2.2.2.2.2)]))]) (va_runV (As := []) (rest := []) ⟨hx, hb, hml, hown, hts⟩ (c_V_sayAll l dC dI h0 s.heap.size z0) (cwV 0 hts (gV gw187 gw75 gw76 gw1 gw77) rfl rfl rfl (by decide +kernel) ⟨(Nat.le_of_ble_eq_true rfl), (Nat.le_of_ble_eq_true rfl)⟩) ⟨blm, va_recv hK hP (ci := 0) (q0 := 0) rfl rfl, fun U hU hW => ⟨rfl, by rw [hU], by rw [hU]; exact hP.sub [0] rfl, va_K.moved hW.alike hK, (hD.sub [0] (by decide) rfl).weaken (fun _ _ _ _ => trivial)⟩⟩ rfl rfl hl.1 rfl (lv_room (Nat.le_of_ble_eq_true rfl)) d_O_make_1 ⟨Nat.zero_le _, Nat.zero_le _⟩) hP hD hS hA [0] [1, 2] [2, 0, 1] rfl rfl (by decide) (by decide) (fun _ => rfl) (by decide) (fun g1 eg1 H locs hP hD hS => ?_)
  refine K1g g1 (Eq.trans (rfl) (congrArg (fun g1 => f_O_make_1g z0 p1 z2 z3 p4 g1) eg1)) H locs ?_ ?_ hS ls (lv_sub hl [0, 1, 2, 3, 4] rfl)
  · with_reducible exact hP
  · with_reducible exact hD
