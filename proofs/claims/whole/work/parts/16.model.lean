-- left
theorem d_M_left_0 : decode b_M_left 0 = .ok (.aload_n 0, 1) := by decide +kernel
theorem d_M_left_1 : decode b_M_left 1 = .ok (.bipush 17, 2) := by decide +kernel
theorem d_M_left_3 : decode b_M_left 3 = .ok (.invokevirtual 159, 3) := by decide +kernel
theorem d_M_left_6 : decode b_M_left 6 = .ok (.ifCond .eq 176, 3) := by decide +kernel
theorem d_M_left_9 : decode b_M_left 9 = .ok (.aload_n 0, 1) := by decide +kernel
theorem d_M_left_10 : decode b_M_left 10 = .ok (.getfield 16, 3) := by decide +kernel
theorem d_M_left_13 : decode b_M_left 13 = .ok (.bipush 17, 2) := by decide +kernel
theorem d_M_left_15 : decode b_M_left 15 = .ok (.laload, 1) := by decide +kernel
theorem d_M_left_16 : decode b_M_left 16 = .ok (.l2i, 1) := by decide +kernel
theorem d_M_left_17 : decode b_M_left 17 = .ok (.iload_n 1, 1) := by decide +kernel
theorem d_M_left_18 : decode b_M_left 18 = .ok (.iand, 1) := by decide +kernel
theorem d_M_left_19 : decode b_M_left 19 = .ok (.istore_n 2, 1) := by decide +kernel
theorem d_M_left_20 : decode b_M_left 20 = .ok (.aload_n 0, 1) := by decide +kernel
theorem d_M_left_21 : decode b_M_left 21 = .ok (.getfield 7, 3) := by decide +kernel
theorem d_M_left_24 : decode b_M_left 24 = .ok (.bipush 18, 2) := by decide +kernel
theorem d_M_left_26 : decode b_M_left 26 = .ok (.aload_n 0, 1) := by decide +kernel
theorem d_M_left_27 : decode b_M_left 27 = .ok (.getfield 7, 3) := by decide +kernel
theorem d_M_left_30 : decode b_M_left 30 = .ok (.bipush 16, 2) := by decide +kernel
theorem d_M_left_32 : decode b_M_left 32 = .ok (.laload, 1) := by decide +kernel
theorem d_M_left_33 : decode b_M_left 33 = .ok (.iload_n 2, 1) := by decide +kernel
theorem d_M_left_34 : decode b_M_left 34 = .ok (.lshl, 1) := by decide +kernel
theorem d_M_left_35 : decode b_M_left 35 = .ok (.lastore, 1) := by decide +kernel
theorem d_M_left_36 : decode b_M_left 36 = .ok (.aload_n 0, 1) := by decide +kernel
theorem d_M_left_37 : decode b_M_left 37 = .ok (.getfield 13, 3) := by decide +kernel
theorem d_M_left_40 : decode b_M_left 40 = .ok (.bipush 18, 2) := by decide +kernel
theorem d_M_left_42 : decode b_M_left 42 = .ok (.aload_n 0, 1) := by decide +kernel
theorem d_M_left_43 : decode b_M_left 43 = .ok (.getfield 13, 3) := by decide +kernel
theorem d_M_left_46 : decode b_M_left 46 = .ok (.bipush 16, 2) := by decide +kernel
theorem d_M_left_48 : decode b_M_left 48 = .ok (.laload, 1) := by decide +kernel
theorem d_M_left_49 : decode b_M_left 49 = .ok (.iload_n 2, 1) := by decide +kernel
theorem d_M_left_50 : decode b_M_left 50 = .ok (.lshl, 1) := by decide +kernel
theorem d_M_left_51 : decode b_M_left 51 = .ok (.lastore, 1) := by decide +kernel
theorem d_M_left_52 : decode b_M_left 52 = .ok (.iload_n 2, 1) := by decide +kernel
theorem d_M_left_53 : decode b_M_left 53 = .ok (.ifCond .eq 20, 3) := by decide +kernel
theorem d_M_left_56 : decode b_M_left 56 = .ok (.aload_n 0, 1) := by decide +kernel
theorem d_M_left_57 : decode b_M_left 57 = .ok (.getfield 19, 3) := by decide +kernel
theorem d_M_left_60 : decode b_M_left 60 = .ok (.bipush 16, 2) := by decide +kernel
theorem d_M_left_62 : decode b_M_left 62 = .ok (.laload, 1) := by decide +kernel
theorem d_M_left_63 : decode b_M_left 63 = .ok (.bipush 64, 2) := by decide +kernel
theorem d_M_left_65 : decode b_M_left 65 = .ok (.iload_n 2, 1) := by decide +kernel
theorem d_M_left_66 : decode b_M_left 66 = .ok (.isub, 1) := by decide +kernel
theorem d_M_left_67 : decode b_M_left 67 = .ok (.lushr, 1) := by decide +kernel
theorem d_M_left_68 : decode b_M_left 68 = .ok (.lconst 0, 1) := by decide +kernel
theorem d_M_left_69 : decode b_M_left 69 = .ok (.lcmp, 1) := by decide +kernel
theorem d_M_left_70 : decode b_M_left 70 = .ok (.ifCond .ne 35, 3) := by decide +kernel
theorem d_M_left_73 : decode b_M_left 73 = .ok (.aload_n 0, 1) := by decide +kernel
theorem d_M_left_74 : decode b_M_left 74 = .ok (.getfield 16, 3) := by decide +kernel
theorem d_M_left_77 : decode b_M_left 77 = .ok (.bipush 18, 2) := by decide +kernel
theorem d_M_left_79 : decode b_M_left 79 = .ok (.aload_n 0, 1) := by decide +kernel
theorem d_M_left_80 : decode b_M_left 80 = .ok (.getfield 16, 3) := by decide +kernel
theorem d_M_left_83 : decode b_M_left 83 = .ok (.bipush 16, 2) := by decide +kernel
theorem d_M_left_85 : decode b_M_left 85 = .ok (.laload, 1) := by decide +kernel
theorem d_M_left_86 : decode b_M_left 86 = .ok (.iload_n 2, 1) := by decide +kernel
theorem d_M_left_87 : decode b_M_left 87 = .ok (.lshl, 1) := by decide +kernel
theorem d_M_left_88 : decode b_M_left 88 = .ok (.lastore, 1) := by decide +kernel
theorem d_M_left_89 : decode b_M_left 89 = .ok (.aload_n 0, 1) := by decide +kernel
theorem d_M_left_90 : decode b_M_left 90 = .ok (.getfield 19, 3) := by decide +kernel
theorem d_M_left_93 : decode b_M_left 93 = .ok (.bipush 18, 2) := by decide +kernel
theorem d_M_left_95 : decode b_M_left 95 = .ok (.aload_n 0, 1) := by decide +kernel
theorem d_M_left_96 : decode b_M_left 96 = .ok (.getfield 19, 3) := by decide +kernel
theorem d_M_left_99 : decode b_M_left 99 = .ok (.bipush 16, 2) := by decide +kernel
theorem d_M_left_101 : decode b_M_left 101 = .ok (.laload, 1) := by decide +kernel
theorem d_M_left_102 : decode b_M_left 102 = .ok (.iload_n 2, 1) := by decide +kernel
theorem d_M_left_103 : decode b_M_left 103 = .ok (.lshl, 1) := by decide +kernel
theorem d_M_left_104 : decode b_M_left 104 = .ok (.lastore, 1) := by decide +kernel
theorem d_M_left_105 : decode b_M_left 105 = .ok (.aload_n 0, 1) := by decide +kernel
theorem d_M_left_106 : decode b_M_left 106 = .ok (.getfield 22, 3) := by decide +kernel
theorem d_M_left_109 : decode b_M_left 109 = .ok (.bipush 16, 2) := by decide +kernel
theorem d_M_left_111 : decode b_M_left 111 = .ok (.laload, 1) := by decide +kernel
theorem d_M_left_112 : decode b_M_left 112 = .ok (.iload_n 2, 1) := by decide +kernel
theorem d_M_left_113 : decode b_M_left 113 = .ok (.lshl, 1) := by decide +kernel
theorem d_M_left_114 : decode b_M_left 114 = .ok (.iload_n 2, 1) := by decide +kernel
theorem d_M_left_115 : decode b_M_left 115 = .ok (.lshr, 1) := by decide +kernel
theorem d_M_left_116 : decode b_M_left 116 = .ok (.aload_n 0, 1) := by decide +kernel
theorem d_M_left_117 : decode b_M_left 117 = .ok (.getfield 22, 3) := by decide +kernel
theorem d_M_left_120 : decode b_M_left 120 = .ok (.bipush 16, 2) := by decide +kernel
theorem d_M_left_122 : decode b_M_left 122 = .ok (.laload, 1) := by decide +kernel
theorem d_M_left_123 : decode b_M_left 123 = .ok (.lcmp, 1) := by decide +kernel
theorem d_M_left_124 : decode b_M_left 124 = .ok (.ifCond .ne 57, 3) := by decide +kernel
theorem d_M_left_127 : decode b_M_left 127 = .ok (.aload_n 0, 1) := by decide +kernel
theorem d_M_left_128 : decode b_M_left 128 = .ok (.getfield 25, 3) := by decide +kernel
theorem d_M_left_131 : decode b_M_left 131 = .ok (.bipush 16, 2) := by decide +kernel
theorem d_M_left_133 : decode b_M_left 133 = .ok (.laload, 1) := by decide +kernel
theorem d_M_left_134 : decode b_M_left 134 = .ok (.iload_n 2, 1) := by decide +kernel
theorem d_M_left_135 : decode b_M_left 135 = .ok (.lshl, 1) := by decide +kernel
theorem d_M_left_136 : decode b_M_left 136 = .ok (.iload_n 2, 1) := by decide +kernel
theorem d_M_left_137 : decode b_M_left 137 = .ok (.lshr, 1) := by decide +kernel
theorem d_M_left_138 : decode b_M_left 138 = .ok (.aload_n 0, 1) := by decide +kernel
theorem d_M_left_139 : decode b_M_left 139 = .ok (.getfield 25, 3) := by decide +kernel
theorem d_M_left_142 : decode b_M_left 142 = .ok (.bipush 16, 2) := by decide +kernel
theorem d_M_left_144 : decode b_M_left 144 = .ok (.laload, 1) := by decide +kernel
theorem d_M_left_145 : decode b_M_left 145 = .ok (.lcmp, 1) := by decide +kernel
theorem d_M_left_146 : decode b_M_left 146 = .ok (.ifCond .ne 35, 3) := by decide +kernel
theorem d_M_left_149 : decode b_M_left 149 = .ok (.aload_n 0, 1) := by decide +kernel
theorem d_M_left_150 : decode b_M_left 150 = .ok (.getfield 22, 3) := by decide +kernel
theorem d_M_left_153 : decode b_M_left 153 = .ok (.bipush 18, 2) := by decide +kernel
theorem d_M_left_155 : decode b_M_left 155 = .ok (.aload_n 0, 1) := by decide +kernel
theorem d_M_left_156 : decode b_M_left 156 = .ok (.getfield 22, 3) := by decide +kernel
theorem d_M_left_159 : decode b_M_left 159 = .ok (.bipush 16, 2) := by decide +kernel
theorem d_M_left_161 : decode b_M_left 161 = .ok (.laload, 1) := by decide +kernel
theorem d_M_left_162 : decode b_M_left 162 = .ok (.iload_n 2, 1) := by decide +kernel
theorem d_M_left_163 : decode b_M_left 163 = .ok (.lshl, 1) := by decide +kernel
theorem d_M_left_164 : decode b_M_left 164 = .ok (.lastore, 1) := by decide +kernel
theorem d_M_left_165 : decode b_M_left 165 = .ok (.aload_n 0, 1) := by decide +kernel
theorem d_M_left_166 : decode b_M_left 166 = .ok (.getfield 25, 3) := by decide +kernel
theorem d_M_left_169 : decode b_M_left 169 = .ok (.bipush 18, 2) := by decide +kernel
theorem d_M_left_171 : decode b_M_left 171 = .ok (.aload_n 0, 1) := by decide +kernel
theorem d_M_left_172 : decode b_M_left 172 = .ok (.getfield 25, 3) := by decide +kernel
theorem d_M_left_175 : decode b_M_left 175 = .ok (.bipush 16, 2) := by decide +kernel
theorem d_M_left_177 : decode b_M_left 177 = .ok (.laload, 1) := by decide +kernel
theorem d_M_left_178 : decode b_M_left 178 = .ok (.iload_n 2, 1) := by decide +kernel
theorem d_M_left_179 : decode b_M_left 179 = .ok (.lshl, 1) := by decide +kernel
theorem d_M_left_180 : decode b_M_left 180 = .ok (.lastore, 1) := by decide +kernel
theorem d_M_left_181 : decode b_M_left 181 = .ok (.return_, 1) := by decide +kernel
theorem d_M_left_182 : decode b_M_left 182 = .ok (.iload_n 1, 1) := by decide +kernel
theorem d_M_left_183 : decode b_M_left 183 = .ok (.i2l, 1) := by decide +kernel
theorem d_M_left_184 : decode b_M_left 184 = .ok (.aload_n 0, 1) := by decide +kernel
theorem d_M_left_185 : decode b_M_left 185 = .ok (.getfield 19, 3) := by decide +kernel
theorem d_M_left_188 : decode b_M_left 188 = .ok (.bipush 17, 2) := by decide +kernel
theorem d_M_left_190 : decode b_M_left 190 = .ok (.laload, 1) := by decide +kernel
theorem d_M_left_191 : decode b_M_left 191 = .ok (.invokestatic 39, 3) := by decide +kernel
theorem d_M_left_194 : decode b_M_left 194 = .ok (.ifCond .eq 7, 3) := by decide +kernel
theorem d_M_left_197 : decode b_M_left 197 = .ok (.iconst 0, 1) := by decide +kernel
theorem d_M_left_198 : decode b_M_left 198 = .ok (.goto 11, 3) := by decide +kernel
theorem d_M_left_201 : decode b_M_left 201 = .ok (.aload_n 0, 1) := by decide +kernel
theorem d_M_left_202 : decode b_M_left 202 = .ok (.getfield 16, 3) := by decide +kernel
theorem d_M_left_205 : decode b_M_left 205 = .ok (.bipush 17, 2) := by decide +kernel
theorem d_M_left_207 : decode b_M_left 207 = .ok (.laload, 1) := by decide +kernel
theorem d_M_left_208 : decode b_M_left 208 = .ok (.l2i, 1) := by decide +kernel
theorem d_M_left_209 : decode b_M_left 209 = .ok (.istore_n 2, 1) := by decide +kernel
theorem d_M_left_210 : decode b_M_left 210 = .ok (.aload_n 0, 1) := by decide +kernel
theorem d_M_left_211 : decode b_M_left 211 = .ok (.aload_n 0, 1) := by decide +kernel
theorem d_M_left_212 : decode b_M_left 212 = .ok (.bipush 16, 2) := by decide +kernel
theorem d_M_left_214 : decode b_M_left 214 = .ok (.iconst 1, 1) := by decide +kernel
theorem d_M_left_215 : decode b_M_left 215 = .ok (.invokevirtual 149, 3) := by decide +kernel
theorem d_M_left_218 : decode b_M_left 218 = .ok (.iload_n 2, 1) := by decide +kernel
theorem d_M_left_219 : decode b_M_left 219 = .ok (.iadd, 1) := by decide +kernel
theorem d_M_left_220 : decode b_M_left 220 = .ok (.lconst 0, 1) := by decide +kernel
theorem d_M_left_221 : decode b_M_left 221 = .ok (.invokevirtual 153, 3) := by decide +kernel
theorem d_M_left_224 : decode b_M_left 224 = .ok (.return_, 1) := by decide +kernel
def f_M_left_221g (r0 : (Nat → VV)) (p1 : Int32) (g221 : (Nat → VV)) : (Nat → VV) := g221
def f_M_left_209 (r0 : (Nat → VV)) (p1 : Int32) (s209_0 : Int32) : (Nat → VV) := f_M_left_221g r0 p1 (f_M_knowLowest r0 ((f_M_lowest r0 16 true) + s209_0) 0)
def f_M_left_180u (r0 : (Nat → VV)) (p1 : Int32) (r180n : (Nat → VV)) : (Nat → VV) := r180n
def f_M_left_164u (r0 : (Nat → VV)) (p1 : Int32) (v19 : Int32) (r164n : (Nat → VV)) : (Nat → VV) := f_M_left_180u r0 p1 (u6 r164n 18 (((r164n 16).2.2.2.2.2.1) <<< (v19.toInt64 &&& 63)))
def f_M_left_105 (r0 : (Nat → VV)) (p1 : Int32) (v19 : Int32) (r105 : (Nat → VV)) : (Nat → VV) := (if ((((r105 16).2.2.2.2.1) <<< (v19.toInt64 &&& 63)) >>> (v19.toInt64 &&& 63)) = ((r105 16).2.2.2.2.1) then (if ((((r105 16).2.2.2.2.2.1) <<< (v19.toInt64 &&& 63)) >>> (v19.toInt64 &&& 63)) = ((r105 16).2.2.2.2.2.1) then f_M_left_164u r0 p1 v19 (u5 r105 18 (((r105 16).2.2.2.2.1) <<< (v19.toInt64 &&& 63))) else r105) else r105)
def f_M_left_104u (r0 : (Nat → VV)) (p1 : Int32) (v19 : Int32) (r104n : (Nat → VV)) : (Nat → VV) := f_M_left_105 r0 p1 v19 r104n
def f_M_left_88u (r0 : (Nat → VV)) (p1 : Int32) (v19 : Int32) (r88n : (Nat → VV)) : (Nat → VV) := f_M_left_104u r0 p1 v19 (u4 r88n 18 (((r88n 16).2.2.2.1) <<< (v19.toInt64 &&& 63)))
def f_M_left_73 (r0 : (Nat → VV)) (p1 : Int32) (v19 : Int32) (r51n : (Nat → VV)) : (Nat → VV) := f_M_left_88u r0 p1 v19 (u3 r51n 18 (((r51n 16).2.2.1) <<< (v19.toInt64 &&& 63)))
def f_M_left_51u (r0 : (Nat → VV)) (p1 : Int32) (v19 : Int32) (r51n : (Nat → VV)) : (Nat → VV) := (if v19 = 0 then f_M_left_73 r0 p1 v19 r51n else (if ((((r51n 16).2.2.2.1).toUInt64 >>> (((64 : Int32) - v19).toInt64.toUInt64 &&& Int64.toUInt64 63)).toInt64) = 0 then f_M_left_73 r0 p1 v19 r51n else f_M_left_105 r0 p1 v19 r51n))
def f_M_left_35u (r0 : (Nat → VV)) (p1 : Int32) (v19 : Int32) (r35n : (Nat → VV)) : (Nat → VV) := f_M_left_51u r0 p1 v19 (u2 r35n 18 (((r35n 16).2.1) <<< (v19.toInt64 &&& 63)))
def f_M_left_19v (r0 : (Nat → VV)) (p1 : Int32) (v19 : Int32) : (Nat → VV) := f_M_left_35u r0 p1 v19 (u1 r0 18 (((r0 16).1) <<< (v19.toInt64 &&& 63)))
def f_M_left (r0 : (Nat → VV)) (p1 : Int32) : (Nat → VV) := (if (f_M_isSingle r0 17) = true then f_M_left_19v r0 p1 ((((r0 17).2.2.1).toInt32) &&& p1) else (if (f_M_below p1.toInt64 ((r0 17).2.2.2.1)) = true then f_M_left_209 r0 p1 0 else f_M_left_209 r0 p1 (((r0 17).2.2.1).toInt32)))
set_option maxRecDepth 100000 in
set_option maxHeartbeats 4000000 in
theorem c_M_left (l : Launch) (dC : Nat → ClassId) (dI : Nat → Nat → Nat) (ad : Nat → Nat) (cJ cZ : ClassId) (sz : Nat) (c0 : Int32) (r0 : (Nat → VV)) (w0 : (Nat → Int64)) (s0 : Int32) (p1 : Int32) : Met l y_M_left w_M_left ({ frames := 1, cells := 0, slots := 0, locals := 25 } : Room) (va_Pc [.ref (ad 0), .int (p1)] (nP (dC, dI) (mT cJ cZ) (mW ad cJ cZ c0 r0 w0 s0) sz)) (va_Qv (fun _ : Unit => True) (mB (dC, dI) (va_A (mW ad cJ cZ c0 r0 w0 s0) sz) (mW ad cJ cZ c0 (f_M_left r0 p1) w0 s0)) (va_A (mW ad cJ cZ c0 r0 w0 s0) sz)) 0 0 (va_A (mW ad cJ cZ c0 r0 w0 s0) sz) := by
  refine Met.ofW (cc := b_M_left) (maxL := 3) (ret := none) (by decide) rfl ?_
  intro p e s m args below meth c s₁ B hml hv
  obtain ⟨rfl, hsz, hP, hK, hD0⟩ := hv
  have hx := B.exec
  have hb := B.bytes
  have hr := B.returns
  have hts := atoms_spec (ws := w_M_left) B.pre
  have hG : ∀ w ∈ gM, w.before _ s = true := fun w h => hts w (List.mem_cons_of_mem _ h)
  have hown : s.vm.findClass R_M = some m.cls := findClass_of_methodNamed B.named
  have hlocks := B.notSynchronized
  subst hsz
  have hD := hD0.self (sz := s.heap.size)
  generalize hAe : va_A (mW ad cJ cZ c0 r0 w0 s0) s.heap.size = A at hD ⊢
  have hA : ∀ q : Nat, s.heap.size ≤ q → A q := fun q h => by rw [← hAe]; exact Or.inr h
  have hS : va_S A s.heap s.heap [] := va_S.rf
  have hl := lv_entry ([.ref (ad 0), .int (p1)]) (n := 3) (Nat.le_of_ble_eq_true rfl)
  rw [lg_entry_eq]
  generalize (lg_sl ([.ref (ad 0), .int (p1)]) ++ List.replicate (3 - (lg_sl ([.ref (ad 0), .int (p1)])).length) Slot.unset).toArray = ls at hl ⊢
  have hl : lv_has ls 3 [(0, .ref (ad 0)), (1, .int (p1))] := hl
  have K221g : ∀ (g221 : (Nat → VV)) (hj : f_M_left r0 p1 = f_M_left_221g r0 p1 g221) (H : Heap) (locs : List Loc) (hP : va_P (dC, dI) classes (mW ad cJ cZ c0 g221 w0 s0) H) (hD : va_D A (mW ad cJ cZ c0 g221 w0 s0)) (hS : va_S A s.heap H locs) (ls : Array Slot) (hl : lv_has ls 3 []), W p l e (headSpec w_M_left ({ frames := 1, cells := 0, slots := 0, locals := 25 } : Room)).room s m ([.ref (ad 0), .int (p1)] : List Value).toArray below meth c H locs 0 0 (MQ below (va_Qv (fun _ : Unit => True) (mB (dC, dI) A (mW ad cJ cZ c0 (f_M_left r0 p1) w0 s0)) A) ([.ref (ad 0), .int (p1)] : List Value).toArray s 0 0 A) (F0 m 224 ls []) := by
    intro g221 hj H locs hP hD hS ls hl
    have fe : f_M_left r0 p1 = g221 := hj.trans rfl
    exact W.vret hx hb hr (fun t ht hW => ⟨⟨(), rfl, trivial, by rw [ht, fe]; exact hP, by rw [fe]; exact hD⟩, hS.F ht⟩) hS.2.2 d_M_left_224
  have K209 : ∀ (s209_0 : Int32) (hj : f_M_left r0 p1 = f_M_left_209 r0 p1 s209_0) (H : Heap) (locs : List Loc) (hP : va_P (dC, dI) classes (mW ad cJ cZ c0 r0 w0 s0) H) (hD : va_D A (mW ad cJ cZ c0 r0 w0 s0)) (hS : va_S A s.heap H locs) (ls : Array Slot) (hl : lv_has ls 3 [(0, .ref (ad 0))]), W p l e (headSpec w_M_left ({ frames := 1, cells := 0, slots := 0, locals := 25 } : Room)).room s m ([.ref (ad 0), .int (p1)] : List Value).toArray below meth c H locs 0 0 (MQ below (va_Qv (fun _ : Unit => True) (mB (dC, dI) A (mW ad cJ cZ c0 (f_M_left r0 p1) w0 s0)) A) ([.ref (ad 0), .int (p1)] : List Value).toArray s 0 0 A) (F0 m 209 ls [.int (s209_0)]) := by
    intro s209_0 hj H locs hP hD hS ls hl
    refine lv_istore_n (lv' := [(2, .int (s209_0)), (0, .ref (ad 0))]) hx hb d_M_left_209 rfl hl (by decide) rfl (fun ls hl => ?_)
    refine lv_aload_n hx hb d_M_left_210 rfl (lv_at hl 1 rfl) ?_
    refine lv_aload_n hx hb d_M_left_211 rfl (lv_at hl 1 rfl) ?_
    refine lv_bipush (v := 16) hx hb d_M_left_212 (by decide) ?_
    refine lv_iconst (v := 1) hx hb d_M_left_214 (by decide) ?_
    refine rc_i (W.runV (As := [.int (16), .int (1)]) (rest := [.ref (ad 0)]) ⟨hx, hb, hml, hown, hts⟩ (c_M_lowest l dC dI ad cJ cZ c0 r0 w0 s0 16 true (by decide)) (cwV 2 hts (gxV gx148 gx149 gx286 gx0 gx150) rfl rfl rfl (by decide +kernel) ⟨(Nat.le_of_ble_eq_true rfl), (Nat.le_of_ble_eq_true rfl)⟩) ⟨bln, va_recv hK hP (ci := 2) (q0 := 0) rfl rfl, fun U hU hW => ⟨rfl, by rw [hU]; exact hP, va_K.moved hW.alike hK⟩⟩ rfl rfl hl.1 rfl (lv_room (Nat.le_of_ble_eq_true rfl)) d_M_left_215 ⟨Nat.zero_le _, Nat.zero_le _⟩) ?_
    refine lv_iload_n hx hb d_M_left_218 rfl (lv_at hl 0 rfl) ?_
    refine lv_iadd hx hb d_M_left_219 ?_
    refine lv_lconst (v := 0) hx hb d_M_left_220 (by decide) ?_
    refine mm_v (F := f_M_knowLowest r0 ((f_M_lowest r0 16 true) + s209_0) 0) (w1 := fun g221 => (mW ad cJ cZ c0 g221 w0 s0)) (va_runV (As := [.int ((f_M_lowest r0 16 true) + s209_0), .long (0)]) (rest := []) ⟨hx, hb, hml, hown, hts⟩ (c_M_knowLowest l dC dI ad cJ cZ H.size c0 r0 w0 s0 ((f_M_lowest r0 16 true) + s209_0) 0) (cwV 2 hts (gxV gx151 gx152 gx287 gx0 gx153) rfl rfl rfl (by decide +kernel) ⟨(Nat.le_of_ble_eq_true rfl), (Nat.le_of_ble_eq_true rfl)⟩) ⟨blp, va_recv hK hP (ci := 2) (q0 := 0) rfl rfl, fun U hU hW => ⟨rfl, by rw [hU], by rw [hU]; exact hP, va_K.moved hW.alike hK, hD.weaken (fun _ _ _ _ => trivial)⟩⟩ rfl rfl hl.1 rfl (lv_room (Nat.le_of_ble_eq_true rfl)) d_M_left_221 ⟨Nat.zero_le _, Nat.zero_le _⟩) hD hS hA (fun g221 eg221 H locs hP hD hS => ?_)
    refine K221g g221 (Eq.trans (hj.trans rfl) (congrArg (fun g221 => f_M_left_221g r0 p1 g221) eg221)) H locs ?_ ?_ hS ls (lv_sub hl [] rfl)
    · with_reducible exact hP
    · with_reducible exact hD
  have K180u : ∀ (r180n : (Nat → VV)) (hj : f_M_left r0 p1 = f_M_left_180u r0 p1 r180n) (H : Heap) (locs : List Loc) (hP : va_P (dC, dI) classes (mW ad cJ cZ c0 r180n w0 s0) H) (hD : va_D A (mW ad cJ cZ c0 r180n w0 s0)) (hS : va_S A s.heap H locs) (ls : Array Slot) (hl : lv_has ls 3 []), W p l e (headSpec w_M_left ({ frames := 1, cells := 0, slots := 0, locals := 25 } : Room)).room s m ([.ref (ad 0), .int (p1)] : List Value).toArray below meth c H locs 0 0 (MQ below (va_Qv (fun _ : Unit => True) (mB (dC, dI) A (mW ad cJ cZ c0 (f_M_left r0 p1) w0 s0)) A) ([.ref (ad 0), .int (p1)] : List Value).toArray s 0 0 A) (F0 m 181 ls []) := by
    intro r180n hj H locs hP hD hS ls hl
    have fe : f_M_left r0 p1 = r180n := hj.trans rfl
    exact W.vret hx hb hr (fun t ht hW => ⟨⟨(), rfl, trivial, by rw [ht, fe]; exact hP, by rw [fe]; exact hD⟩, hS.F ht⟩) hS.2.2 d_M_left_181
  have K164u : ∀ (v19 : Int32) (r164n : (Nat → VV)) (hj : f_M_left r0 p1 = f_M_left_164u r0 p1 v19 r164n) (H : Heap) (locs : List Loc) (hP : va_P (dC, dI) classes (mW ad cJ cZ c0 r164n w0 s0) H) (hD : va_D A (mW ad cJ cZ c0 r164n w0 s0)) (hS : va_S A s.heap H locs) (ls : Array Slot) (hl : lv_has ls 3 [(2, .int (v19)), (0, .ref (ad 0))]), W p l e (headSpec w_M_left ({ frames := 1, cells := 0, slots := 0, locals := 25 } : Room)).room s m ([.ref (ad 0), .int (p1)] : List Value).toArray below meth c H locs 0 0 (MQ below (va_Qv (fun _ : Unit => True) (mB (dC, dI) A (mW ad cJ cZ c0 (f_M_left r0 p1) w0 s0)) A) ([.ref (ad 0), .int (p1)] : List Value).toArray s 0 0 A) (F0 m 165 ls []) := by
    intro v19 r164n hj H locs hP hD hS ls hl
    refine lv_aload_n hx hb d_M_left_165 rfl (lv_at hl 1 rfl) ?_
    refine va_get (D := (dC, dI)) (ci := 2) (v := .ref (ad 6)) (C := R_M) (T := F_M) (N := 10) hx hb hts (fun w h => List.mem_cons_of_mem _ (uw_M w h)) hown hK hP 0 rfl rfl 6 (by decide) (hG (.fieldLink R_M 25 "ValueSieveModel" "greatest" "[J") gx15) (fun _ h9 => h9) rfl d_M_left_166 ?_
    refine lv_bipush (v := 18) hx hb d_M_left_169 (by decide) ?_
    refine lv_aload_n hx hb d_M_left_171 rfl (lv_at hl 1 rfl) ?_
    refine va_get (D := (dC, dI)) (ci := 2) (v := .ref (ad 6)) (C := R_M) (T := F_M) (N := 10) hx hb hts (fun w h => List.mem_cons_of_mem _ (uw_M w h)) hown hK hP 0 rfl rfl 6 (by decide) (hG (.fieldLink R_M 25 "ValueSieveModel" "greatest" "[J") gx15) (fun _ h9 => h9) rfl d_M_left_172 ?_
    refine lv_bipush (v := 16) hx hb d_M_left_175 (by decide) ?_
    refine ml_6 (P := 16) hx hb hK hP rfl (by decide) d_M_left_177 ?_
    refine lv_iload_n hx hb d_M_left_178 rfl (lv_at hl 0 rfl) ?_
    refine lv_lshl (v := ((r164n 16).2.2.2.2.2.1) <<< (v19.toInt64 &&& 63)) hx hb d_M_left_179 rfl ?_
    refine ms_6 (P := 18) (x := ((r164n 16).2.2.2.2.2.1) <<< (v19.toInt64 &&& 63)) hx hb hK hP hD hS rfl (by decide) d_M_left_180 (fun H locs hP hD hS => ?_)
    obtain ⟨r180n, er180n⟩ : ∃ z, z = u6 r164n 18 (((r164n 16).2.2.2.2.2.1) <<< (v19.toInt64 &&& 63)) := ⟨_, rfl⟩
    rw [← er180n] at hP hD
    refine K180u r180n (Eq.trans (hj.trans rfl) (congrArg (fun r180n => f_M_left_180u r0 p1 r180n) er180n.symm)) H locs ?_ ?_ hS ls (lv_sub hl [] rfl)
    · with_reducible exact hP
    · with_reducible exact hD
  have K105 : ∀ (v19 : Int32) (r105 : (Nat → VV)) (hj : f_M_left r0 p1 = f_M_left_105 r0 p1 v19 r105) (H : Heap) (locs : List Loc) (hP : va_P (dC, dI) classes (mW ad cJ cZ c0 r105 w0 s0) H) (hD : va_D A (mW ad cJ cZ c0 r105 w0 s0)) (hS : va_S A s.heap H locs) (ls : Array Slot) (hl : lv_has ls 3 [(2, .int (v19)), (0, .ref (ad 0))]), W p l e (headSpec w_M_left ({ frames := 1, cells := 0, slots := 0, locals := 25 } : Room)).room s m ([.ref (ad 0), .int (p1)] : List Value).toArray below meth c H locs 0 0 (MQ below (va_Qv (fun _ : Unit => True) (mB (dC, dI) A (mW ad cJ cZ c0 (f_M_left r0 p1) w0 s0)) A) ([.ref (ad 0), .int (p1)] : List Value).toArray s 0 0 A) (F0 m 105 ls []) := by
    intro v19 r105 hj H locs hP hD hS ls hl
    refine lv_aload_n hx hb d_M_left_105 rfl (lv_at hl 1 rfl) ?_
    refine va_get (D := (dC, dI)) (ci := 2) (v := .ref (ad 5)) (C := R_M) (T := F_M) (N := 10) hx hb hts (fun w h => List.mem_cons_of_mem _ (uw_M w h)) hown hK hP 0 rfl rfl 5 (by decide) (hG (.fieldLink R_M 22 "ValueSieveModel" "least" "[J") gx14) (fun _ h9 => h9) rfl d_M_left_106 ?_
    refine lv_bipush (v := 16) hx hb d_M_left_109 (by decide) ?_
    refine ml_5 (P := 16) hx hb hK hP rfl (by decide) d_M_left_111 ?_
    refine lv_iload_n hx hb d_M_left_112 rfl (lv_at hl 0 rfl) ?_
    refine lv_lshl (v := ((r105 16).2.2.2.2.1) <<< (v19.toInt64 &&& 63)) hx hb d_M_left_113 rfl ?_
    refine lv_iload_n hx hb d_M_left_114 rfl (lv_at hl 0 rfl) ?_
    refine lv_lshr (v := (((r105 16).2.2.2.2.1) <<< (v19.toInt64 &&& 63)) >>> (v19.toInt64 &&& 63)) hx hb d_M_left_115 rfl ?_
    refine lv_aload_n hx hb d_M_left_116 rfl (lv_at hl 1 rfl) ?_
    refine va_get (D := (dC, dI)) (ci := 2) (v := .ref (ad 5)) (C := R_M) (T := F_M) (N := 10) hx hb hts (fun w h => List.mem_cons_of_mem _ (uw_M w h)) hown hK hP 0 rfl rfl 5 (by decide) (hG (.fieldLink R_M 22 "ValueSieveModel" "least" "[J") gx14) (fun _ h9 => h9) rfl d_M_left_117 ?_
    refine lv_bipush (v := 16) hx hb d_M_left_120 (by decide) ?_
    refine ml_5 (P := 16) hx hb hK hP rfl (by decide) d_M_left_122 ?_
    refine wl_ne (tgt := 181) hx hb d_M_left_123 d_M_left_124 (by decide) (fun e1_181 => ?_) (fun e1_181 => ?_)
    · have fe : f_M_left r0 p1 = r105 := hj.trans (by unfold f_M_left_105; first | with_reducible exact if_neg e1_181 | exact if_neg e1_181)
      exact W.vret hx hb hr (fun t ht hW => ⟨⟨(), rfl, trivial, by rw [ht, fe]; exact hP, by rw [fe]; exact hD⟩, hS.F ht⟩) hS.2.2 d_M_left_181
    · refine lv_aload_n hx hb d_M_left_127 rfl (lv_at hl 1 rfl) ?_
      refine va_get (D := (dC, dI)) (ci := 2) (v := .ref (ad 6)) (C := R_M) (T := F_M) (N := 10) hx hb hts (fun w h => List.mem_cons_of_mem _ (uw_M w h)) hown hK hP 0 rfl rfl 6 (by decide) (hG (.fieldLink R_M 25 "ValueSieveModel" "greatest" "[J") gx15) (fun _ h9 => h9) rfl d_M_left_128 ?_
      refine lv_bipush (v := 16) hx hb d_M_left_131 (by decide) ?_
      refine ml_6 (P := 16) hx hb hK hP rfl (by decide) d_M_left_133 ?_
      refine lv_iload_n hx hb d_M_left_134 rfl (lv_at hl 0 rfl) ?_
      refine lv_lshl (v := ((r105 16).2.2.2.2.2.1) <<< (v19.toInt64 &&& 63)) hx hb d_M_left_135 rfl ?_
      refine lv_iload_n hx hb d_M_left_136 rfl (lv_at hl 0 rfl) ?_
      refine lv_lshr (v := (((r105 16).2.2.2.2.2.1) <<< (v19.toInt64 &&& 63)) >>> (v19.toInt64 &&& 63)) hx hb d_M_left_137 rfl ?_
      refine lv_aload_n hx hb d_M_left_138 rfl (lv_at hl 1 rfl) ?_
      refine va_get (D := (dC, dI)) (ci := 2) (v := .ref (ad 6)) (C := R_M) (T := F_M) (N := 10) hx hb hts (fun w h => List.mem_cons_of_mem _ (uw_M w h)) hown hK hP 0 rfl rfl 6 (by decide) (hG (.fieldLink R_M 25 "ValueSieveModel" "greatest" "[J") gx15) (fun _ h9 => h9) rfl d_M_left_139 ?_
      refine lv_bipush (v := 16) hx hb d_M_left_142 (by decide) ?_
      refine ml_6 (P := 16) hx hb hK hP rfl (by decide) d_M_left_144 ?_
      refine wl_ne (tgt := 181) hx hb d_M_left_145 d_M_left_146 (by decide) (fun e2_181 => ?_) (fun e2_181 => ?_)
      · have fe : f_M_left r0 p1 = r105 := hj.trans (by unfold f_M_left_105; first | with_reducible exact (if_pos e1_181).trans (if_neg e2_181) | exact (if_pos e1_181).trans (if_neg e2_181))
        exact W.vret hx hb hr (fun t ht hW => ⟨⟨(), rfl, trivial, by rw [ht, fe]; exact hP, by rw [fe]; exact hD⟩, hS.F ht⟩) hS.2.2 d_M_left_181
      · refine lv_aload_n hx hb d_M_left_149 rfl (lv_at hl 1 rfl) ?_
        refine va_get (D := (dC, dI)) (ci := 2) (v := .ref (ad 5)) (C := R_M) (T := F_M) (N := 10) hx hb hts (fun w h => List.mem_cons_of_mem _ (uw_M w h)) hown hK hP 0 rfl rfl 5 (by decide) (hG (.fieldLink R_M 22 "ValueSieveModel" "least" "[J") gx14) (fun _ h9 => h9) rfl d_M_left_150 ?_
        refine lv_bipush (v := 18) hx hb d_M_left_153 (by decide) ?_
        refine lv_aload_n hx hb d_M_left_155 rfl (lv_at hl 1 rfl) ?_
        refine va_get (D := (dC, dI)) (ci := 2) (v := .ref (ad 5)) (C := R_M) (T := F_M) (N := 10) hx hb hts (fun w h => List.mem_cons_of_mem _ (uw_M w h)) hown hK hP 0 rfl rfl 5 (by decide) (hG (.fieldLink R_M 22 "ValueSieveModel" "least" "[J") gx14) (fun _ h9 => h9) rfl d_M_left_156 ?_
        refine lv_bipush (v := 16) hx hb d_M_left_159 (by decide) ?_
        refine ml_5 (P := 16) hx hb hK hP rfl (by decide) d_M_left_161 ?_
        refine lv_iload_n hx hb d_M_left_162 rfl (lv_at hl 0 rfl) ?_
        refine lv_lshl (v := ((r105 16).2.2.2.2.1) <<< (v19.toInt64 &&& 63)) hx hb d_M_left_163 rfl ?_
        refine ms_5 (P := 18) (x := ((r105 16).2.2.2.2.1) <<< (v19.toInt64 &&& 63)) hx hb hK hP hD hS rfl (by decide) d_M_left_164 (fun H locs hP hD hS => ?_)
        obtain ⟨r164n, er164n⟩ : ∃ z, z = u5 r105 18 (((r105 16).2.2.2.2.1) <<< (v19.toInt64 &&& 63)) := ⟨_, rfl⟩
        rw [← er164n] at hP hD
        refine K164u v19 r164n (Eq.trans (hj.trans (by unfold f_M_left_105; first | with_reducible exact (if_pos e1_181).trans (if_pos e2_181) | exact (if_pos e1_181).trans (if_pos e2_181))) (congrArg (fun r164n => f_M_left_164u r0 p1 v19 r164n) er164n.symm)) H locs ?_ ?_ hS ls (lv_sub hl [0, 1] rfl)
        · with_reducible exact hP
        · with_reducible exact hD
  have K104u : ∀ (v19 : Int32) (r104n : (Nat → VV)) (hj : f_M_left r0 p1 = f_M_left_104u r0 p1 v19 r104n) (H : Heap) (locs : List Loc) (hP : va_P (dC, dI) classes (mW ad cJ cZ c0 r104n w0 s0) H) (hD : va_D A (mW ad cJ cZ c0 r104n w0 s0)) (hS : va_S A s.heap H locs) (ls : Array Slot) (hl : lv_has ls 3 [(2, .int (v19)), (0, .ref (ad 0))]), W p l e (headSpec w_M_left ({ frames := 1, cells := 0, slots := 0, locals := 25 } : Room)).room s m ([.ref (ad 0), .int (p1)] : List Value).toArray below meth c H locs 0 0 (MQ below (va_Qv (fun _ : Unit => True) (mB (dC, dI) A (mW ad cJ cZ c0 (f_M_left r0 p1) w0 s0)) A) ([.ref (ad 0), .int (p1)] : List Value).toArray s 0 0 A) (F0 m 105 ls []) := by
    intro v19 r104n hj H locs hP hD hS ls hl
    refine K105 v19 r104n (hj.trans rfl) H locs ?_ ?_ hS ls (lv_sub hl [0, 1] rfl)
    · with_reducible exact hP
    · with_reducible exact hD
  have K88u : ∀ (v19 : Int32) (r88n : (Nat → VV)) (hj : f_M_left r0 p1 = f_M_left_88u r0 p1 v19 r88n) (H : Heap) (locs : List Loc) (hP : va_P (dC, dI) classes (mW ad cJ cZ c0 r88n w0 s0) H) (hD : va_D A (mW ad cJ cZ c0 r88n w0 s0)) (hS : va_S A s.heap H locs) (ls : Array Slot) (hl : lv_has ls 3 [(2, .int (v19)), (0, .ref (ad 0))]), W p l e (headSpec w_M_left ({ frames := 1, cells := 0, slots := 0, locals := 25 } : Room)).room s m ([.ref (ad 0), .int (p1)] : List Value).toArray below meth c H locs 0 0 (MQ below (va_Qv (fun _ : Unit => True) (mB (dC, dI) A (mW ad cJ cZ c0 (f_M_left r0 p1) w0 s0)) A) ([.ref (ad 0), .int (p1)] : List Value).toArray s 0 0 A) (F0 m 89 ls []) := by
    intro v19 r88n hj H locs hP hD hS ls hl
    refine lv_aload_n hx hb d_M_left_89 rfl (lv_at hl 1 rfl) ?_
    refine va_get (D := (dC, dI)) (ci := 2) (v := .ref (ad 4)) (C := R_M) (T := F_M) (N := 10) hx hb hts (fun w h => List.mem_cons_of_mem _ (uw_M w h)) hown hK hP 0 rfl rfl 4 (by decide) (hG (.fieldLink R_M 19 "ValueSieveModel" "high" "[J") gx13) (fun _ h9 => h9) rfl d_M_left_90 ?_
    refine lv_bipush (v := 18) hx hb d_M_left_93 (by decide) ?_
    refine lv_aload_n hx hb d_M_left_95 rfl (lv_at hl 1 rfl) ?_
    refine va_get (D := (dC, dI)) (ci := 2) (v := .ref (ad 4)) (C := R_M) (T := F_M) (N := 10) hx hb hts (fun w h => List.mem_cons_of_mem _ (uw_M w h)) hown hK hP 0 rfl rfl 4 (by decide) (hG (.fieldLink R_M 19 "ValueSieveModel" "high" "[J") gx13) (fun _ h9 => h9) rfl d_M_left_96 ?_
    refine lv_bipush (v := 16) hx hb d_M_left_99 (by decide) ?_
    refine ml_4 (P := 16) hx hb hK hP rfl (by decide) d_M_left_101 ?_
    refine lv_iload_n hx hb d_M_left_102 rfl (lv_at hl 0 rfl) ?_
    refine lv_lshl (v := ((r88n 16).2.2.2.1) <<< (v19.toInt64 &&& 63)) hx hb d_M_left_103 rfl ?_
    refine ms_4 (P := 18) (x := ((r88n 16).2.2.2.1) <<< (v19.toInt64 &&& 63)) hx hb hK hP hD hS rfl (by decide) d_M_left_104 (fun H locs hP hD hS => ?_)
    obtain ⟨r104n, er104n⟩ : ∃ z, z = u4 r88n 18 (((r88n 16).2.2.2.1) <<< (v19.toInt64 &&& 63)) := ⟨_, rfl⟩
    rw [← er104n] at hP hD
    refine K104u v19 r104n (Eq.trans (hj.trans rfl) (congrArg (fun r104n => f_M_left_104u r0 p1 v19 r104n) er104n.symm)) H locs ?_ ?_ hS ls (lv_sub hl [0, 1] rfl)
    · with_reducible exact hP
    · with_reducible exact hD
  have K73 : ∀ (v19 : Int32) (r51n : (Nat → VV)) (hj : f_M_left r0 p1 = f_M_left_73 r0 p1 v19 r51n) (H : Heap) (locs : List Loc) (hP : va_P (dC, dI) classes (mW ad cJ cZ c0 r51n w0 s0) H) (hD : va_D A (mW ad cJ cZ c0 r51n w0 s0)) (hS : va_S A s.heap H locs) (ls : Array Slot) (hl : lv_has ls 3 [(2, .int (v19)), (0, .ref (ad 0))]), W p l e (headSpec w_M_left ({ frames := 1, cells := 0, slots := 0, locals := 25 } : Room)).room s m ([.ref (ad 0), .int (p1)] : List Value).toArray below meth c H locs 0 0 (MQ below (va_Qv (fun _ : Unit => True) (mB (dC, dI) A (mW ad cJ cZ c0 (f_M_left r0 p1) w0 s0)) A) ([.ref (ad 0), .int (p1)] : List Value).toArray s 0 0 A) (F0 m 73 ls []) := by
    intro v19 r51n hj H locs hP hD hS ls hl
    refine lv_aload_n hx hb d_M_left_73 rfl (lv_at hl 1 rfl) ?_
    refine va_get (D := (dC, dI)) (ci := 2) (v := .ref (ad 3)) (C := R_M) (T := F_M) (N := 10) hx hb hts (fun w h => List.mem_cons_of_mem _ (uw_M w h)) hown hK hP 0 rfl rfl 3 (by decide) (hG (.fieldLink R_M 16 "ValueSieveModel" "low" "[J") gx12) (fun _ h9 => h9) rfl d_M_left_74 ?_
    refine lv_bipush (v := 18) hx hb d_M_left_77 (by decide) ?_
    refine lv_aload_n hx hb d_M_left_79 rfl (lv_at hl 1 rfl) ?_
    refine va_get (D := (dC, dI)) (ci := 2) (v := .ref (ad 3)) (C := R_M) (T := F_M) (N := 10) hx hb hts (fun w h => List.mem_cons_of_mem _ (uw_M w h)) hown hK hP 0 rfl rfl 3 (by decide) (hG (.fieldLink R_M 16 "ValueSieveModel" "low" "[J") gx12) (fun _ h9 => h9) rfl d_M_left_80 ?_
    refine lv_bipush (v := 16) hx hb d_M_left_83 (by decide) ?_
    refine ml_3 (P := 16) hx hb hK hP rfl (by decide) d_M_left_85 ?_
    refine lv_iload_n hx hb d_M_left_86 rfl (lv_at hl 0 rfl) ?_
    refine lv_lshl (v := ((r51n 16).2.2.1) <<< (v19.toInt64 &&& 63)) hx hb d_M_left_87 rfl ?_
    refine ms_3 (P := 18) (x := ((r51n 16).2.2.1) <<< (v19.toInt64 &&& 63)) hx hb hK hP hD hS rfl (by decide) d_M_left_88 (fun H locs hP hD hS => ?_)
    obtain ⟨r88n, er88n⟩ : ∃ z, z = u3 r51n 18 (((r51n 16).2.2.1) <<< (v19.toInt64 &&& 63)) := ⟨_, rfl⟩
    rw [← er88n] at hP hD
    refine K88u v19 r88n (Eq.trans (hj.trans rfl) (congrArg (fun r88n => f_M_left_88u r0 p1 v19 r88n) er88n.symm)) H locs ?_ ?_ hS ls (lv_sub hl [0, 1] rfl)
    · with_reducible exact hP
    · with_reducible exact hD
  have K51u : ∀ (v19 : Int32) (r51n : (Nat → VV)) (hj : f_M_left r0 p1 = f_M_left_51u r0 p1 v19 r51n) (H : Heap) (locs : List Loc) (hP : va_P (dC, dI) classes (mW ad cJ cZ c0 r51n w0 s0) H) (hD : va_D A (mW ad cJ cZ c0 r51n w0 s0)) (hS : va_S A s.heap H locs) (ls : Array Slot) (hl : lv_has ls 3 [(2, .int (v19)), (0, .ref (ad 0))]), W p l e (headSpec w_M_left ({ frames := 1, cells := 0, slots := 0, locals := 25 } : Room)).room s m ([.ref (ad 0), .int (p1)] : List Value).toArray below meth c H locs 0 0 (MQ below (va_Qv (fun _ : Unit => True) (mB (dC, dI) A (mW ad cJ cZ c0 (f_M_left r0 p1) w0 s0)) A) ([.ref (ad 0), .int (p1)] : List Value).toArray s 0 0 A) (F0 m 52 ls []) := by
    intro v19 r51n hj H locs hP hD hS ls hl
    refine lv_iload_n hx hb d_M_left_52 rfl (lv_at hl 0 rfl) ?_
    refine lv_if_eq (tgt := 73) hx hb d_M_left_53 (by decide) (fun e1_73 => ?_) (fun e1_73 => ?_)
    · refine K73 v19 r51n (hj.trans (by unfold f_M_left_51u; first | with_reducible exact if_pos e1_73 | exact if_pos e1_73)) H locs ?_ ?_ hS ls (lv_sub hl [0, 1] rfl)
      · with_reducible exact hP
      · with_reducible exact hD
    · refine lv_aload_n hx hb d_M_left_56 rfl (lv_at hl 1 rfl) ?_
      refine va_get (D := (dC, dI)) (ci := 2) (v := .ref (ad 4)) (C := R_M) (T := F_M) (N := 10) hx hb hts (fun w h => List.mem_cons_of_mem _ (uw_M w h)) hown hK hP 0 rfl rfl 4 (by decide) (hG (.fieldLink R_M 19 "ValueSieveModel" "high" "[J") gx13) (fun _ h9 => h9) rfl d_M_left_57 ?_
      refine lv_bipush (v := 16) hx hb d_M_left_60 (by decide) ?_
      refine ml_4 (P := 16) hx hb hK hP rfl (by decide) d_M_left_62 ?_
      refine lv_bipush (v := 64) hx hb d_M_left_63 (by decide) ?_
      refine lv_iload_n hx hb d_M_left_65 rfl (lv_at hl 0 rfl) ?_
      refine lv_isub hx hb d_M_left_66 ?_
      refine lv_lushr (v := (((r51n 16).2.2.2.1).toUInt64 >>> (((64 : Int32) - v19).toInt64.toUInt64 &&& Int64.toUInt64 63)).toInt64) hx hb d_M_left_67 rfl ?_
      refine lv_lconst (v := 0) hx hb d_M_left_68 (by decide) ?_
      refine wl_ne (tgt := 105) hx hb d_M_left_69 d_M_left_70 (by decide) (fun e2_105 => ?_) (fun e2_105 => ?_)
      · refine K105 v19 r51n (hj.trans (by unfold f_M_left_51u; first | with_reducible exact (if_neg e1_73).trans (if_neg e2_105) | exact (if_neg e1_73).trans (if_neg e2_105))) H locs ?_ ?_ hS ls (lv_sub hl [0, 1] rfl)
        · with_reducible exact hP
        · with_reducible exact hD
      · refine K73 v19 r51n (hj.trans (by unfold f_M_left_51u; first | with_reducible exact (if_neg e1_73).trans (if_pos e2_105) | exact (if_neg e1_73).trans (if_pos e2_105))) H locs ?_ ?_ hS ls (lv_sub hl [0, 1] rfl)
        · with_reducible exact hP
        · with_reducible exact hD
  have K35u : ∀ (v19 : Int32) (r35n : (Nat → VV)) (hj : f_M_left r0 p1 = f_M_left_35u r0 p1 v19 r35n) (H : Heap) (locs : List Loc) (hP : va_P (dC, dI) classes (mW ad cJ cZ c0 r35n w0 s0) H) (hD : va_D A (mW ad cJ cZ c0 r35n w0 s0)) (hS : va_S A s.heap H locs) (ls : Array Slot) (hl : lv_has ls 3 [(2, .int (v19)), (0, .ref (ad 0))]), W p l e (headSpec w_M_left ({ frames := 1, cells := 0, slots := 0, locals := 25 } : Room)).room s m ([.ref (ad 0), .int (p1)] : List Value).toArray below meth c H locs 0 0 (MQ below (va_Qv (fun _ : Unit => True) (mB (dC, dI) A (mW ad cJ cZ c0 (f_M_left r0 p1) w0 s0)) A) ([.ref (ad 0), .int (p1)] : List Value).toArray s 0 0 A) (F0 m 36 ls []) := by
    intro v19 r35n hj H locs hP hD hS ls hl
    refine lv_aload_n hx hb d_M_left_36 rfl (lv_at hl 1 rfl) ?_
    refine va_get (D := (dC, dI)) (ci := 2) (v := .ref (ad 2)) (C := R_M) (T := F_M) (N := 10) hx hb hts (fun w h => List.mem_cons_of_mem _ (uw_M w h)) hown hK hP 0 rfl rfl 2 (by decide) (hG (.fieldLink R_M 13 "ValueSieveModel" "open" "[J") gx11) (fun _ h9 => h9) rfl d_M_left_37 ?_
    refine lv_bipush (v := 18) hx hb d_M_left_40 (by decide) ?_
    refine lv_aload_n hx hb d_M_left_42 rfl (lv_at hl 1 rfl) ?_
    refine va_get (D := (dC, dI)) (ci := 2) (v := .ref (ad 2)) (C := R_M) (T := F_M) (N := 10) hx hb hts (fun w h => List.mem_cons_of_mem _ (uw_M w h)) hown hK hP 0 rfl rfl 2 (by decide) (hG (.fieldLink R_M 13 "ValueSieveModel" "open" "[J") gx11) (fun _ h9 => h9) rfl d_M_left_43 ?_
    refine lv_bipush (v := 16) hx hb d_M_left_46 (by decide) ?_
    refine ml_2 (P := 16) hx hb hK hP rfl (by decide) d_M_left_48 ?_
    refine lv_iload_n hx hb d_M_left_49 rfl (lv_at hl 0 rfl) ?_
    refine lv_lshl (v := ((r35n 16).2.1) <<< (v19.toInt64 &&& 63)) hx hb d_M_left_50 rfl ?_
    refine ms_2 (P := 18) (x := ((r35n 16).2.1) <<< (v19.toInt64 &&& 63)) hx hb hK hP hD hS rfl (by decide) d_M_left_51 (fun H locs hP hD hS => ?_)
    obtain ⟨r51n, er51n⟩ : ∃ z, z = u2 r35n 18 (((r35n 16).2.1) <<< (v19.toInt64 &&& 63)) := ⟨_, rfl⟩
    rw [← er51n] at hP hD
    refine K51u v19 r51n (Eq.trans (hj.trans rfl) (congrArg (fun r51n => f_M_left_51u r0 p1 v19 r51n) er51n.symm)) H locs ?_ ?_ hS ls (lv_sub hl [0, 1] rfl)
    · with_reducible exact hP
    · with_reducible exact hD
  have K19v : ∀ (v19 : Int32) (hj : f_M_left r0 p1 = f_M_left_19v r0 p1 v19) (H : Heap) (locs : List Loc) (hP : va_P (dC, dI) classes (mW ad cJ cZ c0 r0 w0 s0) H) (hD : va_D A (mW ad cJ cZ c0 r0 w0 s0)) (hS : va_S A s.heap H locs) (ls : Array Slot) (hl : lv_has ls 3 [(2, .int (v19)), (0, .ref (ad 0))]), W p l e (headSpec w_M_left ({ frames := 1, cells := 0, slots := 0, locals := 25 } : Room)).room s m ([.ref (ad 0), .int (p1)] : List Value).toArray below meth c H locs 0 0 (MQ below (va_Qv (fun _ : Unit => True) (mB (dC, dI) A (mW ad cJ cZ c0 (f_M_left r0 p1) w0 s0)) A) ([.ref (ad 0), .int (p1)] : List Value).toArray s 0 0 A) (F0 m 20 ls []) := by
    intro v19 hj H locs hP hD hS ls hl
    refine lv_aload_n hx hb d_M_left_20 rfl (lv_at hl 1 rfl) ?_
    refine va_get (D := (dC, dI)) (ci := 2) (v := .ref (ad 1)) (C := R_M) (T := F_M) (N := 10) hx hb hts (fun w h => List.mem_cons_of_mem _ (uw_M w h)) hown hK hP 0 rfl rfl 1 (by decide) (hG (.fieldLink R_M 7 "ValueSieveModel" "bits" "[J") gx10) (fun _ h9 => h9) rfl d_M_left_21 ?_
    refine lv_bipush (v := 18) hx hb d_M_left_24 (by decide) ?_
    refine lv_aload_n hx hb d_M_left_26 rfl (lv_at hl 1 rfl) ?_
    refine va_get (D := (dC, dI)) (ci := 2) (v := .ref (ad 1)) (C := R_M) (T := F_M) (N := 10) hx hb hts (fun w h => List.mem_cons_of_mem _ (uw_M w h)) hown hK hP 0 rfl rfl 1 (by decide) (hG (.fieldLink R_M 7 "ValueSieveModel" "bits" "[J") gx10) (fun _ h9 => h9) rfl d_M_left_27 ?_
    refine lv_bipush (v := 16) hx hb d_M_left_30 (by decide) ?_
    refine ml_1 (P := 16) hx hb hK hP rfl (by decide) d_M_left_32 ?_
    refine lv_iload_n hx hb d_M_left_33 rfl (lv_at hl 0 rfl) ?_
    refine lv_lshl (v := ((r0 16).1) <<< (v19.toInt64 &&& 63)) hx hb d_M_left_34 rfl ?_
    refine ms_1 (P := 18) (x := ((r0 16).1) <<< (v19.toInt64 &&& 63)) hx hb hK hP hD hS rfl (by decide) d_M_left_35 (fun H locs hP hD hS => ?_)
    obtain ⟨r35n, er35n⟩ : ∃ z, z = u1 r0 18 (((r0 16).1) <<< (v19.toInt64 &&& 63)) := ⟨_, rfl⟩
    rw [← er35n] at hP hD
    refine K35u v19 r35n (Eq.trans (hj.trans rfl) (congrArg (fun r35n => f_M_left_35u r0 p1 v19 r35n) er35n.symm)) H locs ?_ ?_ hS ls (lv_sub hl [0, 1] rfl)
    · with_reducible exact hP
    · with_reducible exact hD
  refine lv_aload_n hx hb d_M_left_0 rfl (lv_at hl 0 rfl) ?_
  refine lv_bipush (v := 17) hx hb d_M_left_1 (by decide) ?_
  refine rc_i (W.runV (As := [.int (17)]) (rest := []) ⟨hx, hb, hml, hown, hts⟩ (c_M_isSingle l dC dI ad cJ cZ c0 r0 w0 s0 17 (by decide)) (cwV 1 hts (gxV gx182 gx183 gx270 gx0 gx184) rfl rfl rfl (by decide +kernel) ⟨(Nat.le_of_ble_eq_true rfl), (Nat.le_of_ble_eq_true rfl)⟩) ⟨bln, va_recv hK hP (ci := 2) (q0 := 0) rfl rfl, fun U hU hW => ⟨rfl, by rw [hU]; exact hP, va_K.moved hW.alike hK⟩⟩ rfl rfl hl.1 rfl (lv_room (Nat.le_of_ble_eq_true rfl)) d_M_left_3 ⟨Nat.zero_le _, Nat.zero_le _⟩) ?_
  refine wz_eq (tgt := 182) hx hb d_M_left_6 (by decide) (fun e1_182 => ?_) (fun e1_182 => ?_)
  · refine lv_iload_n hx hb d_M_left_182 rfl (lv_at hl 1 rfl) ?_
    refine lv_i2l (v := p1.toInt64) hx hb d_M_left_183 rfl ?_
    refine lv_aload_n hx hb d_M_left_184 rfl (lv_at hl 0 rfl) ?_
    refine va_get (D := (dC, dI)) (ci := 2) (v := .ref (ad 4)) (C := R_M) (T := F_M) (N := 10) hx hb hts (fun w h => List.mem_cons_of_mem _ (uw_M w h)) hown hK hP 0 rfl rfl 4 (by decide) (hG (.fieldLink R_M 19 "ValueSieveModel" "high" "[J") gx13) (fun _ h9 => h9) rfl d_M_left_185 ?_
    refine lv_bipush (v := 17) hx hb d_M_left_188 (by decide) ?_
    refine ml_4 (P := 17) hx hb hK hP rfl (by decide) d_M_left_190 ?_
    refine rc_i (W.runS (As := [.long (p1.toInt64), .long ((r0 17).2.2.2.1)]) (rest := []) ⟨hx, hb, hml, hown, hts⟩ (c_M_below l p1.toInt64 ((r0 17).2.2.2.1)) (va_cwS 2 hts (gxS gx57 gx58 gx0 gx59) rfl rfl rfl (by decide +kernel) ⟨(Nat.le_of_ble_eq_true rfl), (Nat.le_of_ble_eq_true rfl)⟩) ⟨bl0, fun U hU hW => ⟨rfl, trivial⟩⟩ rfl rfl hl.1 rfl (lv_room (Nat.le_of_ble_eq_true rfl)) d_M_left_191 ⟨Nat.zero_le _, Nat.zero_le _⟩) ?_
    refine wz_eq (tgt := 201) hx hb d_M_left_194 (by decide) (fun e2_201 => ?_) (fun e2_201 => ?_)
    · refine lv_aload_n hx hb d_M_left_201 rfl (lv_at hl 0 rfl) ?_
      refine va_get (D := (dC, dI)) (ci := 2) (v := .ref (ad 3)) (C := R_M) (T := F_M) (N := 10) hx hb hts (fun w h => List.mem_cons_of_mem _ (uw_M w h)) hown hK hP 0 rfl rfl 3 (by decide) (hG (.fieldLink R_M 16 "ValueSieveModel" "low" "[J") gx12) (fun _ h9 => h9) rfl d_M_left_202 ?_
      refine lv_bipush (v := 17) hx hb d_M_left_205 (by decide) ?_
      refine ml_3 (P := 17) hx hb hK hP rfl (by decide) d_M_left_207 ?_
      refine lv_l2i (v := ((r0 17).2.2.1).toInt32) hx hb d_M_left_208 rfl ?_
      refine K209 (((r0 17).2.2.1).toInt32) (by unfold f_M_left; first | with_reducible exact (if_neg e1_182).trans (if_neg e2_201) | exact (if_neg e1_182).trans (if_neg e2_201)) s.heap [] ?_ ?_ hS ls (lv_sub hl [0] rfl)
      · with_reducible exact hP
      · with_reducible exact hD
    · refine lv_iconst (v := 0) hx hb d_M_left_197 (by decide) ?_
      refine lv_goto (tgt := 209) hx hb d_M_left_198 (by decide) ?_
      refine K209 0 (by unfold f_M_left; first | with_reducible exact (if_neg e1_182).trans (if_pos e2_201) | exact (if_neg e1_182).trans (if_pos e2_201)) s.heap [] ?_ ?_ hS ls (lv_sub hl [0] rfl)
      · with_reducible exact hP
      · with_reducible exact hD
  · refine lv_aload_n hx hb d_M_left_9 rfl (lv_at hl 0 rfl) ?_
    refine va_get (D := (dC, dI)) (ci := 2) (v := .ref (ad 3)) (C := R_M) (T := F_M) (N := 10) hx hb hts (fun w h => List.mem_cons_of_mem _ (uw_M w h)) hown hK hP 0 rfl rfl 3 (by decide) (hG (.fieldLink R_M 16 "ValueSieveModel" "low" "[J") gx12) (fun _ h9 => h9) rfl d_M_left_10 ?_
    refine lv_bipush (v := 17) hx hb d_M_left_13 (by decide) ?_
    refine ml_3 (P := 17) hx hb hK hP rfl (by decide) d_M_left_15 ?_
    refine lv_l2i (v := ((r0 17).2.2.1).toInt32) hx hb d_M_left_16 rfl ?_
    refine lv_iload_n hx hb d_M_left_17 rfl (lv_at hl 1 rfl) ?_
    refine lv_iand hx hb d_M_left_18 ?_
    refine lv_topi (fun v19 ev19 => ?_)
    refine lv_istore_n (lv' := [(2, .int (v19)), (0, .ref (ad 0)), (1, .int (p1))]) hx hb d_M_left_19 rfl hl (by decide) rfl (fun ls hl => ?_)
    refine K19v v19 (Eq.trans (by unfold f_M_left; first | with_reducible exact if_pos e1_182 | exact if_pos e1_182) (congrArg (fun v19 => f_M_left_19v r0 p1 v19) ev19.symm)) s.heap [] ?_ ?_ hS ls (lv_sub hl [0, 1] rfl)
    · with_reducible exact hP
    · with_reducible exact hD
-- right
theorem d_M_right_0 : decode b_M_right 0 = .ok (.aload_n 0, 1) := by decide +kernel
theorem d_M_right_1 : decode b_M_right 1 = .ok (.bipush 17, 2) := by decide +kernel
theorem d_M_right_3 : decode b_M_right 3 = .ok (.invokevirtual 159, 3) := by decide +kernel
theorem d_M_right_6 : decode b_M_right 6 = .ok (.ifCond .eq 79, 3) := by decide +kernel
theorem d_M_right_9 : decode b_M_right 9 = .ok (.aload_n 0, 1) := by decide +kernel
theorem d_M_right_10 : decode b_M_right 10 = .ok (.getfield 16, 3) := by decide +kernel
theorem d_M_right_13 : decode b_M_right 13 = .ok (.bipush 17, 2) := by decide +kernel
theorem d_M_right_15 : decode b_M_right 15 = .ok (.laload, 1) := by decide +kernel
theorem d_M_right_16 : decode b_M_right 16 = .ok (.l2i, 1) := by decide +kernel
theorem d_M_right_17 : decode b_M_right 17 = .ok (.iload_n 1, 1) := by decide +kernel
theorem d_M_right_18 : decode b_M_right 18 = .ok (.iand, 1) := by decide +kernel
theorem d_M_right_19 : decode b_M_right 19 = .ok (.istore_n 2, 1) := by decide +kernel
theorem d_M_right_20 : decode b_M_right 20 = .ok (.aload_n 0, 1) := by decide +kernel
theorem d_M_right_21 : decode b_M_right 21 = .ok (.getfield 7, 3) := by decide +kernel
theorem d_M_right_24 : decode b_M_right 24 = .ok (.bipush 18, 2) := by decide +kernel
theorem d_M_right_26 : decode b_M_right 26 = .ok (.aload_n 0, 1) := by decide +kernel
theorem d_M_right_27 : decode b_M_right 27 = .ok (.getfield 7, 3) := by decide +kernel
theorem d_M_right_30 : decode b_M_right 30 = .ok (.bipush 16, 2) := by decide +kernel
theorem d_M_right_32 : decode b_M_right 32 = .ok (.laload, 1) := by decide +kernel
theorem d_M_right_33 : decode b_M_right 33 = .ok (.iload_n 2, 1) := by decide +kernel
theorem d_M_right_34 : decode b_M_right 34 = .ok (.lushr, 1) := by decide +kernel
theorem d_M_right_35 : decode b_M_right 35 = .ok (.lastore, 1) := by decide +kernel
theorem d_M_right_36 : decode b_M_right 36 = .ok (.aload_n 0, 1) := by decide +kernel
theorem d_M_right_37 : decode b_M_right 37 = .ok (.getfield 13, 3) := by decide +kernel
theorem d_M_right_40 : decode b_M_right 40 = .ok (.bipush 18, 2) := by decide +kernel
theorem d_M_right_42 : decode b_M_right 42 = .ok (.aload_n 0, 1) := by decide +kernel
theorem d_M_right_43 : decode b_M_right 43 = .ok (.getfield 13, 3) := by decide +kernel
theorem d_M_right_46 : decode b_M_right 46 = .ok (.bipush 16, 2) := by decide +kernel
theorem d_M_right_48 : decode b_M_right 48 = .ok (.laload, 1) := by decide +kernel
theorem d_M_right_49 : decode b_M_right 49 = .ok (.iload_n 2, 1) := by decide +kernel
theorem d_M_right_50 : decode b_M_right 50 = .ok (.lushr, 1) := by decide +kernel
theorem d_M_right_51 : decode b_M_right 51 = .ok (.lastore, 1) := by decide +kernel
theorem d_M_right_52 : decode b_M_right 52 = .ok (.aload_n 0, 1) := by decide +kernel
theorem d_M_right_53 : decode b_M_right 53 = .ok (.getfield 16, 3) := by decide +kernel
theorem d_M_right_56 : decode b_M_right 56 = .ok (.bipush 18, 2) := by decide +kernel
theorem d_M_right_58 : decode b_M_right 58 = .ok (.aload_n 0, 1) := by decide +kernel
theorem d_M_right_59 : decode b_M_right 59 = .ok (.getfield 16, 3) := by decide +kernel
theorem d_M_right_62 : decode b_M_right 62 = .ok (.bipush 16, 2) := by decide +kernel
theorem d_M_right_64 : decode b_M_right 64 = .ok (.laload, 1) := by decide +kernel
theorem d_M_right_65 : decode b_M_right 65 = .ok (.iload_n 2, 1) := by decide +kernel
theorem d_M_right_66 : decode b_M_right 66 = .ok (.lushr, 1) := by decide +kernel
theorem d_M_right_67 : decode b_M_right 67 = .ok (.lastore, 1) := by decide +kernel
theorem d_M_right_68 : decode b_M_right 68 = .ok (.aload_n 0, 1) := by decide +kernel
theorem d_M_right_69 : decode b_M_right 69 = .ok (.getfield 19, 3) := by decide +kernel
theorem d_M_right_72 : decode b_M_right 72 = .ok (.bipush 18, 2) := by decide +kernel
theorem d_M_right_74 : decode b_M_right 74 = .ok (.aload_n 0, 1) := by decide +kernel
theorem d_M_right_75 : decode b_M_right 75 = .ok (.getfield 19, 3) := by decide +kernel
theorem d_M_right_78 : decode b_M_right 78 = .ok (.bipush 16, 2) := by decide +kernel
theorem d_M_right_80 : decode b_M_right 80 = .ok (.laload, 1) := by decide +kernel
theorem d_M_right_81 : decode b_M_right 81 = .ok (.iload_n 2, 1) := by decide +kernel
theorem d_M_right_82 : decode b_M_right 82 = .ok (.lushr, 1) := by decide +kernel
theorem d_M_right_83 : decode b_M_right 83 = .ok (.lastore, 1) := by decide +kernel
theorem d_M_right_84 : decode b_M_right 84 = .ok (.return_, 1) := by decide +kernel
theorem d_M_right_85 : decode b_M_right 85 = .ok (.iload_n 1, 1) := by decide +kernel
theorem d_M_right_86 : decode b_M_right 86 = .ok (.i2l, 1) := by decide +kernel
theorem d_M_right_87 : decode b_M_right 87 = .ok (.aload_n 0, 1) := by decide +kernel
theorem d_M_right_88 : decode b_M_right 88 = .ok (.getfield 19, 3) := by decide +kernel
theorem d_M_right_91 : decode b_M_right 91 = .ok (.bipush 17, 2) := by decide +kernel
theorem d_M_right_93 : decode b_M_right 93 = .ok (.laload, 1) := by decide +kernel
theorem d_M_right_94 : decode b_M_right 94 = .ok (.invokestatic 39, 3) := by decide +kernel
theorem d_M_right_97 : decode b_M_right 97 = .ok (.ifCond .ne 7, 3) := by decide +kernel
theorem d_M_right_100 : decode b_M_right 100 = .ok (.iconst 1, 1) := by decide +kernel
theorem d_M_right_101 : decode b_M_right 101 = .ok (.goto 4, 3) := by decide +kernel
theorem d_M_right_104 : decode b_M_right 104 = .ok (.iconst 0, 1) := by decide +kernel
theorem d_M_right_105 : decode b_M_right 105 = .ok (.istore_n 2, 1) := by decide +kernel
theorem d_M_right_106 : decode b_M_right 106 = .ok (.aload_n 0, 1) := by decide +kernel
theorem d_M_right_107 : decode b_M_right 107 = .ok (.getfield 16, 3) := by decide +kernel
theorem d_M_right_110 : decode b_M_right 110 = .ok (.bipush 18, 2) := by decide +kernel
theorem d_M_right_112 : decode b_M_right 112 = .ok (.aload_n 0, 1) := by decide +kernel
theorem d_M_right_113 : decode b_M_right 113 = .ok (.getfield 16, 3) := by decide +kernel
theorem d_M_right_116 : decode b_M_right 116 = .ok (.bipush 16, 2) := by decide +kernel
theorem d_M_right_118 : decode b_M_right 118 = .ok (.laload, 1) := by decide +kernel
theorem d_M_right_119 : decode b_M_right 119 = .ok (.iload_n 2, 1) := by decide +kernel
theorem d_M_right_120 : decode b_M_right 120 = .ok (.ifCond .eq 14, 3) := by decide +kernel
theorem d_M_right_123 : decode b_M_right 123 = .ok (.aload_n 0, 1) := by decide +kernel
theorem d_M_right_124 : decode b_M_right 124 = .ok (.getfield 19, 3) := by decide +kernel
theorem d_M_right_127 : decode b_M_right 127 = .ok (.bipush 17, 2) := by decide +kernel
theorem d_M_right_129 : decode b_M_right 129 = .ok (.laload, 1) := by decide +kernel
theorem d_M_right_130 : decode b_M_right 130 = .ok (.l2i, 1) := by decide +kernel
theorem d_M_right_131 : decode b_M_right 131 = .ok (.goto 4, 3) := by decide +kernel
theorem d_M_right_134 : decode b_M_right 134 = .ok (.iload_n 1, 1) := by decide +kernel
theorem d_M_right_135 : decode b_M_right 135 = .ok (.lushr, 1) := by decide +kernel
theorem d_M_right_136 : decode b_M_right 136 = .ok (.lastore, 1) := by decide +kernel
theorem d_M_right_137 : decode b_M_right 137 = .ok (.aload_n 0, 1) := by decide +kernel
theorem d_M_right_138 : decode b_M_right 138 = .ok (.getfield 19, 3) := by decide +kernel
theorem d_M_right_141 : decode b_M_right 141 = .ok (.bipush 18, 2) := by decide +kernel
theorem d_M_right_143 : decode b_M_right 143 = .ok (.aload_n 0, 1) := by decide +kernel
theorem d_M_right_144 : decode b_M_right 144 = .ok (.getfield 19, 3) := by decide +kernel
theorem d_M_right_147 : decode b_M_right 147 = .ok (.bipush 16, 2) := by decide +kernel
theorem d_M_right_149 : decode b_M_right 149 = .ok (.laload, 1) := by decide +kernel
theorem d_M_right_150 : decode b_M_right 150 = .ok (.iload_n 2, 1) := by decide +kernel
theorem d_M_right_151 : decode b_M_right 151 = .ok (.ifCond .eq 14, 3) := by decide +kernel
theorem d_M_right_154 : decode b_M_right 154 = .ok (.aload_n 0, 1) := by decide +kernel
theorem d_M_right_155 : decode b_M_right 155 = .ok (.getfield 16, 3) := by decide +kernel
theorem d_M_right_158 : decode b_M_right 158 = .ok (.bipush 17, 2) := by decide +kernel
theorem d_M_right_160 : decode b_M_right 160 = .ok (.laload, 1) := by decide +kernel
theorem d_M_right_161 : decode b_M_right 161 = .ok (.l2i, 1) := by decide +kernel
theorem d_M_right_162 : decode b_M_right 162 = .ok (.goto 4, 3) := by decide +kernel
theorem d_M_right_165 : decode b_M_right 165 = .ok (.iconst 0, 1) := by decide +kernel
theorem d_M_right_166 : decode b_M_right 166 = .ok (.lushr, 1) := by decide +kernel
theorem d_M_right_167 : decode b_M_right 167 = .ok (.lastore, 1) := by decide +kernel
theorem d_M_right_168 : decode b_M_right 168 = .ok (.return_, 1) := by decide +kernel
def f_M_right_167u (r0 : (Nat → VV)) (p1 : Int32) (r167n : (Nat → VV)) : (Nat → VV) := r167n
def f_M_right_166 (r0 : (Nat → VV)) (p1 : Int32) (s166_0 : Int32) (s166_1 : Int64) (r136n : (Nat → VV)) : (Nat → VV) := f_M_right_167u r0 p1 (u4 r136n 18 ((s166_1.toUInt64 >>> (s166_0.toInt64.toUInt64 &&& Int64.toUInt64 63)).toInt64))
def f_M_right_136u (r0 : (Nat → VV)) (p1 : Int32) (s105_0 : Bool) (r136n : (Nat → VV)) : (Nat → VV) := (if s105_0 = true then f_M_right_166 r0 p1 (((r136n 17).2.2.1).toInt32) ((r136n 16).2.2.2.1) r136n else f_M_right_166 r0 p1 0 ((r136n 16).2.2.2.1) r136n)
def f_M_right_135 (r0 : (Nat → VV)) (p1 : Int32) (s105_0 : Bool) (s135_0 : Int32) (s135_1 : Int64) : (Nat → VV) := f_M_right_136u r0 p1 s105_0 (u3 r0 18 ((s135_1.toUInt64 >>> (s135_0.toInt64.toUInt64 &&& Int64.toUInt64 63)).toInt64))
def f_M_right_105 (r0 : (Nat → VV)) (p1 : Int32) (s105_0 : Bool) : (Nat → VV) := (if s105_0 = true then f_M_right_135 r0 p1 s105_0 (((r0 17).2.2.2.1).toInt32) ((r0 16).2.2.1) else f_M_right_135 r0 p1 s105_0 p1 ((r0 16).2.2.1))
def f_M_right_83u (r0 : (Nat → VV)) (p1 : Int32) (r83n : (Nat → VV)) : (Nat → VV) := r83n
def f_M_right_67u (r0 : (Nat → VV)) (p1 : Int32) (v19 : Int32) (r67n : (Nat → VV)) : (Nat → VV) := f_M_right_83u r0 p1 (u4 r67n 18 ((((r67n 16).2.2.2.1).toUInt64 >>> (v19.toInt64.toUInt64 &&& Int64.toUInt64 63)).toInt64))
def f_M_right_51u (r0 : (Nat → VV)) (p1 : Int32) (v19 : Int32) (r51n : (Nat → VV)) : (Nat → VV) := f_M_right_67u r0 p1 v19 (u3 r51n 18 ((((r51n 16).2.2.1).toUInt64 >>> (v19.toInt64.toUInt64 &&& Int64.toUInt64 63)).toInt64))
def f_M_right_35u (r0 : (Nat → VV)) (p1 : Int32) (v19 : Int32) (r35n : (Nat → VV)) : (Nat → VV) := f_M_right_51u r0 p1 v19 (u2 r35n 18 ((((r35n 16).2.1).toUInt64 >>> (v19.toInt64.toUInt64 &&& Int64.toUInt64 63)).toInt64))
def f_M_right_19v (r0 : (Nat → VV)) (p1 : Int32) (v19 : Int32) : (Nat → VV) := f_M_right_35u r0 p1 v19 (u1 r0 18 ((((r0 16).1).toUInt64 >>> (v19.toInt64.toUInt64 &&& Int64.toUInt64 63)).toInt64))
def f_M_right (r0 : (Nat → VV)) (p1 : Int32) : (Nat → VV) := (if (f_M_isSingle r0 17) = true then f_M_right_19v r0 p1 ((((r0 17).2.2.1).toInt32) &&& p1) else (if (f_M_below p1.toInt64 ((r0 17).2.2.2.1)) = true then f_M_right_105 r0 p1 false else f_M_right_105 r0 p1 true))
set_option maxRecDepth 100000 in
set_option maxHeartbeats 4000000 in
theorem c_M_right (l : Launch) (dC : Nat → ClassId) (dI : Nat → Nat → Nat) (ad : Nat → Nat) (cJ cZ : ClassId) (sz : Nat) (c0 : Int32) (r0 : (Nat → VV)) (w0 : (Nat → Int64)) (s0 : Int32) (p1 : Int32) : Met l y_M_right w_M_right ({ frames := 1, cells := 0, slots := 0, locals := 23 } : Room) (va_Pc [.ref (ad 0), .int (p1)] (nP (dC, dI) (mT cJ cZ) (mW ad cJ cZ c0 r0 w0 s0) sz)) (va_Qv (fun _ : Unit => True) (mB (dC, dI) (va_A (mW ad cJ cZ c0 r0 w0 s0) sz) (mW ad cJ cZ c0 (f_M_right r0 p1) w0 s0)) (va_A (mW ad cJ cZ c0 r0 w0 s0) sz)) 0 0 (va_A (mW ad cJ cZ c0 r0 w0 s0) sz) := by
  refine Met.ofW (cc := b_M_right) (maxL := 3) (ret := none) (by decide) rfl ?_
  intro p e s m args below meth c s₁ B hml hv
  obtain ⟨rfl, hsz, hP, hK, hD0⟩ := hv
  have hx := B.exec
  have hb := B.bytes
  have hr := B.returns
  have hts := atoms_spec (ws := w_M_right) B.pre
  have hG : ∀ w ∈ gM, w.before _ s = true := fun w h => hts w (List.mem_cons_of_mem _ h)
  have hown : s.vm.findClass R_M = some m.cls := findClass_of_methodNamed B.named
  have hlocks := B.notSynchronized
  subst hsz
  have hD := hD0.self (sz := s.heap.size)
  generalize hAe : va_A (mW ad cJ cZ c0 r0 w0 s0) s.heap.size = A at hD ⊢
  have hA : ∀ q : Nat, s.heap.size ≤ q → A q := fun q h => by rw [← hAe]; exact Or.inr h
  have hS : va_S A s.heap s.heap [] := va_S.rf
  have hl := lv_entry ([.ref (ad 0), .int (p1)]) (n := 3) (Nat.le_of_ble_eq_true rfl)
  rw [lg_entry_eq]
  generalize (lg_sl ([.ref (ad 0), .int (p1)]) ++ List.replicate (3 - (lg_sl ([.ref (ad 0), .int (p1)])).length) Slot.unset).toArray = ls at hl ⊢
  have hl : lv_has ls 3 [(0, .ref (ad 0)), (1, .int (p1))] := hl
  have K167u : ∀ (r167n : (Nat → VV)) (hj : f_M_right r0 p1 = f_M_right_167u r0 p1 r167n) (H : Heap) (locs : List Loc) (hP : va_P (dC, dI) classes (mW ad cJ cZ c0 r167n w0 s0) H) (hD : va_D A (mW ad cJ cZ c0 r167n w0 s0)) (hS : va_S A s.heap H locs) (ls : Array Slot) (hl : lv_has ls 3 []), W p l e (headSpec w_M_right ({ frames := 1, cells := 0, slots := 0, locals := 23 } : Room)).room s m ([.ref (ad 0), .int (p1)] : List Value).toArray below meth c H locs 0 0 (MQ below (va_Qv (fun _ : Unit => True) (mB (dC, dI) A (mW ad cJ cZ c0 (f_M_right r0 p1) w0 s0)) A) ([.ref (ad 0), .int (p1)] : List Value).toArray s 0 0 A) (F0 m 168 ls []) := by
    intro r167n hj H locs hP hD hS ls hl
    have fe : f_M_right r0 p1 = r167n := hj.trans rfl
    exact W.vret hx hb hr (fun t ht hW => ⟨⟨(), rfl, trivial, by rw [ht, fe]; exact hP, by rw [fe]; exact hD⟩, hS.F ht⟩) hS.2.2 d_M_right_168
  have K166 : ∀ (s166_0 : Int32) (s166_1 : Int64) (r136n : (Nat → VV)) (hj : f_M_right r0 p1 = f_M_right_166 r0 p1 s166_0 s166_1 r136n) (H : Heap) (locs : List Loc) (hP : va_P (dC, dI) classes (mW ad cJ cZ c0 r136n w0 s0) H) (hD : va_D A (mW ad cJ cZ c0 r136n w0 s0)) (hS : va_S A s.heap H locs) (ls : Array Slot) (hl : lv_has ls 3 []), W p l e (headSpec w_M_right ({ frames := 1, cells := 0, slots := 0, locals := 23 } : Room)).room s m ([.ref (ad 0), .int (p1)] : List Value).toArray below meth c H locs 0 0 (MQ below (va_Qv (fun _ : Unit => True) (mB (dC, dI) A (mW ad cJ cZ c0 (f_M_right r0 p1) w0 s0)) A) ([.ref (ad 0), .int (p1)] : List Value).toArray s 0 0 A) (F0 m 166 ls [.int (s166_0), .long (s166_1), .int (18), .ref (ad 4)]) := by
    intro s166_0 s166_1 r136n hj H locs hP hD hS ls hl
    refine lv_lushr (v := (s166_1.toUInt64 >>> (s166_0.toInt64.toUInt64 &&& Int64.toUInt64 63)).toInt64) hx hb d_M_right_166 rfl ?_
    refine ms_4 (P := 18) (x := (s166_1.toUInt64 >>> (s166_0.toInt64.toUInt64 &&& Int64.toUInt64 63)).toInt64) hx hb hK hP hD hS rfl (by decide) d_M_right_167 (fun H locs hP hD hS => ?_)
    obtain ⟨r167n, er167n⟩ : ∃ z, z = u4 r136n 18 ((s166_1.toUInt64 >>> (s166_0.toInt64.toUInt64 &&& Int64.toUInt64 63)).toInt64) := ⟨_, rfl⟩
    rw [← er167n] at hP hD
    refine K167u r167n (Eq.trans (hj.trans rfl) (congrArg (fun r167n => f_M_right_167u r0 p1 r167n) er167n.symm)) H locs ?_ ?_ hS ls (lv_sub hl [] rfl)
    · with_reducible exact hP
    · with_reducible exact hD
  have K136u : ∀ (s105_0 : Bool) (r136n : (Nat → VV)) (hj : f_M_right r0 p1 = f_M_right_136u r0 p1 s105_0 r136n) (H : Heap) (locs : List Loc) (hP : va_P (dC, dI) classes (mW ad cJ cZ c0 r136n w0 s0) H) (hD : va_D A (mW ad cJ cZ c0 r136n w0 s0)) (hS : va_S A s.heap H locs) (ls : Array Slot) (hl : lv_has ls 3 [(2, .int (bI s105_0)), (0, .ref (ad 0))]), W p l e (headSpec w_M_right ({ frames := 1, cells := 0, slots := 0, locals := 23 } : Room)).room s m ([.ref (ad 0), .int (p1)] : List Value).toArray below meth c H locs 0 0 (MQ below (va_Qv (fun _ : Unit => True) (mB (dC, dI) A (mW ad cJ cZ c0 (f_M_right r0 p1) w0 s0)) A) ([.ref (ad 0), .int (p1)] : List Value).toArray s 0 0 A) (F0 m 137 ls []) := by
    intro s105_0 r136n hj H locs hP hD hS ls hl
    refine lv_aload_n hx hb d_M_right_137 rfl (lv_at hl 1 rfl) ?_
    refine va_get (D := (dC, dI)) (ci := 2) (v := .ref (ad 4)) (C := R_M) (T := F_M) (N := 10) hx hb hts (fun w h => List.mem_cons_of_mem _ (uw_M w h)) hown hK hP 0 rfl rfl 4 (by decide) (hG (.fieldLink R_M 19 "ValueSieveModel" "high" "[J") gx13) (fun _ h9 => h9) rfl d_M_right_138 ?_
    refine lv_bipush (v := 18) hx hb d_M_right_141 (by decide) ?_
    refine lv_aload_n hx hb d_M_right_143 rfl (lv_at hl 1 rfl) ?_
    refine va_get (D := (dC, dI)) (ci := 2) (v := .ref (ad 4)) (C := R_M) (T := F_M) (N := 10) hx hb hts (fun w h => List.mem_cons_of_mem _ (uw_M w h)) hown hK hP 0 rfl rfl 4 (by decide) (hG (.fieldLink R_M 19 "ValueSieveModel" "high" "[J") gx13) (fun _ h9 => h9) rfl d_M_right_144 ?_
    refine lv_bipush (v := 16) hx hb d_M_right_147 (by decide) ?_
    refine ml_4 (P := 16) hx hb hK hP rfl (by decide) d_M_right_149 ?_
    refine lv_iload_n hx hb d_M_right_150 rfl (lv_at hl 0 rfl) ?_
    refine wz_eq (tgt := 165) hx hb d_M_right_151 (by decide) (fun e1_165 => ?_) (fun e1_165 => ?_)
    · refine lv_iconst (v := 0) hx hb d_M_right_165 (by decide) ?_
      refine K166 0 ((r136n 16).2.2.2.1) r136n (hj.trans (by unfold f_M_right_136u; first | with_reducible exact if_neg e1_165 | exact if_neg e1_165)) H locs ?_ ?_ hS ls (lv_sub hl [] rfl)
      · with_reducible exact hP
      · with_reducible exact hD
    · refine lv_aload_n hx hb d_M_right_154 rfl (lv_at hl 1 rfl) ?_
      refine va_get (D := (dC, dI)) (ci := 2) (v := .ref (ad 3)) (C := R_M) (T := F_M) (N := 10) hx hb hts (fun w h => List.mem_cons_of_mem _ (uw_M w h)) hown hK hP 0 rfl rfl 3 (by decide) (hG (.fieldLink R_M 16 "ValueSieveModel" "low" "[J") gx12) (fun _ h9 => h9) rfl d_M_right_155 ?_
      refine lv_bipush (v := 17) hx hb d_M_right_158 (by decide) ?_
      refine ml_3 (P := 17) hx hb hK hP rfl (by decide) d_M_right_160 ?_
      refine lv_l2i (v := ((r136n 17).2.2.1).toInt32) hx hb d_M_right_161 rfl ?_
      refine lv_goto (tgt := 166) hx hb d_M_right_162 (by decide) ?_
      refine K166 (((r136n 17).2.2.1).toInt32) ((r136n 16).2.2.2.1) r136n (hj.trans (by unfold f_M_right_136u; first | with_reducible exact if_pos e1_165 | exact if_pos e1_165)) H locs ?_ ?_ hS ls (lv_sub hl [] rfl)
      · with_reducible exact hP
      · with_reducible exact hD
  have K135 : ∀ (s105_0 : Bool) (s135_0 : Int32) (s135_1 : Int64) (hj : f_M_right r0 p1 = f_M_right_135 r0 p1 s105_0 s135_0 s135_1) (H : Heap) (locs : List Loc) (hP : va_P (dC, dI) classes (mW ad cJ cZ c0 r0 w0 s0) H) (hD : va_D A (mW ad cJ cZ c0 r0 w0 s0)) (hS : va_S A s.heap H locs) (ls : Array Slot) (hl : lv_has ls 3 [(2, .int (bI s105_0)), (0, .ref (ad 0))]), W p l e (headSpec w_M_right ({ frames := 1, cells := 0, slots := 0, locals := 23 } : Room)).room s m ([.ref (ad 0), .int (p1)] : List Value).toArray below meth c H locs 0 0 (MQ below (va_Qv (fun _ : Unit => True) (mB (dC, dI) A (mW ad cJ cZ c0 (f_M_right r0 p1) w0 s0)) A) ([.ref (ad 0), .int (p1)] : List Value).toArray s 0 0 A) (F0 m 135 ls [.int (s135_0), .long (s135_1), .int (18), .ref (ad 3)]) := by
    intro s105_0 s135_0 s135_1 hj H locs hP hD hS ls hl
    refine lv_lushr (v := (s135_1.toUInt64 >>> (s135_0.toInt64.toUInt64 &&& Int64.toUInt64 63)).toInt64) hx hb d_M_right_135 rfl ?_
    refine ms_3 (P := 18) (x := (s135_1.toUInt64 >>> (s135_0.toInt64.toUInt64 &&& Int64.toUInt64 63)).toInt64) hx hb hK hP hD hS rfl (by decide) d_M_right_136 (fun H locs hP hD hS => ?_)
    obtain ⟨r136n, er136n⟩ : ∃ z, z = u3 r0 18 ((s135_1.toUInt64 >>> (s135_0.toInt64.toUInt64 &&& Int64.toUInt64 63)).toInt64) := ⟨_, rfl⟩
    rw [← er136n] at hP hD
    refine K136u s105_0 r136n (Eq.trans (hj.trans rfl) (congrArg (fun r136n => f_M_right_136u r0 p1 s105_0 r136n) er136n.symm)) H locs ?_ ?_ hS ls (lv_sub hl [0, 1] rfl)
    · with_reducible exact hP
    · with_reducible exact hD
  have K105 : ∀ (s105_0 : Bool) (hj : f_M_right r0 p1 = f_M_right_105 r0 p1 s105_0) (H : Heap) (locs : List Loc) (hP : va_P (dC, dI) classes (mW ad cJ cZ c0 r0 w0 s0) H) (hD : va_D A (mW ad cJ cZ c0 r0 w0 s0)) (hS : va_S A s.heap H locs) (ls : Array Slot) (hl : lv_has ls 3 [(0, .ref (ad 0)), (1, .int (p1))]), W p l e (headSpec w_M_right ({ frames := 1, cells := 0, slots := 0, locals := 23 } : Room)).room s m ([.ref (ad 0), .int (p1)] : List Value).toArray below meth c H locs 0 0 (MQ below (va_Qv (fun _ : Unit => True) (mB (dC, dI) A (mW ad cJ cZ c0 (f_M_right r0 p1) w0 s0)) A) ([.ref (ad 0), .int (p1)] : List Value).toArray s 0 0 A) (F0 m 105 ls [.int (bI s105_0)]) := by
    intro s105_0 hj H locs hP hD hS ls hl
    refine lv_istore_n (lv' := [(2, .int (bI s105_0)), (0, .ref (ad 0)), (1, .int (p1))]) hx hb d_M_right_105 rfl hl (by decide) rfl (fun ls hl => ?_)
    refine lv_aload_n hx hb d_M_right_106 rfl (lv_at hl 1 rfl) ?_
    refine va_get (D := (dC, dI)) (ci := 2) (v := .ref (ad 3)) (C := R_M) (T := F_M) (N := 10) hx hb hts (fun w h => List.mem_cons_of_mem _ (uw_M w h)) hown hK hP 0 rfl rfl 3 (by decide) (hG (.fieldLink R_M 16 "ValueSieveModel" "low" "[J") gx12) (fun _ h9 => h9) rfl d_M_right_107 ?_
    refine lv_bipush (v := 18) hx hb d_M_right_110 (by decide) ?_
    refine lv_aload_n hx hb d_M_right_112 rfl (lv_at hl 1 rfl) ?_
    refine va_get (D := (dC, dI)) (ci := 2) (v := .ref (ad 3)) (C := R_M) (T := F_M) (N := 10) hx hb hts (fun w h => List.mem_cons_of_mem _ (uw_M w h)) hown hK hP 0 rfl rfl 3 (by decide) (hG (.fieldLink R_M 16 "ValueSieveModel" "low" "[J") gx12) (fun _ h9 => h9) rfl d_M_right_113 ?_
    refine lv_bipush (v := 16) hx hb d_M_right_116 (by decide) ?_
    refine ml_3 (P := 16) hx hb hK hP rfl (by decide) d_M_right_118 ?_
    refine lv_iload_n hx hb d_M_right_119 rfl (lv_at hl 0 rfl) ?_
    refine wz_eq (tgt := 134) hx hb d_M_right_120 (by decide) (fun e1_134 => ?_) (fun e1_134 => ?_)
    · refine lv_iload_n hx hb d_M_right_134 rfl (lv_at hl 2 rfl) ?_
      refine K135 s105_0 p1 ((r0 16).2.2.1) (hj.trans (by unfold f_M_right_105; first | with_reducible exact if_neg e1_134 | exact if_neg e1_134)) H locs ?_ ?_ hS ls (lv_sub hl [0, 1] rfl)
      · with_reducible exact hP
      · with_reducible exact hD
    · refine lv_aload_n hx hb d_M_right_123 rfl (lv_at hl 1 rfl) ?_
      refine va_get (D := (dC, dI)) (ci := 2) (v := .ref (ad 4)) (C := R_M) (T := F_M) (N := 10) hx hb hts (fun w h => List.mem_cons_of_mem _ (uw_M w h)) hown hK hP 0 rfl rfl 4 (by decide) (hG (.fieldLink R_M 19 "ValueSieveModel" "high" "[J") gx13) (fun _ h9 => h9) rfl d_M_right_124 ?_
      refine lv_bipush (v := 17) hx hb d_M_right_127 (by decide) ?_
      refine ml_4 (P := 17) hx hb hK hP rfl (by decide) d_M_right_129 ?_
      refine lv_l2i (v := ((r0 17).2.2.2.1).toInt32) hx hb d_M_right_130 rfl ?_
      refine lv_goto (tgt := 135) hx hb d_M_right_131 (by decide) ?_
      refine K135 s105_0 (((r0 17).2.2.2.1).toInt32) ((r0 16).2.2.1) (hj.trans (by unfold f_M_right_105; first | with_reducible exact if_pos e1_134 | exact if_pos e1_134)) H locs ?_ ?_ hS ls (lv_sub hl [0, 1] rfl)
      · with_reducible exact hP
      · with_reducible exact hD
  have K83u : ∀ (r83n : (Nat → VV)) (hj : f_M_right r0 p1 = f_M_right_83u r0 p1 r83n) (H : Heap) (locs : List Loc) (hP : va_P (dC, dI) classes (mW ad cJ cZ c0 r83n w0 s0) H) (hD : va_D A (mW ad cJ cZ c0 r83n w0 s0)) (hS : va_S A s.heap H locs) (ls : Array Slot) (hl : lv_has ls 3 []), W p l e (headSpec w_M_right ({ frames := 1, cells := 0, slots := 0, locals := 23 } : Room)).room s m ([.ref (ad 0), .int (p1)] : List Value).toArray below meth c H locs 0 0 (MQ below (va_Qv (fun _ : Unit => True) (mB (dC, dI) A (mW ad cJ cZ c0 (f_M_right r0 p1) w0 s0)) A) ([.ref (ad 0), .int (p1)] : List Value).toArray s 0 0 A) (F0 m 84 ls []) := by
    intro r83n hj H locs hP hD hS ls hl
    have fe : f_M_right r0 p1 = r83n := hj.trans rfl
    exact W.vret hx hb hr (fun t ht hW => ⟨⟨(), rfl, trivial, by rw [ht, fe]; exact hP, by rw [fe]; exact hD⟩, hS.F ht⟩) hS.2.2 d_M_right_84
  have K67u : ∀ (v19 : Int32) (r67n : (Nat → VV)) (hj : f_M_right r0 p1 = f_M_right_67u r0 p1 v19 r67n) (H : Heap) (locs : List Loc) (hP : va_P (dC, dI) classes (mW ad cJ cZ c0 r67n w0 s0) H) (hD : va_D A (mW ad cJ cZ c0 r67n w0 s0)) (hS : va_S A s.heap H locs) (ls : Array Slot) (hl : lv_has ls 3 [(2, .int (v19)), (0, .ref (ad 0))]), W p l e (headSpec w_M_right ({ frames := 1, cells := 0, slots := 0, locals := 23 } : Room)).room s m ([.ref (ad 0), .int (p1)] : List Value).toArray below meth c H locs 0 0 (MQ below (va_Qv (fun _ : Unit => True) (mB (dC, dI) A (mW ad cJ cZ c0 (f_M_right r0 p1) w0 s0)) A) ([.ref (ad 0), .int (p1)] : List Value).toArray s 0 0 A) (F0 m 68 ls []) := by
    intro v19 r67n hj H locs hP hD hS ls hl
    refine lv_aload_n hx hb d_M_right_68 rfl (lv_at hl 1 rfl) ?_
    refine va_get (D := (dC, dI)) (ci := 2) (v := .ref (ad 4)) (C := R_M) (T := F_M) (N := 10) hx hb hts (fun w h => List.mem_cons_of_mem _ (uw_M w h)) hown hK hP 0 rfl rfl 4 (by decide) (hG (.fieldLink R_M 19 "ValueSieveModel" "high" "[J") gx13) (fun _ h9 => h9) rfl d_M_right_69 ?_
    refine lv_bipush (v := 18) hx hb d_M_right_72 (by decide) ?_
    refine lv_aload_n hx hb d_M_right_74 rfl (lv_at hl 1 rfl) ?_
    refine va_get (D := (dC, dI)) (ci := 2) (v := .ref (ad 4)) (C := R_M) (T := F_M) (N := 10) hx hb hts (fun w h => List.mem_cons_of_mem _ (uw_M w h)) hown hK hP 0 rfl rfl 4 (by decide) (hG (.fieldLink R_M 19 "ValueSieveModel" "high" "[J") gx13) (fun _ h9 => h9) rfl d_M_right_75 ?_
    refine lv_bipush (v := 16) hx hb d_M_right_78 (by decide) ?_
    refine ml_4 (P := 16) hx hb hK hP rfl (by decide) d_M_right_80 ?_
    refine lv_iload_n hx hb d_M_right_81 rfl (lv_at hl 0 rfl) ?_
    refine lv_lushr (v := (((r67n 16).2.2.2.1).toUInt64 >>> (v19.toInt64.toUInt64 &&& Int64.toUInt64 63)).toInt64) hx hb d_M_right_82 rfl ?_
    refine ms_4 (P := 18) (x := (((r67n 16).2.2.2.1).toUInt64 >>> (v19.toInt64.toUInt64 &&& Int64.toUInt64 63)).toInt64) hx hb hK hP hD hS rfl (by decide) d_M_right_83 (fun H locs hP hD hS => ?_)
    obtain ⟨r83n, er83n⟩ : ∃ z, z = u4 r67n 18 ((((r67n 16).2.2.2.1).toUInt64 >>> (v19.toInt64.toUInt64 &&& Int64.toUInt64 63)).toInt64) := ⟨_, rfl⟩
    rw [← er83n] at hP hD
    refine K83u r83n (Eq.trans (hj.trans rfl) (congrArg (fun r83n => f_M_right_83u r0 p1 r83n) er83n.symm)) H locs ?_ ?_ hS ls (lv_sub hl [] rfl)
    · with_reducible exact hP
    · with_reducible exact hD
  have K51u : ∀ (v19 : Int32) (r51n : (Nat → VV)) (hj : f_M_right r0 p1 = f_M_right_51u r0 p1 v19 r51n) (H : Heap) (locs : List Loc) (hP : va_P (dC, dI) classes (mW ad cJ cZ c0 r51n w0 s0) H) (hD : va_D A (mW ad cJ cZ c0 r51n w0 s0)) (hS : va_S A s.heap H locs) (ls : Array Slot) (hl : lv_has ls 3 [(2, .int (v19)), (0, .ref (ad 0))]), W p l e (headSpec w_M_right ({ frames := 1, cells := 0, slots := 0, locals := 23 } : Room)).room s m ([.ref (ad 0), .int (p1)] : List Value).toArray below meth c H locs 0 0 (MQ below (va_Qv (fun _ : Unit => True) (mB (dC, dI) A (mW ad cJ cZ c0 (f_M_right r0 p1) w0 s0)) A) ([.ref (ad 0), .int (p1)] : List Value).toArray s 0 0 A) (F0 m 52 ls []) := by
    intro v19 r51n hj H locs hP hD hS ls hl
    refine lv_aload_n hx hb d_M_right_52 rfl (lv_at hl 1 rfl) ?_
    refine va_get (D := (dC, dI)) (ci := 2) (v := .ref (ad 3)) (C := R_M) (T := F_M) (N := 10) hx hb hts (fun w h => List.mem_cons_of_mem _ (uw_M w h)) hown hK hP 0 rfl rfl 3 (by decide) (hG (.fieldLink R_M 16 "ValueSieveModel" "low" "[J") gx12) (fun _ h9 => h9) rfl d_M_right_53 ?_
    refine lv_bipush (v := 18) hx hb d_M_right_56 (by decide) ?_
    refine lv_aload_n hx hb d_M_right_58 rfl (lv_at hl 1 rfl) ?_
    refine va_get (D := (dC, dI)) (ci := 2) (v := .ref (ad 3)) (C := R_M) (T := F_M) (N := 10) hx hb hts (fun w h => List.mem_cons_of_mem _ (uw_M w h)) hown hK hP 0 rfl rfl 3 (by decide) (hG (.fieldLink R_M 16 "ValueSieveModel" "low" "[J") gx12) (fun _ h9 => h9) rfl d_M_right_59 ?_
    refine lv_bipush (v := 16) hx hb d_M_right_62 (by decide) ?_
    refine ml_3 (P := 16) hx hb hK hP rfl (by decide) d_M_right_64 ?_
    refine lv_iload_n hx hb d_M_right_65 rfl (lv_at hl 0 rfl) ?_
    refine lv_lushr (v := (((r51n 16).2.2.1).toUInt64 >>> (v19.toInt64.toUInt64 &&& Int64.toUInt64 63)).toInt64) hx hb d_M_right_66 rfl ?_
    refine ms_3 (P := 18) (x := (((r51n 16).2.2.1).toUInt64 >>> (v19.toInt64.toUInt64 &&& Int64.toUInt64 63)).toInt64) hx hb hK hP hD hS rfl (by decide) d_M_right_67 (fun H locs hP hD hS => ?_)
    obtain ⟨r67n, er67n⟩ : ∃ z, z = u3 r51n 18 ((((r51n 16).2.2.1).toUInt64 >>> (v19.toInt64.toUInt64 &&& Int64.toUInt64 63)).toInt64) := ⟨_, rfl⟩
    rw [← er67n] at hP hD
    refine K67u v19 r67n (Eq.trans (hj.trans rfl) (congrArg (fun r67n => f_M_right_67u r0 p1 v19 r67n) er67n.symm)) H locs ?_ ?_ hS ls (lv_sub hl [0, 1] rfl)
    · with_reducible exact hP
    · with_reducible exact hD
  have K35u : ∀ (v19 : Int32) (r35n : (Nat → VV)) (hj : f_M_right r0 p1 = f_M_right_35u r0 p1 v19 r35n) (H : Heap) (locs : List Loc) (hP : va_P (dC, dI) classes (mW ad cJ cZ c0 r35n w0 s0) H) (hD : va_D A (mW ad cJ cZ c0 r35n w0 s0)) (hS : va_S A s.heap H locs) (ls : Array Slot) (hl : lv_has ls 3 [(2, .int (v19)), (0, .ref (ad 0))]), W p l e (headSpec w_M_right ({ frames := 1, cells := 0, slots := 0, locals := 23 } : Room)).room s m ([.ref (ad 0), .int (p1)] : List Value).toArray below meth c H locs 0 0 (MQ below (va_Qv (fun _ : Unit => True) (mB (dC, dI) A (mW ad cJ cZ c0 (f_M_right r0 p1) w0 s0)) A) ([.ref (ad 0), .int (p1)] : List Value).toArray s 0 0 A) (F0 m 36 ls []) := by
    intro v19 r35n hj H locs hP hD hS ls hl
    refine lv_aload_n hx hb d_M_right_36 rfl (lv_at hl 1 rfl) ?_
    refine va_get (D := (dC, dI)) (ci := 2) (v := .ref (ad 2)) (C := R_M) (T := F_M) (N := 10) hx hb hts (fun w h => List.mem_cons_of_mem _ (uw_M w h)) hown hK hP 0 rfl rfl 2 (by decide) (hG (.fieldLink R_M 13 "ValueSieveModel" "open" "[J") gx11) (fun _ h9 => h9) rfl d_M_right_37 ?_
    refine lv_bipush (v := 18) hx hb d_M_right_40 (by decide) ?_
    refine lv_aload_n hx hb d_M_right_42 rfl (lv_at hl 1 rfl) ?_
    refine va_get (D := (dC, dI)) (ci := 2) (v := .ref (ad 2)) (C := R_M) (T := F_M) (N := 10) hx hb hts (fun w h => List.mem_cons_of_mem _ (uw_M w h)) hown hK hP 0 rfl rfl 2 (by decide) (hG (.fieldLink R_M 13 "ValueSieveModel" "open" "[J") gx11) (fun _ h9 => h9) rfl d_M_right_43 ?_
    refine lv_bipush (v := 16) hx hb d_M_right_46 (by decide) ?_
    refine ml_2 (P := 16) hx hb hK hP rfl (by decide) d_M_right_48 ?_
    refine lv_iload_n hx hb d_M_right_49 rfl (lv_at hl 0 rfl) ?_
    refine lv_lushr (v := (((r35n 16).2.1).toUInt64 >>> (v19.toInt64.toUInt64 &&& Int64.toUInt64 63)).toInt64) hx hb d_M_right_50 rfl ?_
    refine ms_2 (P := 18) (x := (((r35n 16).2.1).toUInt64 >>> (v19.toInt64.toUInt64 &&& Int64.toUInt64 63)).toInt64) hx hb hK hP hD hS rfl (by decide) d_M_right_51 (fun H locs hP hD hS => ?_)
    obtain ⟨r51n, er51n⟩ : ∃ z, z = u2 r35n 18 ((((r35n 16).2.1).toUInt64 >>> (v19.toInt64.toUInt64 &&& Int64.toUInt64 63)).toInt64) := ⟨_, rfl⟩
    rw [← er51n] at hP hD
    refine K51u v19 r51n (Eq.trans (hj.trans rfl) (congrArg (fun r51n => f_M_right_51u r0 p1 v19 r51n) er51n.symm)) H locs ?_ ?_ hS ls (lv_sub hl [0, 1] rfl)
    · with_reducible exact hP
    · with_reducible exact hD
  have K19v : ∀ (v19 : Int32) (hj : f_M_right r0 p1 = f_M_right_19v r0 p1 v19) (H : Heap) (locs : List Loc) (hP : va_P (dC, dI) classes (mW ad cJ cZ c0 r0 w0 s0) H) (hD : va_D A (mW ad cJ cZ c0 r0 w0 s0)) (hS : va_S A s.heap H locs) (ls : Array Slot) (hl : lv_has ls 3 [(2, .int (v19)), (0, .ref (ad 0))]), W p l e (headSpec w_M_right ({ frames := 1, cells := 0, slots := 0, locals := 23 } : Room)).room s m ([.ref (ad 0), .int (p1)] : List Value).toArray below meth c H locs 0 0 (MQ below (va_Qv (fun _ : Unit => True) (mB (dC, dI) A (mW ad cJ cZ c0 (f_M_right r0 p1) w0 s0)) A) ([.ref (ad 0), .int (p1)] : List Value).toArray s 0 0 A) (F0 m 20 ls []) := by
    intro v19 hj H locs hP hD hS ls hl
    refine lv_aload_n hx hb d_M_right_20 rfl (lv_at hl 1 rfl) ?_
    refine va_get (D := (dC, dI)) (ci := 2) (v := .ref (ad 1)) (C := R_M) (T := F_M) (N := 10) hx hb hts (fun w h => List.mem_cons_of_mem _ (uw_M w h)) hown hK hP 0 rfl rfl 1 (by decide) (hG (.fieldLink R_M 7 "ValueSieveModel" "bits" "[J") gx10) (fun _ h9 => h9) rfl d_M_right_21 ?_
    refine lv_bipush (v := 18) hx hb d_M_right_24 (by decide) ?_
    refine lv_aload_n hx hb d_M_right_26 rfl (lv_at hl 1 rfl) ?_
    refine va_get (D := (dC, dI)) (ci := 2) (v := .ref (ad 1)) (C := R_M) (T := F_M) (N := 10) hx hb hts (fun w h => List.mem_cons_of_mem _ (uw_M w h)) hown hK hP 0 rfl rfl 1 (by decide) (hG (.fieldLink R_M 7 "ValueSieveModel" "bits" "[J") gx10) (fun _ h9 => h9) rfl d_M_right_27 ?_
    refine lv_bipush (v := 16) hx hb d_M_right_30 (by decide) ?_
    refine ml_1 (P := 16) hx hb hK hP rfl (by decide) d_M_right_32 ?_
    refine lv_iload_n hx hb d_M_right_33 rfl (lv_at hl 0 rfl) ?_
    refine lv_lushr (v := (((r0 16).1).toUInt64 >>> (v19.toInt64.toUInt64 &&& Int64.toUInt64 63)).toInt64) hx hb d_M_right_34 rfl ?_
    refine ms_1 (P := 18) (x := (((r0 16).1).toUInt64 >>> (v19.toInt64.toUInt64 &&& Int64.toUInt64 63)).toInt64) hx hb hK hP hD hS rfl (by decide) d_M_right_35 (fun H locs hP hD hS => ?_)
    obtain ⟨r35n, er35n⟩ : ∃ z, z = u1 r0 18 ((((r0 16).1).toUInt64 >>> (v19.toInt64.toUInt64 &&& Int64.toUInt64 63)).toInt64) := ⟨_, rfl⟩
    rw [← er35n] at hP hD
    refine K35u v19 r35n (Eq.trans (hj.trans rfl) (congrArg (fun r35n => f_M_right_35u r0 p1 v19 r35n) er35n.symm)) H locs ?_ ?_ hS ls (lv_sub hl [0, 1] rfl)
    · with_reducible exact hP
    · with_reducible exact hD
  refine lv_aload_n hx hb d_M_right_0 rfl (lv_at hl 0 rfl) ?_
  refine lv_bipush (v := 17) hx hb d_M_right_1 (by decide) ?_
  refine rc_i (W.runV (As := [.int (17)]) (rest := []) ⟨hx, hb, hml, hown, hts⟩ (c_M_isSingle l dC dI ad cJ cZ c0 r0 w0 s0 17 (by decide)) (cwV 1 hts (gxV gx182 gx183 gx270 gx0 gx184) rfl rfl rfl (by decide +kernel) ⟨(Nat.le_of_ble_eq_true rfl), (Nat.le_of_ble_eq_true rfl)⟩) ⟨bln, va_recv hK hP (ci := 2) (q0 := 0) rfl rfl, fun U hU hW => ⟨rfl, by rw [hU]; exact hP, va_K.moved hW.alike hK⟩⟩ rfl rfl hl.1 rfl (lv_room (Nat.le_of_ble_eq_true rfl)) d_M_right_3 ⟨Nat.zero_le _, Nat.zero_le _⟩) ?_
  refine wz_eq (tgt := 85) hx hb d_M_right_6 (by decide) (fun e1_85 => ?_) (fun e1_85 => ?_)
  · refine lv_iload_n hx hb d_M_right_85 rfl (lv_at hl 1 rfl) ?_
    refine lv_i2l (v := p1.toInt64) hx hb d_M_right_86 rfl ?_
    refine lv_aload_n hx hb d_M_right_87 rfl (lv_at hl 0 rfl) ?_
    refine va_get (D := (dC, dI)) (ci := 2) (v := .ref (ad 4)) (C := R_M) (T := F_M) (N := 10) hx hb hts (fun w h => List.mem_cons_of_mem _ (uw_M w h)) hown hK hP 0 rfl rfl 4 (by decide) (hG (.fieldLink R_M 19 "ValueSieveModel" "high" "[J") gx13) (fun _ h9 => h9) rfl d_M_right_88 ?_
    refine lv_bipush (v := 17) hx hb d_M_right_91 (by decide) ?_
    refine ml_4 (P := 17) hx hb hK hP rfl (by decide) d_M_right_93 ?_
    refine rc_i (W.runS (As := [.long (p1.toInt64), .long ((r0 17).2.2.2.1)]) (rest := []) ⟨hx, hb, hml, hown, hts⟩ (c_M_below l p1.toInt64 ((r0 17).2.2.2.1)) (va_cwS 2 hts (gxS gx57 gx58 gx0 gx59) rfl rfl rfl (by decide +kernel) ⟨(Nat.le_of_ble_eq_true rfl), (Nat.le_of_ble_eq_true rfl)⟩) ⟨bl0, fun U hU hW => ⟨rfl, trivial⟩⟩ rfl rfl hl.1 rfl (lv_room (Nat.le_of_ble_eq_true rfl)) d_M_right_94 ⟨Nat.zero_le _, Nat.zero_le _⟩) ?_
    refine wz_ne (tgt := 104) hx hb d_M_right_97 (by decide) (fun e2_104 => ?_) (fun e2_104 => ?_)
    · refine lv_iconst (v := 0) hx hb d_M_right_104 (by decide) ?_
      refine K105 false (by unfold f_M_right; first | with_reducible exact (if_neg e1_85).trans (if_pos e2_104) | exact (if_neg e1_85).trans (if_pos e2_104)) s.heap [] ?_ ?_ hS ls (lv_sub hl [0, 1] rfl)
      · with_reducible exact hP
      · with_reducible exact hD
    · refine lv_iconst (v := 1) hx hb d_M_right_100 (by decide) ?_
      refine lv_goto (tgt := 105) hx hb d_M_right_101 (by decide) ?_
      refine K105 true (by unfold f_M_right; first | with_reducible exact (if_neg e1_85).trans (if_neg e2_104) | exact (if_neg e1_85).trans (if_neg e2_104)) s.heap [] ?_ ?_ hS ls (lv_sub hl [0, 1] rfl)
      · with_reducible exact hP
      · with_reducible exact hD
  · refine lv_aload_n hx hb d_M_right_9 rfl (lv_at hl 0 rfl) ?_
    refine va_get (D := (dC, dI)) (ci := 2) (v := .ref (ad 3)) (C := R_M) (T := F_M) (N := 10) hx hb hts (fun w h => List.mem_cons_of_mem _ (uw_M w h)) hown hK hP 0 rfl rfl 3 (by decide) (hG (.fieldLink R_M 16 "ValueSieveModel" "low" "[J") gx12) (fun _ h9 => h9) rfl d_M_right_10 ?_
    refine lv_bipush (v := 17) hx hb d_M_right_13 (by decide) ?_
    refine ml_3 (P := 17) hx hb hK hP rfl (by decide) d_M_right_15 ?_
    refine lv_l2i (v := ((r0 17).2.2.1).toInt32) hx hb d_M_right_16 rfl ?_
    refine lv_iload_n hx hb d_M_right_17 rfl (lv_at hl 1 rfl) ?_
    refine lv_iand hx hb d_M_right_18 ?_
    refine lv_topi (fun v19 ev19 => ?_)
    refine lv_istore_n (lv' := [(2, .int (v19)), (0, .ref (ad 0)), (1, .int (p1))]) hx hb d_M_right_19 rfl hl (by decide) rfl (fun ls hl => ?_)
    refine K19v v19 (Eq.trans (by unfold f_M_right; first | with_reducible exact if_pos e1_85 | exact if_pos e1_85) (congrArg (fun v19 => f_M_right_19v r0 p1 v19) ev19.symm)) s.heap [] ?_ ?_ hS ls (lv_sub hl [0, 1] rfl)
    · with_reducible exact hP
    · with_reducible exact hD
-- signedRight
theorem d_M_signedRight_0 : decode b_M_signedRight 0 = .ok (.aload_n 0, 1) := by decide +kernel
theorem d_M_signedRight_1 : decode b_M_signedRight 1 = .ok (.bipush 17, 2) := by decide +kernel
theorem d_M_signedRight_3 : decode b_M_signedRight 3 = .ok (.invokevirtual 159, 3) := by decide +kernel
theorem d_M_signedRight_6 : decode b_M_signedRight 6 = .ok (.ifCond .eq 79, 3) := by decide +kernel
theorem d_M_signedRight_9 : decode b_M_signedRight 9 = .ok (.aload_n 0, 1) := by decide +kernel
theorem d_M_signedRight_10 : decode b_M_signedRight 10 = .ok (.getfield 16, 3) := by decide +kernel
theorem d_M_signedRight_13 : decode b_M_signedRight 13 = .ok (.bipush 17, 2) := by decide +kernel
theorem d_M_signedRight_15 : decode b_M_signedRight 15 = .ok (.laload, 1) := by decide +kernel
theorem d_M_signedRight_16 : decode b_M_signedRight 16 = .ok (.l2i, 1) := by decide +kernel
theorem d_M_signedRight_17 : decode b_M_signedRight 17 = .ok (.iload_n 1, 1) := by decide +kernel
theorem d_M_signedRight_18 : decode b_M_signedRight 18 = .ok (.iand, 1) := by decide +kernel
theorem d_M_signedRight_19 : decode b_M_signedRight 19 = .ok (.istore_n 2, 1) := by decide +kernel
theorem d_M_signedRight_20 : decode b_M_signedRight 20 = .ok (.aload_n 0, 1) := by decide +kernel
theorem d_M_signedRight_21 : decode b_M_signedRight 21 = .ok (.getfield 7, 3) := by decide +kernel
theorem d_M_signedRight_24 : decode b_M_signedRight 24 = .ok (.bipush 18, 2) := by decide +kernel
theorem d_M_signedRight_26 : decode b_M_signedRight 26 = .ok (.aload_n 0, 1) := by decide +kernel
theorem d_M_signedRight_27 : decode b_M_signedRight 27 = .ok (.getfield 7, 3) := by decide +kernel
theorem d_M_signedRight_30 : decode b_M_signedRight 30 = .ok (.bipush 16, 2) := by decide +kernel
theorem d_M_signedRight_32 : decode b_M_signedRight 32 = .ok (.laload, 1) := by decide +kernel
theorem d_M_signedRight_33 : decode b_M_signedRight 33 = .ok (.iload_n 2, 1) := by decide +kernel
theorem d_M_signedRight_34 : decode b_M_signedRight 34 = .ok (.lshr, 1) := by decide +kernel
theorem d_M_signedRight_35 : decode b_M_signedRight 35 = .ok (.lastore, 1) := by decide +kernel
theorem d_M_signedRight_36 : decode b_M_signedRight 36 = .ok (.aload_n 0, 1) := by decide +kernel
theorem d_M_signedRight_37 : decode b_M_signedRight 37 = .ok (.getfield 13, 3) := by decide +kernel
theorem d_M_signedRight_40 : decode b_M_signedRight 40 = .ok (.bipush 18, 2) := by decide +kernel
theorem d_M_signedRight_42 : decode b_M_signedRight 42 = .ok (.aload_n 0, 1) := by decide +kernel
theorem d_M_signedRight_43 : decode b_M_signedRight 43 = .ok (.getfield 13, 3) := by decide +kernel
theorem d_M_signedRight_46 : decode b_M_signedRight 46 = .ok (.bipush 16, 2) := by decide +kernel
theorem d_M_signedRight_48 : decode b_M_signedRight 48 = .ok (.laload, 1) := by decide +kernel
theorem d_M_signedRight_49 : decode b_M_signedRight 49 = .ok (.iload_n 2, 1) := by decide +kernel
theorem d_M_signedRight_50 : decode b_M_signedRight 50 = .ok (.lshr, 1) := by decide +kernel
theorem d_M_signedRight_51 : decode b_M_signedRight 51 = .ok (.lastore, 1) := by decide +kernel
theorem d_M_signedRight_52 : decode b_M_signedRight 52 = .ok (.aload_n 0, 1) := by decide +kernel
theorem d_M_signedRight_53 : decode b_M_signedRight 53 = .ok (.getfield 22, 3) := by decide +kernel
theorem d_M_signedRight_56 : decode b_M_signedRight 56 = .ok (.bipush 18, 2) := by decide +kernel
theorem d_M_signedRight_58 : decode b_M_signedRight 58 = .ok (.aload_n 0, 1) := by decide +kernel
theorem d_M_signedRight_59 : decode b_M_signedRight 59 = .ok (.getfield 22, 3) := by decide +kernel
theorem d_M_signedRight_62 : decode b_M_signedRight 62 = .ok (.bipush 16, 2) := by decide +kernel
theorem d_M_signedRight_64 : decode b_M_signedRight 64 = .ok (.laload, 1) := by decide +kernel
theorem d_M_signedRight_65 : decode b_M_signedRight 65 = .ok (.iload_n 2, 1) := by decide +kernel
theorem d_M_signedRight_66 : decode b_M_signedRight 66 = .ok (.lshr, 1) := by decide +kernel
theorem d_M_signedRight_67 : decode b_M_signedRight 67 = .ok (.lastore, 1) := by decide +kernel
theorem d_M_signedRight_68 : decode b_M_signedRight 68 = .ok (.aload_n 0, 1) := by decide +kernel
theorem d_M_signedRight_69 : decode b_M_signedRight 69 = .ok (.getfield 25, 3) := by decide +kernel
theorem d_M_signedRight_72 : decode b_M_signedRight 72 = .ok (.bipush 18, 2) := by decide +kernel
theorem d_M_signedRight_74 : decode b_M_signedRight 74 = .ok (.aload_n 0, 1) := by decide +kernel
theorem d_M_signedRight_75 : decode b_M_signedRight 75 = .ok (.getfield 25, 3) := by decide +kernel
theorem d_M_signedRight_78 : decode b_M_signedRight 78 = .ok (.bipush 16, 2) := by decide +kernel
theorem d_M_signedRight_80 : decode b_M_signedRight 80 = .ok (.laload, 1) := by decide +kernel
theorem d_M_signedRight_81 : decode b_M_signedRight 81 = .ok (.iload_n 2, 1) := by decide +kernel
theorem d_M_signedRight_82 : decode b_M_signedRight 82 = .ok (.lshr, 1) := by decide +kernel
theorem d_M_signedRight_83 : decode b_M_signedRight 83 = .ok (.lastore, 1) := by decide +kernel
theorem d_M_signedRight_84 : decode b_M_signedRight 84 = .ok (.return_, 1) := by decide +kernel
theorem d_M_signedRight_85 : decode b_M_signedRight 85 = .ok (.iload_n 1, 1) := by decide +kernel
theorem d_M_signedRight_86 : decode b_M_signedRight 86 = .ok (.i2l, 1) := by decide +kernel
theorem d_M_signedRight_87 : decode b_M_signedRight 87 = .ok (.aload_n 0, 1) := by decide +kernel
theorem d_M_signedRight_88 : decode b_M_signedRight 88 = .ok (.getfield 19, 3) := by decide +kernel
theorem d_M_signedRight_91 : decode b_M_signedRight 91 = .ok (.bipush 17, 2) := by decide +kernel
theorem d_M_signedRight_93 : decode b_M_signedRight 93 = .ok (.laload, 1) := by decide +kernel
theorem d_M_signedRight_94 : decode b_M_signedRight 94 = .ok (.invokestatic 39, 3) := by decide +kernel
theorem d_M_signedRight_97 : decode b_M_signedRight 97 = .ok (.ifCond .ne 7, 3) := by decide +kernel
theorem d_M_signedRight_100 : decode b_M_signedRight 100 = .ok (.iconst 1, 1) := by decide +kernel
theorem d_M_signedRight_101 : decode b_M_signedRight 101 = .ok (.goto 4, 3) := by decide +kernel
theorem d_M_signedRight_104 : decode b_M_signedRight 104 = .ok (.iconst 0, 1) := by decide +kernel
theorem d_M_signedRight_105 : decode b_M_signedRight 105 = .ok (.istore_n 2, 1) := by decide +kernel
theorem d_M_signedRight_106 : decode b_M_signedRight 106 = .ok (.iload_n 2, 1) := by decide +kernel
theorem d_M_signedRight_107 : decode b_M_signedRight 107 = .ok (.ifCond .eq 14, 3) := by decide +kernel
theorem d_M_signedRight_110 : decode b_M_signedRight 110 = .ok (.aload_n 0, 1) := by decide +kernel
theorem d_M_signedRight_111 : decode b_M_signedRight 111 = .ok (.getfield 16, 3) := by decide +kernel
theorem d_M_signedRight_114 : decode b_M_signedRight 114 = .ok (.bipush 17, 2) := by decide +kernel
theorem d_M_signedRight_116 : decode b_M_signedRight 116 = .ok (.laload, 1) := by decide +kernel
theorem d_M_signedRight_117 : decode b_M_signedRight 117 = .ok (.l2i, 1) := by decide +kernel
theorem d_M_signedRight_118 : decode b_M_signedRight 118 = .ok (.goto 4, 3) := by decide +kernel
theorem d_M_signedRight_121 : decode b_M_signedRight 121 = .ok (.iconst 0, 1) := by decide +kernel
theorem d_M_signedRight_122 : decode b_M_signedRight 122 = .ok (.istore_n 3, 1) := by decide +kernel
theorem d_M_signedRight_123 : decode b_M_signedRight 123 = .ok (.iload_n 2, 1) := by decide +kernel
theorem d_M_signedRight_124 : decode b_M_signedRight 124 = .ok (.ifCond .eq 14, 3) := by decide +kernel
theorem d_M_signedRight_127 : decode b_M_signedRight 127 = .ok (.aload_n 0, 1) := by decide +kernel
theorem d_M_signedRight_128 : decode b_M_signedRight 128 = .ok (.getfield 19, 3) := by decide +kernel
theorem d_M_signedRight_131 : decode b_M_signedRight 131 = .ok (.bipush 17, 2) := by decide +kernel
theorem d_M_signedRight_133 : decode b_M_signedRight 133 = .ok (.laload, 1) := by decide +kernel
theorem d_M_signedRight_134 : decode b_M_signedRight 134 = .ok (.l2i, 1) := by decide +kernel
theorem d_M_signedRight_135 : decode b_M_signedRight 135 = .ok (.goto 4, 3) := by decide +kernel
theorem d_M_signedRight_138 : decode b_M_signedRight 138 = .ok (.iload_n 1, 1) := by decide +kernel
theorem d_M_signedRight_139 : decode b_M_signedRight 139 = .ok (.istore 4, 2) := by decide +kernel
theorem d_M_signedRight_141 : decode b_M_signedRight 141 = .ok (.aload_n 0, 1) := by decide +kernel
theorem d_M_signedRight_142 : decode b_M_signedRight 142 = .ok (.getfield 22, 3) := by decide +kernel
theorem d_M_signedRight_145 : decode b_M_signedRight 145 = .ok (.bipush 16, 2) := by decide +kernel
theorem d_M_signedRight_147 : decode b_M_signedRight 147 = .ok (.laload, 1) := by decide +kernel
theorem d_M_signedRight_148 : decode b_M_signedRight 148 = .ok (.iload_n 3, 1) := by decide +kernel
theorem d_M_signedRight_149 : decode b_M_signedRight 149 = .ok (.lshr, 1) := by decide +kernel
theorem d_M_signedRight_150 : decode b_M_signedRight 150 = .ok (.lstore 5, 2) := by decide +kernel
theorem d_M_signedRight_152 : decode b_M_signedRight 152 = .ok (.aload_n 0, 1) := by decide +kernel
theorem d_M_signedRight_153 : decode b_M_signedRight 153 = .ok (.getfield 22, 3) := by decide +kernel
theorem d_M_signedRight_156 : decode b_M_signedRight 156 = .ok (.bipush 16, 2) := by decide +kernel
theorem d_M_signedRight_158 : decode b_M_signedRight 158 = .ok (.laload, 1) := by decide +kernel
theorem d_M_signedRight_159 : decode b_M_signedRight 159 = .ok (.iload 4, 2) := by decide +kernel
theorem d_M_signedRight_161 : decode b_M_signedRight 161 = .ok (.lshr, 1) := by decide +kernel
theorem d_M_signedRight_162 : decode b_M_signedRight 162 = .ok (.lstore 7, 2) := by decide +kernel
theorem d_M_signedRight_164 : decode b_M_signedRight 164 = .ok (.aload_n 0, 1) := by decide +kernel
theorem d_M_signedRight_165 : decode b_M_signedRight 165 = .ok (.getfield 22, 3) := by decide +kernel
theorem d_M_signedRight_168 : decode b_M_signedRight 168 = .ok (.bipush 18, 2) := by decide +kernel
theorem d_M_signedRight_170 : decode b_M_signedRight 170 = .ok (.lload 5, 2) := by decide +kernel
theorem d_M_signedRight_172 : decode b_M_signedRight 172 = .ok (.lload 7, 2) := by decide +kernel
theorem d_M_signedRight_174 : decode b_M_signedRight 174 = .ok (.lcmp, 1) := by decide +kernel
theorem d_M_signedRight_175 : decode b_M_signedRight 175 = .ok (.ifCond .ge 8, 3) := by decide +kernel
theorem d_M_signedRight_178 : decode b_M_signedRight 178 = .ok (.lload 5, 2) := by decide +kernel
theorem d_M_signedRight_180 : decode b_M_signedRight 180 = .ok (.goto 5, 3) := by decide +kernel
theorem d_M_signedRight_183 : decode b_M_signedRight 183 = .ok (.lload 7, 2) := by decide +kernel
theorem d_M_signedRight_185 : decode b_M_signedRight 185 = .ok (.lastore, 1) := by decide +kernel
theorem d_M_signedRight_186 : decode b_M_signedRight 186 = .ok (.aload_n 0, 1) := by decide +kernel
theorem d_M_signedRight_187 : decode b_M_signedRight 187 = .ok (.getfield 25, 3) := by decide +kernel
theorem d_M_signedRight_190 : decode b_M_signedRight 190 = .ok (.bipush 16, 2) := by decide +kernel
theorem d_M_signedRight_192 : decode b_M_signedRight 192 = .ok (.laload, 1) := by decide +kernel
theorem d_M_signedRight_193 : decode b_M_signedRight 193 = .ok (.iload_n 3, 1) := by decide +kernel
theorem d_M_signedRight_194 : decode b_M_signedRight 194 = .ok (.lshr, 1) := by decide +kernel
theorem d_M_signedRight_195 : decode b_M_signedRight 195 = .ok (.lstore 5, 2) := by decide +kernel
theorem d_M_signedRight_197 : decode b_M_signedRight 197 = .ok (.aload_n 0, 1) := by decide +kernel
theorem d_M_signedRight_198 : decode b_M_signedRight 198 = .ok (.getfield 25, 3) := by decide +kernel
theorem d_M_signedRight_201 : decode b_M_signedRight 201 = .ok (.bipush 16, 2) := by decide +kernel
theorem d_M_signedRight_203 : decode b_M_signedRight 203 = .ok (.laload, 1) := by decide +kernel
theorem d_M_signedRight_204 : decode b_M_signedRight 204 = .ok (.iload 4, 2) := by decide +kernel
theorem d_M_signedRight_206 : decode b_M_signedRight 206 = .ok (.lshr, 1) := by decide +kernel
theorem d_M_signedRight_207 : decode b_M_signedRight 207 = .ok (.lstore 7, 2) := by decide +kernel
theorem d_M_signedRight_209 : decode b_M_signedRight 209 = .ok (.aload_n 0, 1) := by decide +kernel
theorem d_M_signedRight_210 : decode b_M_signedRight 210 = .ok (.getfield 25, 3) := by decide +kernel
theorem d_M_signedRight_213 : decode b_M_signedRight 213 = .ok (.bipush 18, 2) := by decide +kernel
theorem d_M_signedRight_215 : decode b_M_signedRight 215 = .ok (.lload 5, 2) := by decide +kernel
theorem d_M_signedRight_217 : decode b_M_signedRight 217 = .ok (.lload 7, 2) := by decide +kernel
theorem d_M_signedRight_219 : decode b_M_signedRight 219 = .ok (.lcmp, 1) := by decide +kernel
theorem d_M_signedRight_220 : decode b_M_signedRight 220 = .ok (.ifCond .ge 8, 3) := by decide +kernel
theorem d_M_signedRight_223 : decode b_M_signedRight 223 = .ok (.lload 7, 2) := by decide +kernel
theorem d_M_signedRight_225 : decode b_M_signedRight 225 = .ok (.goto 5, 3) := by decide +kernel
theorem d_M_signedRight_228 : decode b_M_signedRight 228 = .ok (.lload 5, 2) := by decide +kernel
theorem d_M_signedRight_230 : decode b_M_signedRight 230 = .ok (.lastore, 1) := by decide +kernel
theorem d_M_signedRight_231 : decode b_M_signedRight 231 = .ok (.return_, 1) := by decide +kernel
def f_M_signedRight_230u (r0 : (Nat → VV)) (p1 : Int32) (r230n : (Nat → VV)) : (Nat → VV) := r230n
def f_M_signedRight_230 (r0 : (Nat → VV)) (p1 : Int32) (s230_0 : Int64) (r185n : (Nat → VV)) : (Nat → VV) := f_M_signedRight_230u r0 p1 (u6 r185n 18 s230_0)
def f_M_signedRight_207v (r0 : (Nat → VV)) (p1 : Int32) (v207 : Int64) (v195 : Int64) (r185n : (Nat → VV)) : (Nat → VV) := (if v195 < v207 then f_M_signedRight_230 r0 p1 v207 r185n else f_M_signedRight_230 r0 p1 v195 r185n)
def f_M_signedRight_195v (r0 : (Nat → VV)) (p1 : Int32) (v195 : Int64) (s139_0 : Int32) (r185n : (Nat → VV)) : (Nat → VV) := f_M_signedRight_207v r0 p1 (((r185n 16).2.2.2.2.2.1) >>> (s139_0.toInt64 &&& 63)) v195 r185n
def f_M_signedRight_185u (r0 : (Nat → VV)) (p1 : Int32) (s139_0 : Int32) (s122_0 : Int32) (r185n : (Nat → VV)) : (Nat → VV) := f_M_signedRight_195v r0 p1 (((r185n 16).2.2.2.2.2.1) >>> (s122_0.toInt64 &&& 63)) s139_0 r185n
def f_M_signedRight_185 (r0 : (Nat → VV)) (p1 : Int32) (s139_0 : Int32) (s122_0 : Int32) (s185_0 : Int64) : (Nat → VV) := f_M_signedRight_185u r0 p1 s139_0 s122_0 (u5 r0 18 s185_0)
def f_M_signedRight_162v (r0 : (Nat → VV)) (p1 : Int32) (v162 : Int64) (v150 : Int64) (s139_0 : Int32) (s122_0 : Int32) : (Nat → VV) := (if v150 < v162 then f_M_signedRight_185 r0 p1 s139_0 s122_0 v150 else f_M_signedRight_185 r0 p1 s139_0 s122_0 v162)
def f_M_signedRight_150v (r0 : (Nat → VV)) (p1 : Int32) (v150 : Int64) (s139_0 : Int32) (s122_0 : Int32) : (Nat → VV) := f_M_signedRight_162v r0 p1 (((r0 16).2.2.2.2.1) >>> (s139_0.toInt64 &&& 63)) v150 s139_0 s122_0
def f_M_signedRight_139 (r0 : (Nat → VV)) (p1 : Int32) (s122_0 : Int32) (s139_0 : Int32) : (Nat → VV) := f_M_signedRight_150v r0 p1 (((r0 16).2.2.2.2.1) >>> (s122_0.toInt64 &&& 63)) s139_0 s122_0
def f_M_signedRight_122 (r0 : (Nat → VV)) (p1 : Int32) (s105_0 : Bool) (s122_0 : Int32) : (Nat → VV) := (if s105_0 = true then f_M_signedRight_139 r0 p1 s122_0 (((r0 17).2.2.2.1).toInt32) else f_M_signedRight_139 r0 p1 s122_0 p1)
def f_M_signedRight_105 (r0 : (Nat → VV)) (p1 : Int32) (s105_0 : Bool) : (Nat → VV) := (if s105_0 = true then f_M_signedRight_122 r0 p1 s105_0 (((r0 17).2.2.1).toInt32) else f_M_signedRight_122 r0 p1 s105_0 0)
def f_M_signedRight_83u (r0 : (Nat → VV)) (p1 : Int32) (r83n : (Nat → VV)) : (Nat → VV) := r83n
def f_M_signedRight_67u (r0 : (Nat → VV)) (p1 : Int32) (v19 : Int32) (r67n : (Nat → VV)) : (Nat → VV) := f_M_signedRight_83u r0 p1 (u6 r67n 18 (((r67n 16).2.2.2.2.2.1) >>> (v19.toInt64 &&& 63)))
def f_M_signedRight_51u (r0 : (Nat → VV)) (p1 : Int32) (v19 : Int32) (r51n : (Nat → VV)) : (Nat → VV) := f_M_signedRight_67u r0 p1 v19 (u5 r51n 18 (((r51n 16).2.2.2.2.1) >>> (v19.toInt64 &&& 63)))
def f_M_signedRight_35u (r0 : (Nat → VV)) (p1 : Int32) (v19 : Int32) (r35n : (Nat → VV)) : (Nat → VV) := f_M_signedRight_51u r0 p1 v19 (u2 r35n 18 (((r35n 16).2.1) >>> (v19.toInt64 &&& 63)))
def f_M_signedRight_19v (r0 : (Nat → VV)) (p1 : Int32) (v19 : Int32) : (Nat → VV) := f_M_signedRight_35u r0 p1 v19 (u1 r0 18 (((r0 16).1) >>> (v19.toInt64 &&& 63)))
def f_M_signedRight (r0 : (Nat → VV)) (p1 : Int32) : (Nat → VV) := (if (f_M_isSingle r0 17) = true then f_M_signedRight_19v r0 p1 ((((r0 17).2.2.1).toInt32) &&& p1) else (if (f_M_below p1.toInt64 ((r0 17).2.2.2.1)) = true then f_M_signedRight_105 r0 p1 false else f_M_signedRight_105 r0 p1 true))
set_option maxRecDepth 100000 in
set_option maxHeartbeats 4000000 in
theorem c_M_signedRight (l : Launch) (dC : Nat → ClassId) (dI : Nat → Nat → Nat) (ad : Nat → Nat) (cJ cZ : ClassId) (sz : Nat) (c0 : Int32) (r0 : (Nat → VV)) (w0 : (Nat → Int64)) (s0 : Int32) (p1 : Int32) : Met l y_M_signedRight w_M_signedRight ({ frames := 1, cells := 0, slots := 0, locals := 23 } : Room) (va_Pc [.ref (ad 0), .int (p1)] (nP (dC, dI) (mT cJ cZ) (mW ad cJ cZ c0 r0 w0 s0) sz)) (va_Qv (fun _ : Unit => True) (mB (dC, dI) (va_A (mW ad cJ cZ c0 r0 w0 s0) sz) (mW ad cJ cZ c0 (f_M_signedRight r0 p1) w0 s0)) (va_A (mW ad cJ cZ c0 r0 w0 s0) sz)) 0 0 (va_A (mW ad cJ cZ c0 r0 w0 s0) sz) := by
  refine Met.ofW (cc := b_M_signedRight) (maxL := 9) (ret := none) (by decide) rfl ?_
  intro p e s m args below meth c s₁ B hml hv
  obtain ⟨rfl, hsz, hP, hK, hD0⟩ := hv
  have hx := B.exec
  have hb := B.bytes
  have hr := B.returns
  have hts := atoms_spec (ws := w_M_signedRight) B.pre
  have hG : ∀ w ∈ gM, w.before _ s = true := fun w h => hts w (List.mem_cons_of_mem _ h)
  have hown : s.vm.findClass R_M = some m.cls := findClass_of_methodNamed B.named
  have hlocks := B.notSynchronized
  subst hsz
  have hD := hD0.self (sz := s.heap.size)
  generalize hAe : va_A (mW ad cJ cZ c0 r0 w0 s0) s.heap.size = A at hD ⊢
  have hA : ∀ q : Nat, s.heap.size ≤ q → A q := fun q h => by rw [← hAe]; exact Or.inr h
  have hS : va_S A s.heap s.heap [] := va_S.rf
  have hl := lv_entry ([.ref (ad 0), .int (p1)]) (n := 9) (Nat.le_of_ble_eq_true rfl)
  rw [lg_entry_eq]
  generalize (lg_sl ([.ref (ad 0), .int (p1)]) ++ List.replicate (9 - (lg_sl ([.ref (ad 0), .int (p1)])).length) Slot.unset).toArray = ls at hl ⊢
  have hl : lv_has ls 9 [(0, .ref (ad 0)), (1, .int (p1))] := hl
  have K230u : ∀ (r230n : (Nat → VV)) (hj : f_M_signedRight r0 p1 = f_M_signedRight_230u r0 p1 r230n) (H : Heap) (locs : List Loc) (hP : va_P (dC, dI) classes (mW ad cJ cZ c0 r230n w0 s0) H) (hD : va_D A (mW ad cJ cZ c0 r230n w0 s0)) (hS : va_S A s.heap H locs) (ls : Array Slot) (hl : lv_has ls 9 []), W p l e (headSpec w_M_signedRight ({ frames := 1, cells := 0, slots := 0, locals := 23 } : Room)).room s m ([.ref (ad 0), .int (p1)] : List Value).toArray below meth c H locs 0 0 (MQ below (va_Qv (fun _ : Unit => True) (mB (dC, dI) A (mW ad cJ cZ c0 (f_M_signedRight r0 p1) w0 s0)) A) ([.ref (ad 0), .int (p1)] : List Value).toArray s 0 0 A) (F0 m 231 ls []) := by
    intro r230n hj H locs hP hD hS ls hl
    have fe : f_M_signedRight r0 p1 = r230n := hj.trans rfl
    exact W.vret hx hb hr (fun t ht hW => ⟨⟨(), rfl, trivial, by rw [ht, fe]; exact hP, by rw [fe]; exact hD⟩, hS.F ht⟩) hS.2.2 d_M_signedRight_231
  have K230 : ∀ (s230_0 : Int64) (r185n : (Nat → VV)) (hj : f_M_signedRight r0 p1 = f_M_signedRight_230 r0 p1 s230_0 r185n) (H : Heap) (locs : List Loc) (hP : va_P (dC, dI) classes (mW ad cJ cZ c0 r185n w0 s0) H) (hD : va_D A (mW ad cJ cZ c0 r185n w0 s0)) (hS : va_S A s.heap H locs) (ls : Array Slot) (hl : lv_has ls 9 []), W p l e (headSpec w_M_signedRight ({ frames := 1, cells := 0, slots := 0, locals := 23 } : Room)).room s m ([.ref (ad 0), .int (p1)] : List Value).toArray below meth c H locs 0 0 (MQ below (va_Qv (fun _ : Unit => True) (mB (dC, dI) A (mW ad cJ cZ c0 (f_M_signedRight r0 p1) w0 s0)) A) ([.ref (ad 0), .int (p1)] : List Value).toArray s 0 0 A) (F0 m 230 ls [.long (s230_0), .int (18), .ref (ad 6)]) := by
    intro s230_0 r185n hj H locs hP hD hS ls hl
    refine ms_6 (P := 18) (x := s230_0) hx hb hK hP hD hS rfl (by decide) d_M_signedRight_230 (fun H locs hP hD hS => ?_)
    obtain ⟨r230n, er230n⟩ : ∃ z, z = u6 r185n 18 s230_0 := ⟨_, rfl⟩
    rw [← er230n] at hP hD
    refine K230u r230n (Eq.trans (hj.trans rfl) (congrArg (fun r230n => f_M_signedRight_230u r0 p1 r230n) er230n.symm)) H locs ?_ ?_ hS ls (lv_sub hl [] rfl)
    · with_reducible exact hP
    · with_reducible exact hD
  have K207v : ∀ (v207 : Int64) (v195 : Int64) (r185n : (Nat → VV)) (hj : f_M_signedRight r0 p1 = f_M_signedRight_207v r0 p1 v207 v195 r185n) (H : Heap) (locs : List Loc) (hP : va_P (dC, dI) classes (mW ad cJ cZ c0 r185n w0 s0) H) (hD : va_D A (mW ad cJ cZ c0 r185n w0 s0)) (hS : va_S A s.heap H locs) (ls : Array Slot) (hl : lv_has ls 9 [(7, .long (v207)), (5, .long (v195)), (0, .ref (ad 0))]), W p l e (headSpec w_M_signedRight ({ frames := 1, cells := 0, slots := 0, locals := 23 } : Room)).room s m ([.ref (ad 0), .int (p1)] : List Value).toArray below meth c H locs 0 0 (MQ below (va_Qv (fun _ : Unit => True) (mB (dC, dI) A (mW ad cJ cZ c0 (f_M_signedRight r0 p1) w0 s0)) A) ([.ref (ad 0), .int (p1)] : List Value).toArray s 0 0 A) (F0 m 209 ls []) := by
    intro v207 v195 r185n hj H locs hP hD hS ls hl
    refine lv_aload_n hx hb d_M_signedRight_209 rfl (lv_at hl 2 rfl) ?_
    refine va_get (D := (dC, dI)) (ci := 2) (v := .ref (ad 6)) (C := R_M) (T := F_M) (N := 10) hx hb hts (fun w h => List.mem_cons_of_mem _ (uw_M w h)) hown hK hP 0 rfl rfl 6 (by decide) (hG (.fieldLink R_M 25 "ValueSieveModel" "greatest" "[J") gx15) (fun _ h9 => h9) rfl d_M_signedRight_210 ?_
    refine lv_bipush (v := 18) hx hb d_M_signedRight_213 (by decide) ?_
    refine lv_lload hx hb d_M_signedRight_215 (lv_at hl 1 rfl) ?_
    refine lv_lload hx hb d_M_signedRight_217 (lv_at hl 0 rfl) ?_
    refine wl_ge (tgt := 228) hx hb d_M_signedRight_219 d_M_signedRight_220 (by decide) (fun e1_228 => ?_) (fun e1_228 => ?_)
    · refine lv_lload hx hb d_M_signedRight_228 (lv_at hl 1 rfl) ?_
      refine K230 v195 r185n (hj.trans (by unfold f_M_signedRight_207v; first | with_reducible exact if_neg e1_228 | exact if_neg e1_228)) H locs ?_ ?_ hS ls (lv_sub hl [] rfl)
      · with_reducible exact hP
      · with_reducible exact hD
    · refine lv_lload hx hb d_M_signedRight_223 (lv_at hl 0 rfl) ?_
      refine lv_goto (tgt := 230) hx hb d_M_signedRight_225 (by decide) ?_
      refine K230 v207 r185n (hj.trans (by unfold f_M_signedRight_207v; first | with_reducible exact if_pos e1_228 | exact if_pos e1_228)) H locs ?_ ?_ hS ls (lv_sub hl [] rfl)
      · with_reducible exact hP
      · with_reducible exact hD
  have K195v : ∀ (v195 : Int64) (s139_0 : Int32) (r185n : (Nat → VV)) (hj : f_M_signedRight r0 p1 = f_M_signedRight_195v r0 p1 v195 s139_0 r185n) (H : Heap) (locs : List Loc) (hP : va_P (dC, dI) classes (mW ad cJ cZ c0 r185n w0 s0) H) (hD : va_D A (mW ad cJ cZ c0 r185n w0 s0)) (hS : va_S A s.heap H locs) (ls : Array Slot) (hl : lv_has ls 9 [(5, .long (v195)), (4, .int (s139_0)), (0, .ref (ad 0))]), W p l e (headSpec w_M_signedRight ({ frames := 1, cells := 0, slots := 0, locals := 23 } : Room)).room s m ([.ref (ad 0), .int (p1)] : List Value).toArray below meth c H locs 0 0 (MQ below (va_Qv (fun _ : Unit => True) (mB (dC, dI) A (mW ad cJ cZ c0 (f_M_signedRight r0 p1) w0 s0)) A) ([.ref (ad 0), .int (p1)] : List Value).toArray s 0 0 A) (F0 m 197 ls []) := by
    intro v195 s139_0 r185n hj H locs hP hD hS ls hl
    refine lv_aload_n hx hb d_M_signedRight_197 rfl (lv_at hl 2 rfl) ?_
    refine va_get (D := (dC, dI)) (ci := 2) (v := .ref (ad 6)) (C := R_M) (T := F_M) (N := 10) hx hb hts (fun w h => List.mem_cons_of_mem _ (uw_M w h)) hown hK hP 0 rfl rfl 6 (by decide) (hG (.fieldLink R_M 25 "ValueSieveModel" "greatest" "[J") gx15) (fun _ h9 => h9) rfl d_M_signedRight_198 ?_
    refine lv_bipush (v := 16) hx hb d_M_signedRight_201 (by decide) ?_
    refine ml_6 (P := 16) hx hb hK hP rfl (by decide) d_M_signedRight_203 ?_
    refine lv_iload hx hb d_M_signedRight_204 (lv_at hl 1 rfl) ?_
    refine lv_lshr (v := ((r185n 16).2.2.2.2.2.1) >>> (s139_0.toInt64 &&& 63)) hx hb d_M_signedRight_206 rfl ?_
    refine lv_topl (fun v207 ev207 => ?_)
    refine lv_lstore (lv' := [(7, .long (v207)), (5, .long (v195)), (4, .int (s139_0)), (0, .ref (ad 0))]) hx hb d_M_signedRight_207 hl (by decide) rfl (fun ls hl => ?_)
    refine K207v v207 v195 r185n (Eq.trans (hj.trans rfl) (congrArg (fun v207 => f_M_signedRight_207v r0 p1 v207 v195 r185n) ev207.symm)) H locs ?_ ?_ hS ls (lv_sub hl [0, 1, 3] rfl)
    · with_reducible exact hP
    · with_reducible exact hD
  have K185u : ∀ (s139_0 : Int32) (s122_0 : Int32) (r185n : (Nat → VV)) (hj : f_M_signedRight r0 p1 = f_M_signedRight_185u r0 p1 s139_0 s122_0 r185n) (H : Heap) (locs : List Loc) (hP : va_P (dC, dI) classes (mW ad cJ cZ c0 r185n w0 s0) H) (hD : va_D A (mW ad cJ cZ c0 r185n w0 s0)) (hS : va_S A s.heap H locs) (ls : Array Slot) (hl : lv_has ls 9 [(4, .int (s139_0)), (3, .int (s122_0)), (0, .ref (ad 0))]), W p l e (headSpec w_M_signedRight ({ frames := 1, cells := 0, slots := 0, locals := 23 } : Room)).room s m ([.ref (ad 0), .int (p1)] : List Value).toArray below meth c H locs 0 0 (MQ below (va_Qv (fun _ : Unit => True) (mB (dC, dI) A (mW ad cJ cZ c0 (f_M_signedRight r0 p1) w0 s0)) A) ([.ref (ad 0), .int (p1)] : List Value).toArray s 0 0 A) (F0 m 186 ls []) := by
    intro s139_0 s122_0 r185n hj H locs hP hD hS ls hl
    refine lv_aload_n hx hb d_M_signedRight_186 rfl (lv_at hl 2 rfl) ?_
    refine va_get (D := (dC, dI)) (ci := 2) (v := .ref (ad 6)) (C := R_M) (T := F_M) (N := 10) hx hb hts (fun w h => List.mem_cons_of_mem _ (uw_M w h)) hown hK hP 0 rfl rfl 6 (by decide) (hG (.fieldLink R_M 25 "ValueSieveModel" "greatest" "[J") gx15) (fun _ h9 => h9) rfl d_M_signedRight_187 ?_
    refine lv_bipush (v := 16) hx hb d_M_signedRight_190 (by decide) ?_
    refine ml_6 (P := 16) hx hb hK hP rfl (by decide) d_M_signedRight_192 ?_
    refine lv_iload_n hx hb d_M_signedRight_193 rfl (lv_at hl 1 rfl) ?_
    refine lv_lshr (v := ((r185n 16).2.2.2.2.2.1) >>> (s122_0.toInt64 &&& 63)) hx hb d_M_signedRight_194 rfl ?_
    refine lv_topl (fun v195 ev195 => ?_)
    refine lv_lstore (lv' := [(5, .long (v195)), (4, .int (s139_0)), (3, .int (s122_0)), (0, .ref (ad 0))]) hx hb d_M_signedRight_195 hl (by decide) rfl (fun ls hl => ?_)
    refine K195v v195 s139_0 r185n (Eq.trans (hj.trans rfl) (congrArg (fun v195 => f_M_signedRight_195v r0 p1 v195 s139_0 r185n) ev195.symm)) H locs ?_ ?_ hS ls (lv_sub hl [0, 1, 3] rfl)
    · with_reducible exact hP
    · with_reducible exact hD
  have K185 : ∀ (s139_0 : Int32) (s122_0 : Int32) (s185_0 : Int64) (hj : f_M_signedRight r0 p1 = f_M_signedRight_185 r0 p1 s139_0 s122_0 s185_0) (H : Heap) (locs : List Loc) (hP : va_P (dC, dI) classes (mW ad cJ cZ c0 r0 w0 s0) H) (hD : va_D A (mW ad cJ cZ c0 r0 w0 s0)) (hS : va_S A s.heap H locs) (ls : Array Slot) (hl : lv_has ls 9 [(4, .int (s139_0)), (3, .int (s122_0)), (0, .ref (ad 0))]), W p l e (headSpec w_M_signedRight ({ frames := 1, cells := 0, slots := 0, locals := 23 } : Room)).room s m ([.ref (ad 0), .int (p1)] : List Value).toArray below meth c H locs 0 0 (MQ below (va_Qv (fun _ : Unit => True) (mB (dC, dI) A (mW ad cJ cZ c0 (f_M_signedRight r0 p1) w0 s0)) A) ([.ref (ad 0), .int (p1)] : List Value).toArray s 0 0 A) (F0 m 185 ls [.long (s185_0), .int (18), .ref (ad 5)]) := by
    intro s139_0 s122_0 s185_0 hj H locs hP hD hS ls hl
    refine ms_5 (P := 18) (x := s185_0) hx hb hK hP hD hS rfl (by decide) d_M_signedRight_185 (fun H locs hP hD hS => ?_)
    obtain ⟨r185n, er185n⟩ : ∃ z, z = u5 r0 18 s185_0 := ⟨_, rfl⟩
    rw [← er185n] at hP hD
    refine K185u s139_0 s122_0 r185n (Eq.trans (hj.trans rfl) (congrArg (fun r185n => f_M_signedRight_185u r0 p1 s139_0 s122_0 r185n) er185n.symm)) H locs ?_ ?_ hS ls (lv_sub hl [0, 1, 2] rfl)
    · with_reducible exact hP
    · with_reducible exact hD
  have K162v : ∀ (v162 : Int64) (v150 : Int64) (s139_0 : Int32) (s122_0 : Int32) (hj : f_M_signedRight r0 p1 = f_M_signedRight_162v r0 p1 v162 v150 s139_0 s122_0) (H : Heap) (locs : List Loc) (hP : va_P (dC, dI) classes (mW ad cJ cZ c0 r0 w0 s0) H) (hD : va_D A (mW ad cJ cZ c0 r0 w0 s0)) (hS : va_S A s.heap H locs) (ls : Array Slot) (hl : lv_has ls 9 [(7, .long (v162)), (5, .long (v150)), (4, .int (s139_0)), (3, .int (s122_0)), (0, .ref (ad 0))]), W p l e (headSpec w_M_signedRight ({ frames := 1, cells := 0, slots := 0, locals := 23 } : Room)).room s m ([.ref (ad 0), .int (p1)] : List Value).toArray below meth c H locs 0 0 (MQ below (va_Qv (fun _ : Unit => True) (mB (dC, dI) A (mW ad cJ cZ c0 (f_M_signedRight r0 p1) w0 s0)) A) ([.ref (ad 0), .int (p1)] : List Value).toArray s 0 0 A) (F0 m 164 ls []) := by
    intro v162 v150 s139_0 s122_0 hj H locs hP hD hS ls hl
    refine lv_aload_n hx hb d_M_signedRight_164 rfl (lv_at hl 4 rfl) ?_
    refine va_get (D := (dC, dI)) (ci := 2) (v := .ref (ad 5)) (C := R_M) (T := F_M) (N := 10) hx hb hts (fun w h => List.mem_cons_of_mem _ (uw_M w h)) hown hK hP 0 rfl rfl 5 (by decide) (hG (.fieldLink R_M 22 "ValueSieveModel" "least" "[J") gx14) (fun _ h9 => h9) rfl d_M_signedRight_165 ?_
    refine lv_bipush (v := 18) hx hb d_M_signedRight_168 (by decide) ?_
    refine lv_lload hx hb d_M_signedRight_170 (lv_at hl 1 rfl) ?_
    refine lv_lload hx hb d_M_signedRight_172 (lv_at hl 0 rfl) ?_
    refine wl_ge (tgt := 183) hx hb d_M_signedRight_174 d_M_signedRight_175 (by decide) (fun e1_183 => ?_) (fun e1_183 => ?_)
    · refine lv_lload hx hb d_M_signedRight_183 (lv_at hl 0 rfl) ?_
      refine K185 s139_0 s122_0 v162 (hj.trans (by unfold f_M_signedRight_162v; first | with_reducible exact if_neg e1_183 | exact if_neg e1_183)) H locs ?_ ?_ hS ls (lv_sub hl [2, 3, 4] rfl)
      · with_reducible exact hP
      · with_reducible exact hD
    · refine lv_lload hx hb d_M_signedRight_178 (lv_at hl 1 rfl) ?_
      refine lv_goto (tgt := 185) hx hb d_M_signedRight_180 (by decide) ?_
      refine K185 s139_0 s122_0 v150 (hj.trans (by unfold f_M_signedRight_162v; first | with_reducible exact if_pos e1_183 | exact if_pos e1_183)) H locs ?_ ?_ hS ls (lv_sub hl [2, 3, 4] rfl)
      · with_reducible exact hP
      · with_reducible exact hD
  have K150v : ∀ (v150 : Int64) (s139_0 : Int32) (s122_0 : Int32) (hj : f_M_signedRight r0 p1 = f_M_signedRight_150v r0 p1 v150 s139_0 s122_0) (H : Heap) (locs : List Loc) (hP : va_P (dC, dI) classes (mW ad cJ cZ c0 r0 w0 s0) H) (hD : va_D A (mW ad cJ cZ c0 r0 w0 s0)) (hS : va_S A s.heap H locs) (ls : Array Slot) (hl : lv_has ls 9 [(5, .long (v150)), (4, .int (s139_0)), (3, .int (s122_0)), (0, .ref (ad 0))]), W p l e (headSpec w_M_signedRight ({ frames := 1, cells := 0, slots := 0, locals := 23 } : Room)).room s m ([.ref (ad 0), .int (p1)] : List Value).toArray below meth c H locs 0 0 (MQ below (va_Qv (fun _ : Unit => True) (mB (dC, dI) A (mW ad cJ cZ c0 (f_M_signedRight r0 p1) w0 s0)) A) ([.ref (ad 0), .int (p1)] : List Value).toArray s 0 0 A) (F0 m 152 ls []) := by
    intro v150 s139_0 s122_0 hj H locs hP hD hS ls hl
    refine lv_aload_n hx hb d_M_signedRight_152 rfl (lv_at hl 3 rfl) ?_
    refine va_get (D := (dC, dI)) (ci := 2) (v := .ref (ad 5)) (C := R_M) (T := F_M) (N := 10) hx hb hts (fun w h => List.mem_cons_of_mem _ (uw_M w h)) hown hK hP 0 rfl rfl 5 (by decide) (hG (.fieldLink R_M 22 "ValueSieveModel" "least" "[J") gx14) (fun _ h9 => h9) rfl d_M_signedRight_153 ?_
    refine lv_bipush (v := 16) hx hb d_M_signedRight_156 (by decide) ?_
    refine ml_5 (P := 16) hx hb hK hP rfl (by decide) d_M_signedRight_158 ?_
    refine lv_iload hx hb d_M_signedRight_159 (lv_at hl 1 rfl) ?_
    refine lv_lshr (v := ((r0 16).2.2.2.2.1) >>> (s139_0.toInt64 &&& 63)) hx hb d_M_signedRight_161 rfl ?_
    refine lv_topl (fun v162 ev162 => ?_)
    refine lv_lstore (lv' := [(7, .long (v162)), (5, .long (v150)), (4, .int (s139_0)), (3, .int (s122_0)), (0, .ref (ad 0))]) hx hb d_M_signedRight_162 hl (by decide) rfl (fun ls hl => ?_)
    refine K162v v162 v150 s139_0 s122_0 (Eq.trans (hj.trans rfl) (congrArg (fun v162 => f_M_signedRight_162v r0 p1 v162 v150 s139_0 s122_0) ev162.symm)) H locs ?_ ?_ hS ls (lv_sub hl [0, 1, 2, 3, 4] rfl)
    · with_reducible exact hP
    · with_reducible exact hD
  have K139 : ∀ (s122_0 : Int32) (s139_0 : Int32) (hj : f_M_signedRight r0 p1 = f_M_signedRight_139 r0 p1 s122_0 s139_0) (H : Heap) (locs : List Loc) (hP : va_P (dC, dI) classes (mW ad cJ cZ c0 r0 w0 s0) H) (hD : va_D A (mW ad cJ cZ c0 r0 w0 s0)) (hS : va_S A s.heap H locs) (ls : Array Slot) (hl : lv_has ls 9 [(3, .int (s122_0)), (0, .ref (ad 0))]), W p l e (headSpec w_M_signedRight ({ frames := 1, cells := 0, slots := 0, locals := 23 } : Room)).room s m ([.ref (ad 0), .int (p1)] : List Value).toArray below meth c H locs 0 0 (MQ below (va_Qv (fun _ : Unit => True) (mB (dC, dI) A (mW ad cJ cZ c0 (f_M_signedRight r0 p1) w0 s0)) A) ([.ref (ad 0), .int (p1)] : List Value).toArray s 0 0 A) (F0 m 139 ls [.int (s139_0)]) := by
    intro s122_0 s139_0 hj H locs hP hD hS ls hl
    refine lv_istore (lv' := [(4, .int (s139_0)), (3, .int (s122_0)), (0, .ref (ad 0))]) hx hb d_M_signedRight_139 hl (by decide) rfl (fun ls hl => ?_)
    refine lv_aload_n hx hb d_M_signedRight_141 rfl (lv_at hl 2 rfl) ?_
    refine va_get (D := (dC, dI)) (ci := 2) (v := .ref (ad 5)) (C := R_M) (T := F_M) (N := 10) hx hb hts (fun w h => List.mem_cons_of_mem _ (uw_M w h)) hown hK hP 0 rfl rfl 5 (by decide) (hG (.fieldLink R_M 22 "ValueSieveModel" "least" "[J") gx14) (fun _ h9 => h9) rfl d_M_signedRight_142 ?_
    refine lv_bipush (v := 16) hx hb d_M_signedRight_145 (by decide) ?_
    refine ml_5 (P := 16) hx hb hK hP rfl (by decide) d_M_signedRight_147 ?_
    refine lv_iload_n hx hb d_M_signedRight_148 rfl (lv_at hl 1 rfl) ?_
    refine lv_lshr (v := ((r0 16).2.2.2.2.1) >>> (s122_0.toInt64 &&& 63)) hx hb d_M_signedRight_149 rfl ?_
    refine lv_topl (fun v150 ev150 => ?_)
    refine lv_lstore (lv' := [(5, .long (v150)), (4, .int (s139_0)), (3, .int (s122_0)), (0, .ref (ad 0))]) hx hb d_M_signedRight_150 hl (by decide) rfl (fun ls hl => ?_)
    refine K150v v150 s139_0 s122_0 (Eq.trans (hj.trans rfl) (congrArg (fun v150 => f_M_signedRight_150v r0 p1 v150 s139_0 s122_0) ev150.symm)) H locs ?_ ?_ hS ls (lv_sub hl [0, 1, 2, 3] rfl)
    · with_reducible exact hP
    · with_reducible exact hD
  have K122 : ∀ (s105_0 : Bool) (s122_0 : Int32) (hj : f_M_signedRight r0 p1 = f_M_signedRight_122 r0 p1 s105_0 s122_0) (H : Heap) (locs : List Loc) (hP : va_P (dC, dI) classes (mW ad cJ cZ c0 r0 w0 s0) H) (hD : va_D A (mW ad cJ cZ c0 r0 w0 s0)) (hS : va_S A s.heap H locs) (ls : Array Slot) (hl : lv_has ls 9 [(2, .int (bI s105_0)), (0, .ref (ad 0)), (1, .int (p1))]), W p l e (headSpec w_M_signedRight ({ frames := 1, cells := 0, slots := 0, locals := 23 } : Room)).room s m ([.ref (ad 0), .int (p1)] : List Value).toArray below meth c H locs 0 0 (MQ below (va_Qv (fun _ : Unit => True) (mB (dC, dI) A (mW ad cJ cZ c0 (f_M_signedRight r0 p1) w0 s0)) A) ([.ref (ad 0), .int (p1)] : List Value).toArray s 0 0 A) (F0 m 122 ls [.int (s122_0)]) := by
    intro s105_0 s122_0 hj H locs hP hD hS ls hl
    refine lv_istore_n (lv' := [(3, .int (s122_0)), (2, .int (bI s105_0)), (0, .ref (ad 0)), (1, .int (p1))]) hx hb d_M_signedRight_122 rfl hl (by decide) rfl (fun ls hl => ?_)
    refine lv_iload_n hx hb d_M_signedRight_123 rfl (lv_at hl 1 rfl) ?_
    refine wz_eq (tgt := 138) hx hb d_M_signedRight_124 (by decide) (fun e1_138 => ?_) (fun e1_138 => ?_)
    · refine lv_iload_n hx hb d_M_signedRight_138 rfl (lv_at hl 3 rfl) ?_
      refine K139 s122_0 p1 (hj.trans (by unfold f_M_signedRight_122; first | with_reducible exact if_neg e1_138 | exact if_neg e1_138)) H locs ?_ ?_ hS ls (lv_sub hl [0, 2] rfl)
      · with_reducible exact hP
      · with_reducible exact hD
    · refine lv_aload_n hx hb d_M_signedRight_127 rfl (lv_at hl 2 rfl) ?_
      refine va_get (D := (dC, dI)) (ci := 2) (v := .ref (ad 4)) (C := R_M) (T := F_M) (N := 10) hx hb hts (fun w h => List.mem_cons_of_mem _ (uw_M w h)) hown hK hP 0 rfl rfl 4 (by decide) (hG (.fieldLink R_M 19 "ValueSieveModel" "high" "[J") gx13) (fun _ h9 => h9) rfl d_M_signedRight_128 ?_
      refine lv_bipush (v := 17) hx hb d_M_signedRight_131 (by decide) ?_
      refine ml_4 (P := 17) hx hb hK hP rfl (by decide) d_M_signedRight_133 ?_
      refine lv_l2i (v := ((r0 17).2.2.2.1).toInt32) hx hb d_M_signedRight_134 rfl ?_
      refine lv_goto (tgt := 139) hx hb d_M_signedRight_135 (by decide) ?_
      refine K139 s122_0 (((r0 17).2.2.2.1).toInt32) (hj.trans (by unfold f_M_signedRight_122; first | with_reducible exact if_pos e1_138 | exact if_pos e1_138)) H locs ?_ ?_ hS ls (lv_sub hl [0, 2] rfl)
      · with_reducible exact hP
      · with_reducible exact hD
  have K105 : ∀ (s105_0 : Bool) (hj : f_M_signedRight r0 p1 = f_M_signedRight_105 r0 p1 s105_0) (H : Heap) (locs : List Loc) (hP : va_P (dC, dI) classes (mW ad cJ cZ c0 r0 w0 s0) H) (hD : va_D A (mW ad cJ cZ c0 r0 w0 s0)) (hS : va_S A s.heap H locs) (ls : Array Slot) (hl : lv_has ls 9 [(0, .ref (ad 0)), (1, .int (p1))]), W p l e (headSpec w_M_signedRight ({ frames := 1, cells := 0, slots := 0, locals := 23 } : Room)).room s m ([.ref (ad 0), .int (p1)] : List Value).toArray below meth c H locs 0 0 (MQ below (va_Qv (fun _ : Unit => True) (mB (dC, dI) A (mW ad cJ cZ c0 (f_M_signedRight r0 p1) w0 s0)) A) ([.ref (ad 0), .int (p1)] : List Value).toArray s 0 0 A) (F0 m 105 ls [.int (bI s105_0)]) := by
    intro s105_0 hj H locs hP hD hS ls hl
    refine lv_istore_n (lv' := [(2, .int (bI s105_0)), (0, .ref (ad 0)), (1, .int (p1))]) hx hb d_M_signedRight_105 rfl hl (by decide) rfl (fun ls hl => ?_)
    refine lv_iload_n hx hb d_M_signedRight_106 rfl (lv_at hl 0 rfl) ?_
    refine wz_eq (tgt := 121) hx hb d_M_signedRight_107 (by decide) (fun e1_121 => ?_) (fun e1_121 => ?_)
    · refine lv_iconst (v := 0) hx hb d_M_signedRight_121 (by decide) ?_
      refine K122 s105_0 0 (hj.trans (by unfold f_M_signedRight_105; first | with_reducible exact if_neg e1_121 | exact if_neg e1_121)) H locs ?_ ?_ hS ls (lv_sub hl [0, 1, 2] rfl)
      · with_reducible exact hP
      · with_reducible exact hD
    · refine lv_aload_n hx hb d_M_signedRight_110 rfl (lv_at hl 1 rfl) ?_
      refine va_get (D := (dC, dI)) (ci := 2) (v := .ref (ad 3)) (C := R_M) (T := F_M) (N := 10) hx hb hts (fun w h => List.mem_cons_of_mem _ (uw_M w h)) hown hK hP 0 rfl rfl 3 (by decide) (hG (.fieldLink R_M 16 "ValueSieveModel" "low" "[J") gx12) (fun _ h9 => h9) rfl d_M_signedRight_111 ?_
      refine lv_bipush (v := 17) hx hb d_M_signedRight_114 (by decide) ?_
      refine ml_3 (P := 17) hx hb hK hP rfl (by decide) d_M_signedRight_116 ?_
      refine lv_l2i (v := ((r0 17).2.2.1).toInt32) hx hb d_M_signedRight_117 rfl ?_
      refine lv_goto (tgt := 122) hx hb d_M_signedRight_118 (by decide) ?_
      refine K122 s105_0 (((r0 17).2.2.1).toInt32) (hj.trans (by unfold f_M_signedRight_105; first | with_reducible exact if_pos e1_121 | exact if_pos e1_121)) H locs ?_ ?_ hS ls (lv_sub hl [0, 1, 2] rfl)
      · with_reducible exact hP
      · with_reducible exact hD
  have K83u : ∀ (r83n : (Nat → VV)) (hj : f_M_signedRight r0 p1 = f_M_signedRight_83u r0 p1 r83n) (H : Heap) (locs : List Loc) (hP : va_P (dC, dI) classes (mW ad cJ cZ c0 r83n w0 s0) H) (hD : va_D A (mW ad cJ cZ c0 r83n w0 s0)) (hS : va_S A s.heap H locs) (ls : Array Slot) (hl : lv_has ls 9 []), W p l e (headSpec w_M_signedRight ({ frames := 1, cells := 0, slots := 0, locals := 23 } : Room)).room s m ([.ref (ad 0), .int (p1)] : List Value).toArray below meth c H locs 0 0 (MQ below (va_Qv (fun _ : Unit => True) (mB (dC, dI) A (mW ad cJ cZ c0 (f_M_signedRight r0 p1) w0 s0)) A) ([.ref (ad 0), .int (p1)] : List Value).toArray s 0 0 A) (F0 m 84 ls []) := by
    intro r83n hj H locs hP hD hS ls hl
    have fe : f_M_signedRight r0 p1 = r83n := hj.trans rfl
    exact W.vret hx hb hr (fun t ht hW => ⟨⟨(), rfl, trivial, by rw [ht, fe]; exact hP, by rw [fe]; exact hD⟩, hS.F ht⟩) hS.2.2 d_M_signedRight_84
  have K67u : ∀ (v19 : Int32) (r67n : (Nat → VV)) (hj : f_M_signedRight r0 p1 = f_M_signedRight_67u r0 p1 v19 r67n) (H : Heap) (locs : List Loc) (hP : va_P (dC, dI) classes (mW ad cJ cZ c0 r67n w0 s0) H) (hD : va_D A (mW ad cJ cZ c0 r67n w0 s0)) (hS : va_S A s.heap H locs) (ls : Array Slot) (hl : lv_has ls 9 [(2, .int (v19)), (0, .ref (ad 0))]), W p l e (headSpec w_M_signedRight ({ frames := 1, cells := 0, slots := 0, locals := 23 } : Room)).room s m ([.ref (ad 0), .int (p1)] : List Value).toArray below meth c H locs 0 0 (MQ below (va_Qv (fun _ : Unit => True) (mB (dC, dI) A (mW ad cJ cZ c0 (f_M_signedRight r0 p1) w0 s0)) A) ([.ref (ad 0), .int (p1)] : List Value).toArray s 0 0 A) (F0 m 68 ls []) := by
    intro v19 r67n hj H locs hP hD hS ls hl
    refine lv_aload_n hx hb d_M_signedRight_68 rfl (lv_at hl 1 rfl) ?_
    refine va_get (D := (dC, dI)) (ci := 2) (v := .ref (ad 6)) (C := R_M) (T := F_M) (N := 10) hx hb hts (fun w h => List.mem_cons_of_mem _ (uw_M w h)) hown hK hP 0 rfl rfl 6 (by decide) (hG (.fieldLink R_M 25 "ValueSieveModel" "greatest" "[J") gx15) (fun _ h9 => h9) rfl d_M_signedRight_69 ?_
    refine lv_bipush (v := 18) hx hb d_M_signedRight_72 (by decide) ?_
    refine lv_aload_n hx hb d_M_signedRight_74 rfl (lv_at hl 1 rfl) ?_
    refine va_get (D := (dC, dI)) (ci := 2) (v := .ref (ad 6)) (C := R_M) (T := F_M) (N := 10) hx hb hts (fun w h => List.mem_cons_of_mem _ (uw_M w h)) hown hK hP 0 rfl rfl 6 (by decide) (hG (.fieldLink R_M 25 "ValueSieveModel" "greatest" "[J") gx15) (fun _ h9 => h9) rfl d_M_signedRight_75 ?_
    refine lv_bipush (v := 16) hx hb d_M_signedRight_78 (by decide) ?_
    refine ml_6 (P := 16) hx hb hK hP rfl (by decide) d_M_signedRight_80 ?_
    refine lv_iload_n hx hb d_M_signedRight_81 rfl (lv_at hl 0 rfl) ?_
    refine lv_lshr (v := ((r67n 16).2.2.2.2.2.1) >>> (v19.toInt64 &&& 63)) hx hb d_M_signedRight_82 rfl ?_
    refine ms_6 (P := 18) (x := ((r67n 16).2.2.2.2.2.1) >>> (v19.toInt64 &&& 63)) hx hb hK hP hD hS rfl (by decide) d_M_signedRight_83 (fun H locs hP hD hS => ?_)
    obtain ⟨r83n, er83n⟩ : ∃ z, z = u6 r67n 18 (((r67n 16).2.2.2.2.2.1) >>> (v19.toInt64 &&& 63)) := ⟨_, rfl⟩
    rw [← er83n] at hP hD
    refine K83u r83n (Eq.trans (hj.trans rfl) (congrArg (fun r83n => f_M_signedRight_83u r0 p1 r83n) er83n.symm)) H locs ?_ ?_ hS ls (lv_sub hl [] rfl)
    · with_reducible exact hP
    · with_reducible exact hD
  have K51u : ∀ (v19 : Int32) (r51n : (Nat → VV)) (hj : f_M_signedRight r0 p1 = f_M_signedRight_51u r0 p1 v19 r51n) (H : Heap) (locs : List Loc) (hP : va_P (dC, dI) classes (mW ad cJ cZ c0 r51n w0 s0) H) (hD : va_D A (mW ad cJ cZ c0 r51n w0 s0)) (hS : va_S A s.heap H locs) (ls : Array Slot) (hl : lv_has ls 9 [(2, .int (v19)), (0, .ref (ad 0))]), W p l e (headSpec w_M_signedRight ({ frames := 1, cells := 0, slots := 0, locals := 23 } : Room)).room s m ([.ref (ad 0), .int (p1)] : List Value).toArray below meth c H locs 0 0 (MQ below (va_Qv (fun _ : Unit => True) (mB (dC, dI) A (mW ad cJ cZ c0 (f_M_signedRight r0 p1) w0 s0)) A) ([.ref (ad 0), .int (p1)] : List Value).toArray s 0 0 A) (F0 m 52 ls []) := by
    intro v19 r51n hj H locs hP hD hS ls hl
    refine lv_aload_n hx hb d_M_signedRight_52 rfl (lv_at hl 1 rfl) ?_
    refine va_get (D := (dC, dI)) (ci := 2) (v := .ref (ad 5)) (C := R_M) (T := F_M) (N := 10) hx hb hts (fun w h => List.mem_cons_of_mem _ (uw_M w h)) hown hK hP 0 rfl rfl 5 (by decide) (hG (.fieldLink R_M 22 "ValueSieveModel" "least" "[J") gx14) (fun _ h9 => h9) rfl d_M_signedRight_53 ?_
    refine lv_bipush (v := 18) hx hb d_M_signedRight_56 (by decide) ?_
    refine lv_aload_n hx hb d_M_signedRight_58 rfl (lv_at hl 1 rfl) ?_
    refine va_get (D := (dC, dI)) (ci := 2) (v := .ref (ad 5)) (C := R_M) (T := F_M) (N := 10) hx hb hts (fun w h => List.mem_cons_of_mem _ (uw_M w h)) hown hK hP 0 rfl rfl 5 (by decide) (hG (.fieldLink R_M 22 "ValueSieveModel" "least" "[J") gx14) (fun _ h9 => h9) rfl d_M_signedRight_59 ?_
    refine lv_bipush (v := 16) hx hb d_M_signedRight_62 (by decide) ?_
    refine ml_5 (P := 16) hx hb hK hP rfl (by decide) d_M_signedRight_64 ?_
    refine lv_iload_n hx hb d_M_signedRight_65 rfl (lv_at hl 0 rfl) ?_
    refine lv_lshr (v := ((r51n 16).2.2.2.2.1) >>> (v19.toInt64 &&& 63)) hx hb d_M_signedRight_66 rfl ?_
    refine ms_5 (P := 18) (x := ((r51n 16).2.2.2.2.1) >>> (v19.toInt64 &&& 63)) hx hb hK hP hD hS rfl (by decide) d_M_signedRight_67 (fun H locs hP hD hS => ?_)
    obtain ⟨r67n, er67n⟩ : ∃ z, z = u5 r51n 18 (((r51n 16).2.2.2.2.1) >>> (v19.toInt64 &&& 63)) := ⟨_, rfl⟩
    rw [← er67n] at hP hD
    refine K67u v19 r67n (Eq.trans (hj.trans rfl) (congrArg (fun r67n => f_M_signedRight_67u r0 p1 v19 r67n) er67n.symm)) H locs ?_ ?_ hS ls (lv_sub hl [0, 1] rfl)
    · with_reducible exact hP
    · with_reducible exact hD
  have K35u : ∀ (v19 : Int32) (r35n : (Nat → VV)) (hj : f_M_signedRight r0 p1 = f_M_signedRight_35u r0 p1 v19 r35n) (H : Heap) (locs : List Loc) (hP : va_P (dC, dI) classes (mW ad cJ cZ c0 r35n w0 s0) H) (hD : va_D A (mW ad cJ cZ c0 r35n w0 s0)) (hS : va_S A s.heap H locs) (ls : Array Slot) (hl : lv_has ls 9 [(2, .int (v19)), (0, .ref (ad 0))]), W p l e (headSpec w_M_signedRight ({ frames := 1, cells := 0, slots := 0, locals := 23 } : Room)).room s m ([.ref (ad 0), .int (p1)] : List Value).toArray below meth c H locs 0 0 (MQ below (va_Qv (fun _ : Unit => True) (mB (dC, dI) A (mW ad cJ cZ c0 (f_M_signedRight r0 p1) w0 s0)) A) ([.ref (ad 0), .int (p1)] : List Value).toArray s 0 0 A) (F0 m 36 ls []) := by
    intro v19 r35n hj H locs hP hD hS ls hl
    refine lv_aload_n hx hb d_M_signedRight_36 rfl (lv_at hl 1 rfl) ?_
    refine va_get (D := (dC, dI)) (ci := 2) (v := .ref (ad 2)) (C := R_M) (T := F_M) (N := 10) hx hb hts (fun w h => List.mem_cons_of_mem _ (uw_M w h)) hown hK hP 0 rfl rfl 2 (by decide) (hG (.fieldLink R_M 13 "ValueSieveModel" "open" "[J") gx11) (fun _ h9 => h9) rfl d_M_signedRight_37 ?_
    refine lv_bipush (v := 18) hx hb d_M_signedRight_40 (by decide) ?_
    refine lv_aload_n hx hb d_M_signedRight_42 rfl (lv_at hl 1 rfl) ?_
    refine va_get (D := (dC, dI)) (ci := 2) (v := .ref (ad 2)) (C := R_M) (T := F_M) (N := 10) hx hb hts (fun w h => List.mem_cons_of_mem _ (uw_M w h)) hown hK hP 0 rfl rfl 2 (by decide) (hG (.fieldLink R_M 13 "ValueSieveModel" "open" "[J") gx11) (fun _ h9 => h9) rfl d_M_signedRight_43 ?_
    refine lv_bipush (v := 16) hx hb d_M_signedRight_46 (by decide) ?_
    refine ml_2 (P := 16) hx hb hK hP rfl (by decide) d_M_signedRight_48 ?_
    refine lv_iload_n hx hb d_M_signedRight_49 rfl (lv_at hl 0 rfl) ?_
    refine lv_lshr (v := ((r35n 16).2.1) >>> (v19.toInt64 &&& 63)) hx hb d_M_signedRight_50 rfl ?_
    refine ms_2 (P := 18) (x := ((r35n 16).2.1) >>> (v19.toInt64 &&& 63)) hx hb hK hP hD hS rfl (by decide) d_M_signedRight_51 (fun H locs hP hD hS => ?_)
    obtain ⟨r51n, er51n⟩ : ∃ z, z = u2 r35n 18 (((r35n 16).2.1) >>> (v19.toInt64 &&& 63)) := ⟨_, rfl⟩
    rw [← er51n] at hP hD
    refine K51u v19 r51n (Eq.trans (hj.trans rfl) (congrArg (fun r51n => f_M_signedRight_51u r0 p1 v19 r51n) er51n.symm)) H locs ?_ ?_ hS ls (lv_sub hl [0, 1] rfl)
    · with_reducible exact hP
    · with_reducible exact hD
  have K19v : ∀ (v19 : Int32) (hj : f_M_signedRight r0 p1 = f_M_signedRight_19v r0 p1 v19) (H : Heap) (locs : List Loc) (hP : va_P (dC, dI) classes (mW ad cJ cZ c0 r0 w0 s0) H) (hD : va_D A (mW ad cJ cZ c0 r0 w0 s0)) (hS : va_S A s.heap H locs) (ls : Array Slot) (hl : lv_has ls 9 [(2, .int (v19)), (0, .ref (ad 0))]), W p l e (headSpec w_M_signedRight ({ frames := 1, cells := 0, slots := 0, locals := 23 } : Room)).room s m ([.ref (ad 0), .int (p1)] : List Value).toArray below meth c H locs 0 0 (MQ below (va_Qv (fun _ : Unit => True) (mB (dC, dI) A (mW ad cJ cZ c0 (f_M_signedRight r0 p1) w0 s0)) A) ([.ref (ad 0), .int (p1)] : List Value).toArray s 0 0 A) (F0 m 20 ls []) := by
    intro v19 hj H locs hP hD hS ls hl
    refine lv_aload_n hx hb d_M_signedRight_20 rfl (lv_at hl 1 rfl) ?_
    refine va_get (D := (dC, dI)) (ci := 2) (v := .ref (ad 1)) (C := R_M) (T := F_M) (N := 10) hx hb hts (fun w h => List.mem_cons_of_mem _ (uw_M w h)) hown hK hP 0 rfl rfl 1 (by decide) (hG (.fieldLink R_M 7 "ValueSieveModel" "bits" "[J") gx10) (fun _ h9 => h9) rfl d_M_signedRight_21 ?_
    refine lv_bipush (v := 18) hx hb d_M_signedRight_24 (by decide) ?_
    refine lv_aload_n hx hb d_M_signedRight_26 rfl (lv_at hl 1 rfl) ?_
    refine va_get (D := (dC, dI)) (ci := 2) (v := .ref (ad 1)) (C := R_M) (T := F_M) (N := 10) hx hb hts (fun w h => List.mem_cons_of_mem _ (uw_M w h)) hown hK hP 0 rfl rfl 1 (by decide) (hG (.fieldLink R_M 7 "ValueSieveModel" "bits" "[J") gx10) (fun _ h9 => h9) rfl d_M_signedRight_27 ?_
    refine lv_bipush (v := 16) hx hb d_M_signedRight_30 (by decide) ?_
    refine ml_1 (P := 16) hx hb hK hP rfl (by decide) d_M_signedRight_32 ?_
    refine lv_iload_n hx hb d_M_signedRight_33 rfl (lv_at hl 0 rfl) ?_
    refine lv_lshr (v := ((r0 16).1) >>> (v19.toInt64 &&& 63)) hx hb d_M_signedRight_34 rfl ?_
    refine ms_1 (P := 18) (x := ((r0 16).1) >>> (v19.toInt64 &&& 63)) hx hb hK hP hD hS rfl (by decide) d_M_signedRight_35 (fun H locs hP hD hS => ?_)
    obtain ⟨r35n, er35n⟩ : ∃ z, z = u1 r0 18 (((r0 16).1) >>> (v19.toInt64 &&& 63)) := ⟨_, rfl⟩
    rw [← er35n] at hP hD
    refine K35u v19 r35n (Eq.trans (hj.trans rfl) (congrArg (fun r35n => f_M_signedRight_35u r0 p1 v19 r35n) er35n.symm)) H locs ?_ ?_ hS ls (lv_sub hl [0, 1] rfl)
    · with_reducible exact hP
    · with_reducible exact hD
  refine lv_aload_n hx hb d_M_signedRight_0 rfl (lv_at hl 0 rfl) ?_
  refine lv_bipush (v := 17) hx hb d_M_signedRight_1 (by decide) ?_
  refine rc_i (W.runV (As := [.int (17)]) (rest := []) ⟨hx, hb, hml, hown, hts⟩ (c_M_isSingle l dC dI ad cJ cZ c0 r0 w0 s0 17 (by decide)) (cwV 1 hts (gxV gx182 gx183 gx270 gx0 gx184) rfl rfl rfl (by decide +kernel) ⟨(Nat.le_of_ble_eq_true rfl), (Nat.le_of_ble_eq_true rfl)⟩) ⟨bln, va_recv hK hP (ci := 2) (q0 := 0) rfl rfl, fun U hU hW => ⟨rfl, by rw [hU]; exact hP, va_K.moved hW.alike hK⟩⟩ rfl rfl hl.1 rfl (lv_room (Nat.le_of_ble_eq_true rfl)) d_M_signedRight_3 ⟨Nat.zero_le _, Nat.zero_le _⟩) ?_
  refine wz_eq (tgt := 85) hx hb d_M_signedRight_6 (by decide) (fun e1_85 => ?_) (fun e1_85 => ?_)
  · refine lv_iload_n hx hb d_M_signedRight_85 rfl (lv_at hl 1 rfl) ?_
    refine lv_i2l (v := p1.toInt64) hx hb d_M_signedRight_86 rfl ?_
    refine lv_aload_n hx hb d_M_signedRight_87 rfl (lv_at hl 0 rfl) ?_
    refine va_get (D := (dC, dI)) (ci := 2) (v := .ref (ad 4)) (C := R_M) (T := F_M) (N := 10) hx hb hts (fun w h => List.mem_cons_of_mem _ (uw_M w h)) hown hK hP 0 rfl rfl 4 (by decide) (hG (.fieldLink R_M 19 "ValueSieveModel" "high" "[J") gx13) (fun _ h9 => h9) rfl d_M_signedRight_88 ?_
    refine lv_bipush (v := 17) hx hb d_M_signedRight_91 (by decide) ?_
    refine ml_4 (P := 17) hx hb hK hP rfl (by decide) d_M_signedRight_93 ?_
    refine rc_i (W.runS (As := [.long (p1.toInt64), .long ((r0 17).2.2.2.1)]) (rest := []) ⟨hx, hb, hml, hown, hts⟩ (c_M_below l p1.toInt64 ((r0 17).2.2.2.1)) (va_cwS 2 hts (gxS gx57 gx58 gx0 gx59) rfl rfl rfl (by decide +kernel) ⟨(Nat.le_of_ble_eq_true rfl), (Nat.le_of_ble_eq_true rfl)⟩) ⟨bl0, fun U hU hW => ⟨rfl, trivial⟩⟩ rfl rfl hl.1 rfl (lv_room (Nat.le_of_ble_eq_true rfl)) d_M_signedRight_94 ⟨Nat.zero_le _, Nat.zero_le _⟩) ?_
    refine wz_ne (tgt := 104) hx hb d_M_signedRight_97 (by decide) (fun e2_104 => ?_) (fun e2_104 => ?_)
    · refine lv_iconst (v := 0) hx hb d_M_signedRight_104 (by decide) ?_
      refine K105 false (by unfold f_M_signedRight; first | with_reducible exact (if_neg e1_85).trans (if_pos e2_104) | exact (if_neg e1_85).trans (if_pos e2_104)) s.heap [] ?_ ?_ hS ls (lv_sub hl [0, 1] rfl)
      · with_reducible exact hP
      · with_reducible exact hD
    · refine lv_iconst (v := 1) hx hb d_M_signedRight_100 (by decide) ?_
      refine lv_goto (tgt := 105) hx hb d_M_signedRight_101 (by decide) ?_
      refine K105 true (by unfold f_M_signedRight; first | with_reducible exact (if_neg e1_85).trans (if_neg e2_104) | exact (if_neg e1_85).trans (if_neg e2_104)) s.heap [] ?_ ?_ hS ls (lv_sub hl [0, 1] rfl)
      · with_reducible exact hP
      · with_reducible exact hD
  · refine lv_aload_n hx hb d_M_signedRight_9 rfl (lv_at hl 0 rfl) ?_
    refine va_get (D := (dC, dI)) (ci := 2) (v := .ref (ad 3)) (C := R_M) (T := F_M) (N := 10) hx hb hts (fun w h => List.mem_cons_of_mem _ (uw_M w h)) hown hK hP 0 rfl rfl 3 (by decide) (hG (.fieldLink R_M 16 "ValueSieveModel" "low" "[J") gx12) (fun _ h9 => h9) rfl d_M_signedRight_10 ?_
    refine lv_bipush (v := 17) hx hb d_M_signedRight_13 (by decide) ?_
    refine ml_3 (P := 17) hx hb hK hP rfl (by decide) d_M_signedRight_15 ?_
    refine lv_l2i (v := ((r0 17).2.2.1).toInt32) hx hb d_M_signedRight_16 rfl ?_
    refine lv_iload_n hx hb d_M_signedRight_17 rfl (lv_at hl 1 rfl) ?_
    refine lv_iand hx hb d_M_signedRight_18 ?_
    refine lv_topi (fun v19 ev19 => ?_)
    refine lv_istore_n (lv' := [(2, .int (v19)), (0, .ref (ad 0)), (1, .int (p1))]) hx hb d_M_signedRight_19 rfl hl (by decide) rfl (fun ls hl => ?_)
    refine K19v v19 (Eq.trans (by unfold f_M_signedRight; first | with_reducible exact if_pos e1_85 | exact if_pos e1_85) (congrArg (fun v19 => f_M_signedRight_19v r0 p1 v19) ev19.symm)) s.heap [] ?_ ?_ hS ls (lv_sub hl [0, 1] rfl)
    · with_reducible exact hP
    · with_reducible exact hD
-- apply
theorem d_M_apply_0 : decode b_M_apply 0 = .ok (.aload_n 0, 1) := by decide +kernel
theorem d_M_apply_1 : decode b_M_apply 1 = .ok (.bipush 18, 2) := by decide +kernel
theorem d_M_apply_3 : decode b_M_apply 3 = .ok (.invokevirtual 102, 3) := by decide +kernel
theorem d_M_apply_6 : decode b_M_apply 6 = .ok (.iload_n 1, 1) := by decide +kernel
theorem d_M_apply_7 : decode b_M_apply 7 = .ok (.tableswitch 137 0 10 #[57, 64, 71, 78, 85, 92, 99, 106, 113, 121, 129], 57) := by decide +kernel
theorem d_M_apply_64 : decode b_M_apply 64 = .ok (.aload_n 0, 1) := by decide +kernel
theorem d_M_apply_65 : decode b_M_apply 65 = .ok (.invokevirtual 163, 3) := by decide +kernel
theorem d_M_apply_68 : decode b_M_apply 68 = .ok (.goto 84, 3) := by decide +kernel
theorem d_M_apply_71 : decode b_M_apply 71 = .ok (.aload_n 0, 1) := by decide +kernel
theorem d_M_apply_72 : decode b_M_apply 72 = .ok (.invokevirtual 166, 3) := by decide +kernel
theorem d_M_apply_75 : decode b_M_apply 75 = .ok (.goto 77, 3) := by decide +kernel
theorem d_M_apply_78 : decode b_M_apply 78 = .ok (.aload_n 0, 1) := by decide +kernel
theorem d_M_apply_79 : decode b_M_apply 79 = .ok (.invokevirtual 169, 3) := by decide +kernel
theorem d_M_apply_82 : decode b_M_apply 82 = .ok (.goto 70, 3) := by decide +kernel
theorem d_M_apply_85 : decode b_M_apply 85 = .ok (.aload_n 0, 1) := by decide +kernel
theorem d_M_apply_86 : decode b_M_apply 86 = .ok (.invokevirtual 172, 3) := by decide +kernel
theorem d_M_apply_89 : decode b_M_apply 89 = .ok (.goto 63, 3) := by decide +kernel
theorem d_M_apply_92 : decode b_M_apply 92 = .ok (.aload_n 0, 1) := by decide +kernel
theorem d_M_apply_93 : decode b_M_apply 93 = .ok (.invokevirtual 175, 3) := by decide +kernel
theorem d_M_apply_96 : decode b_M_apply 96 = .ok (.goto 56, 3) := by decide +kernel
theorem d_M_apply_99 : decode b_M_apply 99 = .ok (.aload_n 0, 1) := by decide +kernel
theorem d_M_apply_100 : decode b_M_apply 100 = .ok (.invokevirtual 178, 3) := by decide +kernel
theorem d_M_apply_103 : decode b_M_apply 103 = .ok (.goto 49, 3) := by decide +kernel
theorem d_M_apply_106 : decode b_M_apply 106 = .ok (.aload_n 0, 1) := by decide +kernel
theorem d_M_apply_107 : decode b_M_apply 107 = .ok (.invokevirtual 181, 3) := by decide +kernel
theorem d_M_apply_110 : decode b_M_apply 110 = .ok (.goto 42, 3) := by decide +kernel
theorem d_M_apply_113 : decode b_M_apply 113 = .ok (.aload_n 0, 1) := by decide +kernel
theorem d_M_apply_114 : decode b_M_apply 114 = .ok (.invokevirtual 184, 3) := by decide +kernel
theorem d_M_apply_117 : decode b_M_apply 117 = .ok (.goto 35, 3) := by decide +kernel
theorem d_M_apply_120 : decode b_M_apply 120 = .ok (.aload_n 0, 1) := by decide +kernel
theorem d_M_apply_121 : decode b_M_apply 121 = .ok (.iload_n 2, 1) := by decide +kernel
theorem d_M_apply_122 : decode b_M_apply 122 = .ok (.invokevirtual 187, 3) := by decide +kernel
theorem d_M_apply_125 : decode b_M_apply 125 = .ok (.goto 27, 3) := by decide +kernel
theorem d_M_apply_128 : decode b_M_apply 128 = .ok (.aload_n 0, 1) := by decide +kernel
theorem d_M_apply_129 : decode b_M_apply 129 = .ok (.iload_n 2, 1) := by decide +kernel
theorem d_M_apply_130 : decode b_M_apply 130 = .ok (.invokevirtual 190, 3) := by decide +kernel
theorem d_M_apply_133 : decode b_M_apply 133 = .ok (.goto 19, 3) := by decide +kernel
theorem d_M_apply_136 : decode b_M_apply 136 = .ok (.aload_n 0, 1) := by decide +kernel
theorem d_M_apply_137 : decode b_M_apply 137 = .ok (.iload_n 2, 1) := by decide +kernel
theorem d_M_apply_138 : decode b_M_apply 138 = .ok (.invokevirtual 193, 3) := by decide +kernel
theorem d_M_apply_141 : decode b_M_apply 141 = .ok (.goto 11, 3) := by decide +kernel
theorem d_M_apply_144 : decode b_M_apply 144 = .ok (.aload_n 0, 1) := by decide +kernel
theorem d_M_apply_145 : decode b_M_apply 145 = .ok (.bipush 17, 2) := by decide +kernel
theorem d_M_apply_147 : decode b_M_apply 147 = .ok (.bipush 18, 2) := by decide +kernel
theorem d_M_apply_149 : decode b_M_apply 149 = .ok (.invokevirtual 90, 3) := by decide +kernel
theorem d_M_apply_152 : decode b_M_apply 152 = .ok (.aload_n 0, 1) := by decide +kernel
theorem d_M_apply_153 : decode b_M_apply 153 = .ok (.bipush 18, 2) := by decide +kernel
theorem d_M_apply_155 : decode b_M_apply 155 = .ok (.invokevirtual 113, 3) := by decide +kernel
theorem d_M_apply_158 : decode b_M_apply 158 = .ok (.return_, 1) := by decide +kernel
def f_M_apply_155g (r0 : (Nat → VV)) (p1 : Int32) (p2 : Int32) (g155 : (Nat → VV)) : (Nat → VV) := g155
def f_M_apply_152 (r0 : (Nat → VV)) (p1 : Int32) (p2 : Int32) (r152 : (Nat → VV)) : (Nat → VV) := f_M_apply_155g r0 p1 p2 (f_M_tighten r152 18)
def f_M_apply_149g (r0 : (Nat → VV)) (p1 : Int32) (p2 : Int32) (g149 : (Nat → VV)) : (Nat → VV) := f_M_apply_152 r0 p1 p2 g149
def f_M_apply_138g (r0 : (Nat → VV)) (p1 : Int32) (p2 : Int32) (g138 : (Nat → VV)) : (Nat → VV) := f_M_apply_152 r0 p1 p2 g138
def f_M_apply_130g (r0 : (Nat → VV)) (p1 : Int32) (p2 : Int32) (g130 : (Nat → VV)) : (Nat → VV) := f_M_apply_152 r0 p1 p2 g130
def f_M_apply_122g (r0 : (Nat → VV)) (p1 : Int32) (p2 : Int32) (g122 : (Nat → VV)) : (Nat → VV) := f_M_apply_152 r0 p1 p2 g122
def f_M_apply_114g (r0 : (Nat → VV)) (p1 : Int32) (p2 : Int32) (g114 : (Nat → VV)) : (Nat → VV) := f_M_apply_152 r0 p1 p2 g114
def f_M_apply_107g (r0 : (Nat → VV)) (p1 : Int32) (p2 : Int32) (g107 : (Nat → VV)) : (Nat → VV) := f_M_apply_152 r0 p1 p2 g107
def f_M_apply_100g (r0 : (Nat → VV)) (p1 : Int32) (p2 : Int32) (g100 : (Nat → VV)) : (Nat → VV) := f_M_apply_152 r0 p1 p2 g100
def f_M_apply_93g (r0 : (Nat → VV)) (p1 : Int32) (p2 : Int32) (g93 : (Nat → VV)) : (Nat → VV) := f_M_apply_152 r0 p1 p2 g93
def f_M_apply_86g (r0 : (Nat → VV)) (p1 : Int32) (p2 : Int32) (g86 : (Nat → VV)) : (Nat → VV) := f_M_apply_152 r0 p1 p2 g86
def f_M_apply_79g (r0 : (Nat → VV)) (p1 : Int32) (p2 : Int32) (g79 : (Nat → VV)) : (Nat → VV) := f_M_apply_152 r0 p1 p2 g79
def f_M_apply_72g (r0 : (Nat → VV)) (p1 : Int32) (p2 : Int32) (g72 : (Nat → VV)) : (Nat → VV) := f_M_apply_152 r0 p1 p2 g72
def f_M_apply_65g (r0 : (Nat → VV)) (p1 : Int32) (p2 : Int32) (g65 : (Nat → VV)) : (Nat → VV) := f_M_apply_152 r0 p1 p2 g65
def f_M_apply_3g (r0 : (Nat → VV)) (p1 : Int32) (p2 : Int32) (g3 : (Nat → VV)) : (Nat → VV) := (if p1 = 0 then f_M_apply_65g r0 p1 p2 (f_M_add g3) else (if p1 = 1 then f_M_apply_72g r0 p1 p2 (f_M_subtract g3) else (if p1 = 2 then f_M_apply_79g r0 p1 p2 (f_M_multiply g3) else (if p1 = 3 then f_M_apply_86g r0 p1 p2 (f_M_divide g3) else (if p1 = 4 then f_M_apply_93g r0 p1 p2 (f_M_remain g3) else (if p1 = 5 then f_M_apply_100g r0 p1 p2 (f_M_and_ g3) else (if p1 = 6 then f_M_apply_107g r0 p1 p2 (f_M_or_ g3) else (if p1 = 7 then f_M_apply_114g r0 p1 p2 (f_M_xor_ g3) else (if p1 = 8 then f_M_apply_122g r0 p1 p2 (f_M_left g3 p2) else (if p1 = 9 then f_M_apply_130g r0 p1 p2 (f_M_right g3 p2) else (if p1 = 10 then f_M_apply_138g r0 p1 p2 (f_M_signedRight g3 p2) else f_M_apply_149g r0 p1 p2 (f_M_copy g3 17 18))))))))))))
def f_M_apply (r0 : (Nat → VV)) (p1 : Int32) (p2 : Int32) : (Nat → VV) := f_M_apply_3g r0 p1 p2 (f_M_nothingSaid r0 18)
set_option maxRecDepth 100000 in
set_option maxHeartbeats 4000000 in
theorem c_M_apply (l : Launch) (dC : Nat → ClassId) (dI : Nat → Nat → Nat) (ad : Nat → Nat) (cJ cZ : ClassId) (sz : Nat) (c0 : Int32) (r0 : (Nat → VV)) (w0 : (Nat → Int64)) (s0 : Int32) (p1 : Int32) (p2 : Int32) : Met l y_M_apply w_M_apply ({ frames := 6, cells := 0, slots := 0, locals := 183 } : Room) (va_Pc [.ref (ad 0), .int (p1), .int (p2)] (nP (dC, dI) (mT cJ cZ) (mW ad cJ cZ c0 r0 w0 s0) sz)) (va_Qv (fun _ : Unit => True) (mB (dC, dI) (va_A (mW ad cJ cZ c0 r0 w0 s0) sz) (mW ad cJ cZ c0 (f_M_apply r0 p1 p2) w0 s0)) (va_A (mW ad cJ cZ c0 r0 w0 s0) sz)) 0 0 (va_A (mW ad cJ cZ c0 r0 w0 s0) sz) := by
  refine Met.ofW (cc := b_M_apply) (maxL := 3) (ret := none) (by decide) rfl ?_
  intro p e s m args below meth c s₁ B hml hv
  obtain ⟨rfl, hsz, hP, hK, hD0⟩ := hv
  have hx := B.exec
  have hb := B.bytes
  have hr := B.returns
  have hts := atoms_spec (ws := w_M_apply) B.pre
  have hG : ∀ w ∈ gM, w.before _ s = true := fun w h => hts w (List.mem_cons_of_mem _ h)
  have hown : s.vm.findClass R_M = some m.cls := findClass_of_methodNamed B.named
  have hlocks := B.notSynchronized
  subst hsz
  have hD := hD0.self (sz := s.heap.size)
  generalize hAe : va_A (mW ad cJ cZ c0 r0 w0 s0) s.heap.size = A at hD ⊢
  have hA : ∀ q : Nat, s.heap.size ≤ q → A q := fun q h => by rw [← hAe]; exact Or.inr h
  have hS : va_S A s.heap s.heap [] := va_S.rf
  have hl := lv_entry ([.ref (ad 0), .int (p1), .int (p2)]) (n := 3) (Nat.le_of_ble_eq_true rfl)
  rw [lg_entry_eq]
  generalize (lg_sl ([.ref (ad 0), .int (p1), .int (p2)]) ++ List.replicate (3 - (lg_sl ([.ref (ad 0), .int (p1), .int (p2)])).length) Slot.unset).toArray = ls at hl ⊢
  have hl : lv_has ls 3 [(0, .ref (ad 0)), (1, .int (p1)), (2, .int (p2))] := hl
  have K155g : ∀ (g155 : (Nat → VV)) (hj : f_M_apply r0 p1 p2 = f_M_apply_155g r0 p1 p2 g155) (H : Heap) (locs : List Loc) (hP : va_P (dC, dI) classes (mW ad cJ cZ c0 g155 w0 s0) H) (hD : va_D A (mW ad cJ cZ c0 g155 w0 s0)) (hS : va_S A s.heap H locs) (ls : Array Slot) (hl : lv_has ls 3 []), W p l e (headSpec w_M_apply ({ frames := 6, cells := 0, slots := 0, locals := 183 } : Room)).room s m ([.ref (ad 0), .int (p1), .int (p2)] : List Value).toArray below meth c H locs 0 0 (MQ below (va_Qv (fun _ : Unit => True) (mB (dC, dI) A (mW ad cJ cZ c0 (f_M_apply r0 p1 p2) w0 s0)) A) ([.ref (ad 0), .int (p1), .int (p2)] : List Value).toArray s 0 0 A) (F0 m 158 ls []) := by
    intro g155 hj H locs hP hD hS ls hl
    have fe : f_M_apply r0 p1 p2 = g155 := hj.trans rfl
    exact W.vret hx hb hr (fun t ht hW => ⟨⟨(), rfl, trivial, by rw [ht, fe]; exact hP, by rw [fe]; exact hD⟩, hS.F ht⟩) hS.2.2 d_M_apply_158
  have K152 : ∀ (r152 : (Nat → VV)) (hj : f_M_apply r0 p1 p2 = f_M_apply_152 r0 p1 p2 r152) (H : Heap) (locs : List Loc) (hP : va_P (dC, dI) classes (mW ad cJ cZ c0 r152 w0 s0) H) (hD : va_D A (mW ad cJ cZ c0 r152 w0 s0)) (hS : va_S A s.heap H locs) (ls : Array Slot) (hl : lv_has ls 3 [(0, .ref (ad 0))]), W p l e (headSpec w_M_apply ({ frames := 6, cells := 0, slots := 0, locals := 183 } : Room)).room s m ([.ref (ad 0), .int (p1), .int (p2)] : List Value).toArray below meth c H locs 0 0 (MQ below (va_Qv (fun _ : Unit => True) (mB (dC, dI) A (mW ad cJ cZ c0 (f_M_apply r0 p1 p2) w0 s0)) A) ([.ref (ad 0), .int (p1), .int (p2)] : List Value).toArray s 0 0 A) (F0 m 152 ls []) := by
    intro r152 hj H locs hP hD hS ls hl
    refine lv_aload_n hx hb d_M_apply_152 rfl (lv_at hl 0 rfl) ?_
    refine lv_bipush (v := 18) hx hb d_M_apply_153 (by decide) ?_
    refine mm_v (F := f_M_tighten r152 18) (w1 := fun g155 => (mW ad cJ cZ c0 g155 w0 s0)) (va_runV (As := [.int (18)]) (rest := []) ⟨hx, hb, hml, hown, hts⟩ (c_M_tighten l dC dI ad cJ cZ H.size c0 r152 w0 s0 18 (by decide)) (cwV 1 hts (gxV gx69 gx70 gx274 gx0 gx71) rfl rfl rfl (by decide +kernel) ⟨(Nat.le_of_ble_eq_true rfl), (Nat.le_of_ble_eq_true rfl)⟩) ⟨blp, va_recv hK hP (ci := 2) (q0 := 0) rfl rfl, fun U hU hW => ⟨rfl, by rw [hU], by rw [hU]; exact hP, va_K.moved hW.alike hK, hD.weaken (fun _ _ _ _ => trivial)⟩⟩ rfl rfl hl.1 rfl (lv_room (Nat.le_of_ble_eq_true rfl)) d_M_apply_155 ⟨Nat.zero_le _, Nat.zero_le _⟩) hD hS hA (fun g155 eg155 H locs hP hD hS => ?_)
    refine K155g g155 (Eq.trans (hj.trans rfl) (congrArg (fun g155 => f_M_apply_155g r0 p1 p2 g155) eg155)) H locs ?_ ?_ hS ls (lv_sub hl [] rfl)
    · with_reducible exact hP
    · with_reducible exact hD
  have K149g : ∀ (g149 : (Nat → VV)) (hj : f_M_apply r0 p1 p2 = f_M_apply_149g r0 p1 p2 g149) (H : Heap) (locs : List Loc) (hP : va_P (dC, dI) classes (mW ad cJ cZ c0 g149 w0 s0) H) (hD : va_D A (mW ad cJ cZ c0 g149 w0 s0)) (hS : va_S A s.heap H locs) (ls : Array Slot) (hl : lv_has ls 3 [(0, .ref (ad 0))]), W p l e (headSpec w_M_apply ({ frames := 6, cells := 0, slots := 0, locals := 183 } : Room)).room s m ([.ref (ad 0), .int (p1), .int (p2)] : List Value).toArray below meth c H locs 0 0 (MQ below (va_Qv (fun _ : Unit => True) (mB (dC, dI) A (mW ad cJ cZ c0 (f_M_apply r0 p1 p2) w0 s0)) A) ([.ref (ad 0), .int (p1), .int (p2)] : List Value).toArray s 0 0 A) (F0 m 152 ls []) := by
    intro g149 hj H locs hP hD hS ls hl
    refine K152 g149 (hj.trans rfl) H locs ?_ ?_ hS ls (lv_sub hl [0] rfl)
    · with_reducible exact hP
    · with_reducible exact hD
  have K138g : ∀ (g138 : (Nat → VV)) (hj : f_M_apply r0 p1 p2 = f_M_apply_138g r0 p1 p2 g138) (H : Heap) (locs : List Loc) (hP : va_P (dC, dI) classes (mW ad cJ cZ c0 g138 w0 s0) H) (hD : va_D A (mW ad cJ cZ c0 g138 w0 s0)) (hS : va_S A s.heap H locs) (ls : Array Slot) (hl : lv_has ls 3 [(0, .ref (ad 0))]), W p l e (headSpec w_M_apply ({ frames := 6, cells := 0, slots := 0, locals := 183 } : Room)).room s m ([.ref (ad 0), .int (p1), .int (p2)] : List Value).toArray below meth c H locs 0 0 (MQ below (va_Qv (fun _ : Unit => True) (mB (dC, dI) A (mW ad cJ cZ c0 (f_M_apply r0 p1 p2) w0 s0)) A) ([.ref (ad 0), .int (p1), .int (p2)] : List Value).toArray s 0 0 A) (F0 m 141 ls []) := by
    intro g138 hj H locs hP hD hS ls hl
    refine lv_goto (tgt := 152) hx hb d_M_apply_141 (by decide) ?_
    refine K152 g138 (hj.trans rfl) H locs ?_ ?_ hS ls (lv_sub hl [0] rfl)
    · with_reducible exact hP
    · with_reducible exact hD
  have K130g : ∀ (g130 : (Nat → VV)) (hj : f_M_apply r0 p1 p2 = f_M_apply_130g r0 p1 p2 g130) (H : Heap) (locs : List Loc) (hP : va_P (dC, dI) classes (mW ad cJ cZ c0 g130 w0 s0) H) (hD : va_D A (mW ad cJ cZ c0 g130 w0 s0)) (hS : va_S A s.heap H locs) (ls : Array Slot) (hl : lv_has ls 3 [(0, .ref (ad 0))]), W p l e (headSpec w_M_apply ({ frames := 6, cells := 0, slots := 0, locals := 183 } : Room)).room s m ([.ref (ad 0), .int (p1), .int (p2)] : List Value).toArray below meth c H locs 0 0 (MQ below (va_Qv (fun _ : Unit => True) (mB (dC, dI) A (mW ad cJ cZ c0 (f_M_apply r0 p1 p2) w0 s0)) A) ([.ref (ad 0), .int (p1), .int (p2)] : List Value).toArray s 0 0 A) (F0 m 133 ls []) := by
    intro g130 hj H locs hP hD hS ls hl
    refine lv_goto (tgt := 152) hx hb d_M_apply_133 (by decide) ?_
    refine K152 g130 (hj.trans rfl) H locs ?_ ?_ hS ls (lv_sub hl [0] rfl)
    · with_reducible exact hP
    · with_reducible exact hD
  have K122g : ∀ (g122 : (Nat → VV)) (hj : f_M_apply r0 p1 p2 = f_M_apply_122g r0 p1 p2 g122) (H : Heap) (locs : List Loc) (hP : va_P (dC, dI) classes (mW ad cJ cZ c0 g122 w0 s0) H) (hD : va_D A (mW ad cJ cZ c0 g122 w0 s0)) (hS : va_S A s.heap H locs) (ls : Array Slot) (hl : lv_has ls 3 [(0, .ref (ad 0))]), W p l e (headSpec w_M_apply ({ frames := 6, cells := 0, slots := 0, locals := 183 } : Room)).room s m ([.ref (ad 0), .int (p1), .int (p2)] : List Value).toArray below meth c H locs 0 0 (MQ below (va_Qv (fun _ : Unit => True) (mB (dC, dI) A (mW ad cJ cZ c0 (f_M_apply r0 p1 p2) w0 s0)) A) ([.ref (ad 0), .int (p1), .int (p2)] : List Value).toArray s 0 0 A) (F0 m 125 ls []) := by
    intro g122 hj H locs hP hD hS ls hl
    refine lv_goto (tgt := 152) hx hb d_M_apply_125 (by decide) ?_
    refine K152 g122 (hj.trans rfl) H locs ?_ ?_ hS ls (lv_sub hl [0] rfl)
    · with_reducible exact hP
    · with_reducible exact hD
  have K114g : ∀ (g114 : (Nat → VV)) (hj : f_M_apply r0 p1 p2 = f_M_apply_114g r0 p1 p2 g114) (H : Heap) (locs : List Loc) (hP : va_P (dC, dI) classes (mW ad cJ cZ c0 g114 w0 s0) H) (hD : va_D A (mW ad cJ cZ c0 g114 w0 s0)) (hS : va_S A s.heap H locs) (ls : Array Slot) (hl : lv_has ls 3 [(0, .ref (ad 0))]), W p l e (headSpec w_M_apply ({ frames := 6, cells := 0, slots := 0, locals := 183 } : Room)).room s m ([.ref (ad 0), .int (p1), .int (p2)] : List Value).toArray below meth c H locs 0 0 (MQ below (va_Qv (fun _ : Unit => True) (mB (dC, dI) A (mW ad cJ cZ c0 (f_M_apply r0 p1 p2) w0 s0)) A) ([.ref (ad 0), .int (p1), .int (p2)] : List Value).toArray s 0 0 A) (F0 m 117 ls []) := by
    intro g114 hj H locs hP hD hS ls hl
    refine lv_goto (tgt := 152) hx hb d_M_apply_117 (by decide) ?_
    refine K152 g114 (hj.trans rfl) H locs ?_ ?_ hS ls (lv_sub hl [0] rfl)
    · with_reducible exact hP
    · with_reducible exact hD
  have K107g : ∀ (g107 : (Nat → VV)) (hj : f_M_apply r0 p1 p2 = f_M_apply_107g r0 p1 p2 g107) (H : Heap) (locs : List Loc) (hP : va_P (dC, dI) classes (mW ad cJ cZ c0 g107 w0 s0) H) (hD : va_D A (mW ad cJ cZ c0 g107 w0 s0)) (hS : va_S A s.heap H locs) (ls : Array Slot) (hl : lv_has ls 3 [(0, .ref (ad 0))]), W p l e (headSpec w_M_apply ({ frames := 6, cells := 0, slots := 0, locals := 183 } : Room)).room s m ([.ref (ad 0), .int (p1), .int (p2)] : List Value).toArray below meth c H locs 0 0 (MQ below (va_Qv (fun _ : Unit => True) (mB (dC, dI) A (mW ad cJ cZ c0 (f_M_apply r0 p1 p2) w0 s0)) A) ([.ref (ad 0), .int (p1), .int (p2)] : List Value).toArray s 0 0 A) (F0 m 110 ls []) := by
    intro g107 hj H locs hP hD hS ls hl
    refine lv_goto (tgt := 152) hx hb d_M_apply_110 (by decide) ?_
    refine K152 g107 (hj.trans rfl) H locs ?_ ?_ hS ls (lv_sub hl [0] rfl)
    · with_reducible exact hP
    · with_reducible exact hD
  have K100g : ∀ (g100 : (Nat → VV)) (hj : f_M_apply r0 p1 p2 = f_M_apply_100g r0 p1 p2 g100) (H : Heap) (locs : List Loc) (hP : va_P (dC, dI) classes (mW ad cJ cZ c0 g100 w0 s0) H) (hD : va_D A (mW ad cJ cZ c0 g100 w0 s0)) (hS : va_S A s.heap H locs) (ls : Array Slot) (hl : lv_has ls 3 [(0, .ref (ad 0))]), W p l e (headSpec w_M_apply ({ frames := 6, cells := 0, slots := 0, locals := 183 } : Room)).room s m ([.ref (ad 0), .int (p1), .int (p2)] : List Value).toArray below meth c H locs 0 0 (MQ below (va_Qv (fun _ : Unit => True) (mB (dC, dI) A (mW ad cJ cZ c0 (f_M_apply r0 p1 p2) w0 s0)) A) ([.ref (ad 0), .int (p1), .int (p2)] : List Value).toArray s 0 0 A) (F0 m 103 ls []) := by
    intro g100 hj H locs hP hD hS ls hl
    refine lv_goto (tgt := 152) hx hb d_M_apply_103 (by decide) ?_
    refine K152 g100 (hj.trans rfl) H locs ?_ ?_ hS ls (lv_sub hl [0] rfl)
    · with_reducible exact hP
    · with_reducible exact hD
  have K93g : ∀ (g93 : (Nat → VV)) (hj : f_M_apply r0 p1 p2 = f_M_apply_93g r0 p1 p2 g93) (H : Heap) (locs : List Loc) (hP : va_P (dC, dI) classes (mW ad cJ cZ c0 g93 w0 s0) H) (hD : va_D A (mW ad cJ cZ c0 g93 w0 s0)) (hS : va_S A s.heap H locs) (ls : Array Slot) (hl : lv_has ls 3 [(0, .ref (ad 0))]), W p l e (headSpec w_M_apply ({ frames := 6, cells := 0, slots := 0, locals := 183 } : Room)).room s m ([.ref (ad 0), .int (p1), .int (p2)] : List Value).toArray below meth c H locs 0 0 (MQ below (va_Qv (fun _ : Unit => True) (mB (dC, dI) A (mW ad cJ cZ c0 (f_M_apply r0 p1 p2) w0 s0)) A) ([.ref (ad 0), .int (p1), .int (p2)] : List Value).toArray s 0 0 A) (F0 m 96 ls []) := by
    intro g93 hj H locs hP hD hS ls hl
    refine lv_goto (tgt := 152) hx hb d_M_apply_96 (by decide) ?_
    refine K152 g93 (hj.trans rfl) H locs ?_ ?_ hS ls (lv_sub hl [0] rfl)
    · with_reducible exact hP
    · with_reducible exact hD
  have K86g : ∀ (g86 : (Nat → VV)) (hj : f_M_apply r0 p1 p2 = f_M_apply_86g r0 p1 p2 g86) (H : Heap) (locs : List Loc) (hP : va_P (dC, dI) classes (mW ad cJ cZ c0 g86 w0 s0) H) (hD : va_D A (mW ad cJ cZ c0 g86 w0 s0)) (hS : va_S A s.heap H locs) (ls : Array Slot) (hl : lv_has ls 3 [(0, .ref (ad 0))]), W p l e (headSpec w_M_apply ({ frames := 6, cells := 0, slots := 0, locals := 183 } : Room)).room s m ([.ref (ad 0), .int (p1), .int (p2)] : List Value).toArray below meth c H locs 0 0 (MQ below (va_Qv (fun _ : Unit => True) (mB (dC, dI) A (mW ad cJ cZ c0 (f_M_apply r0 p1 p2) w0 s0)) A) ([.ref (ad 0), .int (p1), .int (p2)] : List Value).toArray s 0 0 A) (F0 m 89 ls []) := by
    intro g86 hj H locs hP hD hS ls hl
    refine lv_goto (tgt := 152) hx hb d_M_apply_89 (by decide) ?_
    refine K152 g86 (hj.trans rfl) H locs ?_ ?_ hS ls (lv_sub hl [0] rfl)
    · with_reducible exact hP
    · with_reducible exact hD
  have K79g : ∀ (g79 : (Nat → VV)) (hj : f_M_apply r0 p1 p2 = f_M_apply_79g r0 p1 p2 g79) (H : Heap) (locs : List Loc) (hP : va_P (dC, dI) classes (mW ad cJ cZ c0 g79 w0 s0) H) (hD : va_D A (mW ad cJ cZ c0 g79 w0 s0)) (hS : va_S A s.heap H locs) (ls : Array Slot) (hl : lv_has ls 3 [(0, .ref (ad 0))]), W p l e (headSpec w_M_apply ({ frames := 6, cells := 0, slots := 0, locals := 183 } : Room)).room s m ([.ref (ad 0), .int (p1), .int (p2)] : List Value).toArray below meth c H locs 0 0 (MQ below (va_Qv (fun _ : Unit => True) (mB (dC, dI) A (mW ad cJ cZ c0 (f_M_apply r0 p1 p2) w0 s0)) A) ([.ref (ad 0), .int (p1), .int (p2)] : List Value).toArray s 0 0 A) (F0 m 82 ls []) := by
    intro g79 hj H locs hP hD hS ls hl
    refine lv_goto (tgt := 152) hx hb d_M_apply_82 (by decide) ?_
    refine K152 g79 (hj.trans rfl) H locs ?_ ?_ hS ls (lv_sub hl [0] rfl)
    · with_reducible exact hP
    · with_reducible exact hD
  have K72g : ∀ (g72 : (Nat → VV)) (hj : f_M_apply r0 p1 p2 = f_M_apply_72g r0 p1 p2 g72) (H : Heap) (locs : List Loc) (hP : va_P (dC, dI) classes (mW ad cJ cZ c0 g72 w0 s0) H) (hD : va_D A (mW ad cJ cZ c0 g72 w0 s0)) (hS : va_S A s.heap H locs) (ls : Array Slot) (hl : lv_has ls 3 [(0, .ref (ad 0))]), W p l e (headSpec w_M_apply ({ frames := 6, cells := 0, slots := 0, locals := 183 } : Room)).room s m ([.ref (ad 0), .int (p1), .int (p2)] : List Value).toArray below meth c H locs 0 0 (MQ below (va_Qv (fun _ : Unit => True) (mB (dC, dI) A (mW ad cJ cZ c0 (f_M_apply r0 p1 p2) w0 s0)) A) ([.ref (ad 0), .int (p1), .int (p2)] : List Value).toArray s 0 0 A) (F0 m 75 ls []) := by
    intro g72 hj H locs hP hD hS ls hl
    refine lv_goto (tgt := 152) hx hb d_M_apply_75 (by decide) ?_
    refine K152 g72 (hj.trans rfl) H locs ?_ ?_ hS ls (lv_sub hl [0] rfl)
    · with_reducible exact hP
    · with_reducible exact hD
  have K65g : ∀ (g65 : (Nat → VV)) (hj : f_M_apply r0 p1 p2 = f_M_apply_65g r0 p1 p2 g65) (H : Heap) (locs : List Loc) (hP : va_P (dC, dI) classes (mW ad cJ cZ c0 g65 w0 s0) H) (hD : va_D A (mW ad cJ cZ c0 g65 w0 s0)) (hS : va_S A s.heap H locs) (ls : Array Slot) (hl : lv_has ls 3 [(0, .ref (ad 0))]), W p l e (headSpec w_M_apply ({ frames := 6, cells := 0, slots := 0, locals := 183 } : Room)).room s m ([.ref (ad 0), .int (p1), .int (p2)] : List Value).toArray below meth c H locs 0 0 (MQ below (va_Qv (fun _ : Unit => True) (mB (dC, dI) A (mW ad cJ cZ c0 (f_M_apply r0 p1 p2) w0 s0)) A) ([.ref (ad 0), .int (p1), .int (p2)] : List Value).toArray s 0 0 A) (F0 m 68 ls []) := by
    intro g65 hj H locs hP hD hS ls hl
    refine lv_goto (tgt := 152) hx hb d_M_apply_68 (by decide) ?_
    refine K152 g65 (hj.trans rfl) H locs ?_ ?_ hS ls (lv_sub hl [0] rfl)
    · with_reducible exact hP
    · with_reducible exact hD
  have K3g : ∀ (g3 : (Nat → VV)) (hj : f_M_apply r0 p1 p2 = f_M_apply_3g r0 p1 p2 g3) (H : Heap) (locs : List Loc) (hP : va_P (dC, dI) classes (mW ad cJ cZ c0 g3 w0 s0) H) (hD : va_D A (mW ad cJ cZ c0 g3 w0 s0)) (hS : va_S A s.heap H locs) (ls : Array Slot) (hl : lv_has ls 3 [(0, .ref (ad 0)), (1, .int (p1)), (2, .int (p2))]), W p l e (headSpec w_M_apply ({ frames := 6, cells := 0, slots := 0, locals := 183 } : Room)).room s m ([.ref (ad 0), .int (p1), .int (p2)] : List Value).toArray below meth c H locs 0 0 (MQ below (va_Qv (fun _ : Unit => True) (mB (dC, dI) A (mW ad cJ cZ c0 (f_M_apply r0 p1 p2) w0 s0)) A) ([.ref (ad 0), .int (p1), .int (p2)] : List Value).toArray s 0 0 A) (F0 m 6 ls []) := by
    intro g3 hj H locs hP hD hS ls hl
    refine lv_iload_n hx hb d_M_apply_6 rfl (lv_at hl 1 rfl) ?_
    by_cases e1_64 : p1 = 0
    · refine lv_tableIn (off := 57) (tgt := 64) hx hb d_M_apply_7 (by rw [e1_64]; decide) (by rw [e1_64]; decide) (by rw [e1_64]; rfl) (by decide) ?_
      refine lv_aload_n hx hb d_M_apply_64 rfl (lv_at hl 0 rfl) ?_
      refine mm_v (F := f_M_add g3) (w1 := fun g65 => (mW ad cJ cZ c0 g65 w0 s0)) (va_runV (As := []) (rest := []) ⟨hx, hb, hml, hown, hts⟩ (c_M_add l dC dI ad cJ cZ H.size c0 g3 w0 s0 ) (cwV 0 hts (gxV gx127 gx128 gx284 gx0 gx129) rfl rfl rfl (by decide +kernel) ⟨(Nat.le_of_ble_eq_true rfl), (Nat.le_of_ble_eq_true rfl)⟩) ⟨blp, va_recv hK hP (ci := 2) (q0 := 0) rfl rfl, fun U hU hW => ⟨rfl, by rw [hU], by rw [hU]; exact hP, va_K.moved hW.alike hK, hD.weaken (fun _ _ _ _ => trivial)⟩⟩ rfl rfl hl.1 rfl (lv_room (Nat.le_of_ble_eq_true rfl)) d_M_apply_65 ⟨Nat.zero_le _, Nat.zero_le _⟩) hD hS hA (fun g65 eg65 H locs hP hD hS => ?_)
      refine K65g g65 (Eq.trans (hj.trans (by unfold f_M_apply_3g; first | with_reducible exact if_pos e1_64 | exact if_pos e1_64)) (congrArg (fun g65 => f_M_apply_65g r0 p1 p2 g65) eg65)) H locs ?_ ?_ hS ls (lv_sub hl [0] rfl)
      · with_reducible exact hP
      · with_reducible exact hD
    by_cases e2_71 : p1 = 1
    · refine lv_tableIn (off := 64) (tgt := 71) hx hb d_M_apply_7 (by rw [e2_71]; decide) (by rw [e2_71]; decide) (by rw [e2_71]; rfl) (by decide) ?_
      refine lv_aload_n hx hb d_M_apply_71 rfl (lv_at hl 0 rfl) ?_
      refine mm_v (F := f_M_subtract g3) (w1 := fun g72 => (mW ad cJ cZ c0 g72 w0 s0)) (va_runV (As := []) (rest := []) ⟨hx, hb, hml, hown, hts⟩ (c_M_subtract l dC dI ad cJ cZ H.size c0 g3 w0 s0 ) (cwV 0 hts (gxV gx139 gx140 gx285 gx0 gx141) rfl rfl rfl (by decide +kernel) ⟨(Nat.le_of_ble_eq_true rfl), (Nat.le_of_ble_eq_true rfl)⟩) ⟨blp, va_recv hK hP (ci := 2) (q0 := 0) rfl rfl, fun U hU hW => ⟨rfl, by rw [hU], by rw [hU]; exact hP, va_K.moved hW.alike hK, hD.weaken (fun _ _ _ _ => trivial)⟩⟩ rfl rfl hl.1 rfl (lv_room (Nat.le_of_ble_eq_true rfl)) d_M_apply_72 ⟨Nat.zero_le _, Nat.zero_le _⟩) hD hS hA (fun g72 eg72 H locs hP hD hS => ?_)
      refine K72g g72 (Eq.trans (hj.trans (by unfold f_M_apply_3g; first | with_reducible exact (if_neg e1_64).trans (if_pos e2_71) | exact (if_neg e1_64).trans (if_pos e2_71))) (congrArg (fun g72 => f_M_apply_72g r0 p1 p2 g72) eg72)) H locs ?_ ?_ hS ls (lv_sub hl [0] rfl)
      · with_reducible exact hP
      · with_reducible exact hD
    by_cases e3_78 : p1 = 2
    · refine lv_tableIn (off := 71) (tgt := 78) hx hb d_M_apply_7 (by rw [e3_78]; decide) (by rw [e3_78]; decide) (by rw [e3_78]; rfl) (by decide) ?_
      refine lv_aload_n hx hb d_M_apply_78 rfl (lv_at hl 0 rfl) ?_
      refine mm_v (F := f_M_multiply g3) (w1 := fun g79 => (mW ad cJ cZ c0 g79 w0 s0)) (va_runV (As := []) (rest := []) ⟨hx, hb, hml, hown, hts⟩ (c_M_multiply l dC dI ad cJ cZ H.size c0 g3 w0 s0 ) (cwV 0 hts (gxV gx145 gx146 gx288 gx0 gx147) rfl rfl rfl (by decide +kernel) ⟨(Nat.le_of_ble_eq_true rfl), (Nat.le_of_ble_eq_true rfl)⟩) ⟨blp, va_recv hK hP (ci := 2) (q0 := 0) rfl rfl, fun U hU hW => ⟨rfl, by rw [hU], by rw [hU]; exact hP, va_K.moved hW.alike hK, hD.weaken (fun _ _ _ _ => trivial)⟩⟩ rfl rfl hl.1 rfl (lv_room (Nat.le_of_ble_eq_true rfl)) d_M_apply_79 ⟨Nat.zero_le _, Nat.zero_le _⟩) hD hS hA (fun g79 eg79 H locs hP hD hS => ?_)
      refine K79g g79 (Eq.trans (hj.trans (by unfold f_M_apply_3g; first | with_reducible exact (if_neg e1_64).trans ((if_neg e2_71).trans (if_pos e3_78)) | exact (if_neg e1_64).trans ((if_neg e2_71).trans (if_pos e3_78)))) (congrArg (fun g79 => f_M_apply_79g r0 p1 p2 g79) eg79)) H locs ?_ ?_ hS ls (lv_sub hl [0] rfl)
      · with_reducible exact hP
      · with_reducible exact hD
    by_cases e4_85 : p1 = 3
    · refine lv_tableIn (off := 78) (tgt := 85) hx hb d_M_apply_7 (by rw [e4_85]; decide) (by rw [e4_85]; decide) (by rw [e4_85]; rfl) (by decide) ?_
      refine lv_aload_n hx hb d_M_apply_85 rfl (lv_at hl 0 rfl) ?_
      refine mm_v (F := f_M_divide g3) (w1 := fun g86 => (mW ad cJ cZ c0 g86 w0 s0)) (va_runV (As := []) (rest := []) ⟨hx, hb, hml, hown, hts⟩ (c_M_divide l dC dI ad cJ cZ H.size c0 g3 w0 s0 ) (cwV 0 hts (gxV gx164 gx165 gx289 gx0 gx166) rfl rfl rfl (by decide +kernel) ⟨(Nat.le_of_ble_eq_true rfl), (Nat.le_of_ble_eq_true rfl)⟩) ⟨blp, va_recv hK hP (ci := 2) (q0 := 0) rfl rfl, fun U hU hW => ⟨rfl, by rw [hU], by rw [hU]; exact hP, va_K.moved hW.alike hK, hD.weaken (fun _ _ _ _ => trivial)⟩⟩ rfl rfl hl.1 rfl (lv_room (Nat.le_of_ble_eq_true rfl)) d_M_apply_86 ⟨Nat.zero_le _, Nat.zero_le _⟩) hD hS hA (fun g86 eg86 H locs hP hD hS => ?_)
      refine K86g g86 (Eq.trans (hj.trans (by unfold f_M_apply_3g; first | with_reducible exact (if_neg e1_64).trans ((if_neg e2_71).trans ((if_neg e3_78).trans (if_pos e4_85))) | exact (if_neg e1_64).trans ((if_neg e2_71).trans ((if_neg e3_78).trans (if_pos e4_85))))) (congrArg (fun g86 => f_M_apply_86g r0 p1 p2 g86) eg86)) H locs ?_ ?_ hS ls (lv_sub hl [0] rfl)
      · with_reducible exact hP
      · with_reducible exact hD
    by_cases e5_92 : p1 = 4
    · refine lv_tableIn (off := 85) (tgt := 92) hx hb d_M_apply_7 (by rw [e5_92]; decide) (by rw [e5_92]; decide) (by rw [e5_92]; rfl) (by decide) ?_
      refine lv_aload_n hx hb d_M_apply_92 rfl (lv_at hl 0 rfl) ?_
      refine mm_v (F := f_M_remain g3) (w1 := fun g93 => (mW ad cJ cZ c0 g93 w0 s0)) (va_runV (As := []) (rest := []) ⟨hx, hb, hml, hown, hts⟩ (c_M_remain l dC dI ad cJ cZ H.size c0 g3 w0 s0 ) (cwV 0 hts (gxV gx167 gx168 gx290 gx0 gx169) rfl rfl rfl (by decide +kernel) ⟨(Nat.le_of_ble_eq_true rfl), (Nat.le_of_ble_eq_true rfl)⟩) ⟨blp, va_recv hK hP (ci := 2) (q0 := 0) rfl rfl, fun U hU hW => ⟨rfl, by rw [hU], by rw [hU]; exact hP, va_K.moved hW.alike hK, hD.weaken (fun _ _ _ _ => trivial)⟩⟩ rfl rfl hl.1 rfl (lv_room (Nat.le_of_ble_eq_true rfl)) d_M_apply_93 ⟨Nat.zero_le _, Nat.zero_le _⟩) hD hS hA (fun g93 eg93 H locs hP hD hS => ?_)
      refine K93g g93 (Eq.trans (hj.trans (by unfold f_M_apply_3g; first | with_reducible exact (if_neg e1_64).trans ((if_neg e2_71).trans ((if_neg e3_78).trans ((if_neg e4_85).trans (if_pos e5_92)))) | exact (if_neg e1_64).trans ((if_neg e2_71).trans ((if_neg e3_78).trans ((if_neg e4_85).trans (if_pos e5_92)))))) (congrArg (fun g93 => f_M_apply_93g r0 p1 p2 g93) eg93)) H locs ?_ ?_ hS ls (lv_sub hl [0] rfl)
      · with_reducible exact hP
      · with_reducible exact hD
    by_cases e6_99 : p1 = 5
    · refine lv_tableIn (off := 92) (tgt := 99) hx hb d_M_apply_7 (by rw [e6_99]; decide) (by rw [e6_99]; decide) (by rw [e6_99]; rfl) (by decide) ?_
      refine lv_aload_n hx hb d_M_apply_99 rfl (lv_at hl 0 rfl) ?_
      refine mm_v (F := f_M_and_ g3) (w1 := fun g100 => (mW ad cJ cZ c0 g100 w0 s0)) (va_runV (As := []) (rest := []) ⟨hx, hb, hml, hown, hts⟩ (c_M_and_ l dC dI ad cJ cZ H.size c0 g3 w0 s0 ) (cwV 0 hts (gxV gx170 gx171 gx291 gx0 gx172) rfl rfl rfl (by decide +kernel) ⟨(Nat.le_of_ble_eq_true rfl), (Nat.le_of_ble_eq_true rfl)⟩) ⟨blp, va_recv hK hP (ci := 2) (q0 := 0) rfl rfl, fun U hU hW => ⟨rfl, by rw [hU], by rw [hU]; exact hP, va_K.moved hW.alike hK, hD.weaken (fun _ _ _ _ => trivial)⟩⟩ rfl rfl hl.1 rfl (lv_room (Nat.le_of_ble_eq_true rfl)) d_M_apply_100 ⟨Nat.zero_le _, Nat.zero_le _⟩) hD hS hA (fun g100 eg100 H locs hP hD hS => ?_)
      refine K100g g100 (Eq.trans (hj.trans (by unfold f_M_apply_3g; first | with_reducible exact (if_neg e1_64).trans ((if_neg e2_71).trans ((if_neg e3_78).trans ((if_neg e4_85).trans ((if_neg e5_92).trans (if_pos e6_99))))) | exact (if_neg e1_64).trans ((if_neg e2_71).trans ((if_neg e3_78).trans ((if_neg e4_85).trans ((if_neg e5_92).trans (if_pos e6_99))))))) (congrArg (fun g100 => f_M_apply_100g r0 p1 p2 g100) eg100)) H locs ?_ ?_ hS ls (lv_sub hl [0] rfl)
      · with_reducible exact hP
      · with_reducible exact hD
    by_cases e7_106 : p1 = 6
    · refine lv_tableIn (off := 99) (tgt := 106) hx hb d_M_apply_7 (by rw [e7_106]; decide) (by rw [e7_106]; decide) (by rw [e7_106]; rfl) (by decide) ?_
      refine lv_aload_n hx hb d_M_apply_106 rfl (lv_at hl 0 rfl) ?_
      refine mm_v (F := f_M_or_ g3) (w1 := fun g107 => (mW ad cJ cZ c0 g107 w0 s0)) (va_runV (As := []) (rest := []) ⟨hx, hb, hml, hown, hts⟩ (c_M_or_ l dC dI ad cJ cZ H.size c0 g3 w0 s0 ) (cwV 0 hts (gxV gx173 gx174 gx292 gx0 gx175) rfl rfl rfl (by decide +kernel) ⟨(Nat.le_of_ble_eq_true rfl), (Nat.le_of_ble_eq_true rfl)⟩) ⟨blp, va_recv hK hP (ci := 2) (q0 := 0) rfl rfl, fun U hU hW => ⟨rfl, by rw [hU], by rw [hU]; exact hP, va_K.moved hW.alike hK, hD.weaken (fun _ _ _ _ => trivial)⟩⟩ rfl rfl hl.1 rfl (lv_room (Nat.le_of_ble_eq_true rfl)) d_M_apply_107 ⟨Nat.zero_le _, Nat.zero_le _⟩) hD hS hA (fun g107 eg107 H locs hP hD hS => ?_)
      refine K107g g107 (Eq.trans (hj.trans (by unfold f_M_apply_3g; first | with_reducible exact (if_neg e1_64).trans ((if_neg e2_71).trans ((if_neg e3_78).trans ((if_neg e4_85).trans ((if_neg e5_92).trans ((if_neg e6_99).trans (if_pos e7_106)))))) | exact (if_neg e1_64).trans ((if_neg e2_71).trans ((if_neg e3_78).trans ((if_neg e4_85).trans ((if_neg e5_92).trans ((if_neg e6_99).trans (if_pos e7_106)))))))) (congrArg (fun g107 => f_M_apply_107g r0 p1 p2 g107) eg107)) H locs ?_ ?_ hS ls (lv_sub hl [0] rfl)
      · with_reducible exact hP
      · with_reducible exact hD
    by_cases e8_113 : p1 = 7
    · refine lv_tableIn (off := 106) (tgt := 113) hx hb d_M_apply_7 (by rw [e8_113]; decide) (by rw [e8_113]; decide) (by rw [e8_113]; rfl) (by decide) ?_
      refine lv_aload_n hx hb d_M_apply_113 rfl (lv_at hl 0 rfl) ?_
      refine mm_v (F := f_M_xor_ g3) (w1 := fun g114 => (mW ad cJ cZ c0 g114 w0 s0)) (va_runV (As := []) (rest := []) ⟨hx, hb, hml, hown, hts⟩ (c_M_xor_ l dC dI ad cJ cZ H.size c0 g3 w0 s0 ) (cwV 0 hts (gxV gx176 gx177 gx293 gx0 gx178) rfl rfl rfl (by decide +kernel) ⟨(Nat.le_of_ble_eq_true rfl), (Nat.le_of_ble_eq_true rfl)⟩) ⟨blp, va_recv hK hP (ci := 2) (q0 := 0) rfl rfl, fun U hU hW => ⟨rfl, by rw [hU], by rw [hU]; exact hP, va_K.moved hW.alike hK, hD.weaken (fun _ _ _ _ => trivial)⟩⟩ rfl rfl hl.1 rfl (lv_room (Nat.le_of_ble_eq_true rfl)) d_M_apply_114 ⟨Nat.zero_le _, Nat.zero_le _⟩) hD hS hA (fun g114 eg114 H locs hP hD hS => ?_)
      refine K114g g114 (Eq.trans (hj.trans (by unfold f_M_apply_3g; first | with_reducible exact (if_neg e1_64).trans ((if_neg e2_71).trans ((if_neg e3_78).trans ((if_neg e4_85).trans ((if_neg e5_92).trans ((if_neg e6_99).trans ((if_neg e7_106).trans (if_pos e8_113))))))) | exact (if_neg e1_64).trans ((if_neg e2_71).trans ((if_neg e3_78).trans ((if_neg e4_85).trans ((if_neg e5_92).trans ((if_neg e6_99).trans ((if_neg e7_106).trans (if_pos e8_113))))))))) (congrArg (fun g114 => f_M_apply_114g r0 p1 p2 g114) eg114)) H locs ?_ ?_ hS ls (lv_sub hl [0] rfl)
      · with_reducible exact hP
      · with_reducible exact hD
    by_cases e9_120 : p1 = 8
    · refine lv_tableIn (off := 113) (tgt := 120) hx hb d_M_apply_7 (by rw [e9_120]; decide) (by rw [e9_120]; decide) (by rw [e9_120]; rfl) (by decide) ?_
      refine lv_aload_n hx hb d_M_apply_120 rfl (lv_at hl 0 rfl) ?_
      refine lv_iload_n hx hb d_M_apply_121 rfl (lv_at hl 2 rfl) ?_
      refine mm_v (F := f_M_left g3 p2) (w1 := fun g122 => (mW ad cJ cZ c0 g122 w0 s0)) (va_runV (As := [.int (p2)]) (rest := []) ⟨hx, hb, hml, hown, hts⟩ (c_M_left l dC dI ad cJ cZ H.size c0 g3 w0 s0 p2) (cwV 1 hts (gxV gx179 gx180 gx294 gx0 gx181) rfl rfl rfl (by decide +kernel) ⟨(Nat.le_of_ble_eq_true rfl), (Nat.le_of_ble_eq_true rfl)⟩) ⟨blp, va_recv hK hP (ci := 2) (q0 := 0) rfl rfl, fun U hU hW => ⟨rfl, by rw [hU], by rw [hU]; exact hP, va_K.moved hW.alike hK, hD.weaken (fun _ _ _ _ => trivial)⟩⟩ rfl rfl hl.1 rfl (lv_room (Nat.le_of_ble_eq_true rfl)) d_M_apply_122 ⟨Nat.zero_le _, Nat.zero_le _⟩) hD hS hA (fun g122 eg122 H locs hP hD hS => ?_)
      refine K122g g122 (Eq.trans (hj.trans (by unfold f_M_apply_3g; first | with_reducible exact (if_neg e1_64).trans ((if_neg e2_71).trans ((if_neg e3_78).trans ((if_neg e4_85).trans ((if_neg e5_92).trans ((if_neg e6_99).trans ((if_neg e7_106).trans ((if_neg e8_113).trans (if_pos e9_120)))))))) | exact (if_neg e1_64).trans ((if_neg e2_71).trans ((if_neg e3_78).trans ((if_neg e4_85).trans ((if_neg e5_92).trans ((if_neg e6_99).trans ((if_neg e7_106).trans ((if_neg e8_113).trans (if_pos e9_120)))))))))) (congrArg (fun g122 => f_M_apply_122g r0 p1 p2 g122) eg122)) H locs ?_ ?_ hS ls (lv_sub hl [0] rfl)
      · with_reducible exact hP
      · with_reducible exact hD
    by_cases e10_128 : p1 = 9
    · refine lv_tableIn (off := 121) (tgt := 128) hx hb d_M_apply_7 (by rw [e10_128]; decide) (by rw [e10_128]; decide) (by rw [e10_128]; rfl) (by decide) ?_
      refine lv_aload_n hx hb d_M_apply_128 rfl (lv_at hl 0 rfl) ?_
      refine lv_iload_n hx hb d_M_apply_129 rfl (lv_at hl 2 rfl) ?_
      refine mm_v (F := f_M_right g3 p2) (w1 := fun g130 => (mW ad cJ cZ c0 g130 w0 s0)) (va_runV (As := [.int (p2)]) (rest := []) ⟨hx, hb, hml, hown, hts⟩ (c_M_right l dC dI ad cJ cZ H.size c0 g3 w0 s0 p2) (cwV 1 hts (gxV gx185 gx186 gx295 gx0 gx187) rfl rfl rfl (by decide +kernel) ⟨(Nat.le_of_ble_eq_true rfl), (Nat.le_of_ble_eq_true rfl)⟩) ⟨blp, va_recv hK hP (ci := 2) (q0 := 0) rfl rfl, fun U hU hW => ⟨rfl, by rw [hU], by rw [hU]; exact hP, va_K.moved hW.alike hK, hD.weaken (fun _ _ _ _ => trivial)⟩⟩ rfl rfl hl.1 rfl (lv_room (Nat.le_of_ble_eq_true rfl)) d_M_apply_130 ⟨Nat.zero_le _, Nat.zero_le _⟩) hD hS hA (fun g130 eg130 H locs hP hD hS => ?_)
      refine K130g g130 (Eq.trans (hj.trans (by unfold f_M_apply_3g; first | with_reducible exact (if_neg e1_64).trans ((if_neg e2_71).trans ((if_neg e3_78).trans ((if_neg e4_85).trans ((if_neg e5_92).trans ((if_neg e6_99).trans ((if_neg e7_106).trans ((if_neg e8_113).trans ((if_neg e9_120).trans (if_pos e10_128))))))))) | exact (if_neg e1_64).trans ((if_neg e2_71).trans ((if_neg e3_78).trans ((if_neg e4_85).trans ((if_neg e5_92).trans ((if_neg e6_99).trans ((if_neg e7_106).trans ((if_neg e8_113).trans ((if_neg e9_120).trans (if_pos e10_128))))))))))) (congrArg (fun g130 => f_M_apply_130g r0 p1 p2 g130) eg130)) H locs ?_ ?_ hS ls (lv_sub hl [0] rfl)
      · with_reducible exact hP
      · with_reducible exact hD
    by_cases e11_136 : p1 = 10
    · refine lv_tableIn (off := 129) (tgt := 136) hx hb d_M_apply_7 (by rw [e11_136]; decide) (by rw [e11_136]; decide) (by rw [e11_136]; rfl) (by decide) ?_
      refine lv_aload_n hx hb d_M_apply_136 rfl (lv_at hl 0 rfl) ?_
      refine lv_iload_n hx hb d_M_apply_137 rfl (lv_at hl 2 rfl) ?_
      refine mm_v (F := f_M_signedRight g3 p2) (w1 := fun g138 => (mW ad cJ cZ c0 g138 w0 s0)) (va_runV (As := [.int (p2)]) (rest := []) ⟨hx, hb, hml, hown, hts⟩ (c_M_signedRight l dC dI ad cJ cZ H.size c0 g3 w0 s0 p2) (cwV 1 hts (gxV gx188 gx189 gx296 gx0 gx190) rfl rfl rfl (by decide +kernel) ⟨(Nat.le_of_ble_eq_true rfl), (Nat.le_of_ble_eq_true rfl)⟩) ⟨blp, va_recv hK hP (ci := 2) (q0 := 0) rfl rfl, fun U hU hW => ⟨rfl, by rw [hU], by rw [hU]; exact hP, va_K.moved hW.alike hK, hD.weaken (fun _ _ _ _ => trivial)⟩⟩ rfl rfl hl.1 rfl (lv_room (Nat.le_of_ble_eq_true rfl)) d_M_apply_138 ⟨Nat.zero_le _, Nat.zero_le _⟩) hD hS hA (fun g138 eg138 H locs hP hD hS => ?_)
      refine K138g g138 (Eq.trans (hj.trans (by unfold f_M_apply_3g; first | with_reducible exact (if_neg e1_64).trans ((if_neg e2_71).trans ((if_neg e3_78).trans ((if_neg e4_85).trans ((if_neg e5_92).trans ((if_neg e6_99).trans ((if_neg e7_106).trans ((if_neg e8_113).trans ((if_neg e9_120).trans ((if_neg e10_128).trans (if_pos e11_136)))))))))) | exact (if_neg e1_64).trans ((if_neg e2_71).trans ((if_neg e3_78).trans ((if_neg e4_85).trans ((if_neg e5_92).trans ((if_neg e6_99).trans ((if_neg e7_106).trans ((if_neg e8_113).trans ((if_neg e9_120).trans ((if_neg e10_128).trans (if_pos e11_136)))))))))))) (congrArg (fun g138 => f_M_apply_138g r0 p1 p2 g138) eg138)) H locs ?_ ?_ hS ls (lv_sub hl [0] rfl)
      · with_reducible exact hP
      · with_reducible exact hD
    refine lv_tableOut (tgt := 144) hx hb d_M_apply_7 (by have n0 := lv_neT (a := 0) e1_64 (by decide); have n1 := lv_neT (a := 1) e2_71 (by decide); have n2 := lv_neT (a := 2) e3_78 (by decide); have n3 := lv_neT (a := 3) e4_85 (by decide); have n4 := lv_neT (a := 4) e5_92 (by decide); have n5 := lv_neT (a := 5) e6_99 (by decide); have n6 := lv_neT (a := 6) e7_106 (by decide); have n7 := lv_neT (a := 7) e8_113 (by decide); have n8 := lv_neT (a := 8) e9_120 (by decide); have n9 := lv_neT (a := 9) e10_128 (by decide); have n10 := lv_neT (a := 10) e11_136 (by decide); omega) (by decide) ?_
    refine lv_aload_n hx hb d_M_apply_144 rfl (lv_at hl 0 rfl) ?_
    refine lv_bipush (v := 17) hx hb d_M_apply_145 (by decide) ?_
    refine lv_bipush (v := 18) hx hb d_M_apply_147 (by decide) ?_
    refine mm_v (F := f_M_copy g3 17 18) (w1 := fun g149 => (mW ad cJ cZ c0 g149 w0 s0)) (va_runV (As := [.int (17), .int (18)]) (rest := []) ⟨hx, hb, hml, hown, hts⟩ (c_M_copy l dC dI ad cJ cZ H.size c0 g3 w0 s0 17 18 (by decide) (by decide)) (cwV 2 hts (gxV gx48 gx49 gx268 gx0 gx50) rfl rfl rfl (by decide +kernel) ⟨(Nat.le_of_ble_eq_true rfl), (Nat.le_of_ble_eq_true rfl)⟩) ⟨blp, va_recv hK hP (ci := 2) (q0 := 0) rfl rfl, fun U hU hW => ⟨rfl, by rw [hU], by rw [hU]; exact hP, va_K.moved hW.alike hK, hD.weaken (fun _ _ _ _ => trivial)⟩⟩ rfl rfl hl.1 rfl (lv_room (Nat.le_of_ble_eq_true rfl)) d_M_apply_149 ⟨Nat.zero_le _, Nat.zero_le _⟩) hD hS hA (fun g149 eg149 H locs hP hD hS => ?_)
    refine K149g g149 (Eq.trans (hj.trans (by unfold f_M_apply_3g; first | with_reducible exact (if_neg e1_64).trans ((if_neg e2_71).trans ((if_neg e3_78).trans ((if_neg e4_85).trans ((if_neg e5_92).trans ((if_neg e6_99).trans ((if_neg e7_106).trans ((if_neg e8_113).trans ((if_neg e9_120).trans ((if_neg e10_128).trans (if_neg e11_136)))))))))) | exact (if_neg e1_64).trans ((if_neg e2_71).trans ((if_neg e3_78).trans ((if_neg e4_85).trans ((if_neg e5_92).trans ((if_neg e6_99).trans ((if_neg e7_106).trans ((if_neg e8_113).trans ((if_neg e9_120).trans ((if_neg e10_128).trans (if_neg e11_136)))))))))))) (congrArg (fun g149 => f_M_apply_149g r0 p1 p2 g149) eg149)) H locs ?_ ?_ hS ls (lv_sub hl [0] rfl)
    · with_reducible exact hP
    · with_reducible exact hD
  refine lv_aload_n hx hb d_M_apply_0 rfl (lv_at hl 0 rfl) ?_
  refine lv_bipush (v := 18) hx hb d_M_apply_1 (by decide) ?_
  refine mm_v (F := f_M_nothingSaid r0 18) (w1 := fun g3 => (mW ad cJ cZ c0 g3 w0 s0)) (va_runV (As := [.int (18)]) (rest := []) ⟨hx, hb, hml, hown, hts⟩ (c_M_nothingSaid l dC dI ad cJ cZ s.heap.size c0 r0 w0 s0 18 (by decide)) (cwV 1 hts (gxV gx39 gx40 gx267 gx0 gx41) rfl rfl rfl (by decide +kernel) ⟨(Nat.le_of_ble_eq_true rfl), (Nat.le_of_ble_eq_true rfl)⟩) ⟨blp, va_recv hK hP (ci := 2) (q0 := 0) rfl rfl, fun U hU hW => ⟨rfl, by rw [hU], by rw [hU]; exact hP, va_K.moved hW.alike hK, hD.weaken (fun _ _ _ _ => trivial)⟩⟩ rfl rfl hl.1 rfl (lv_room (Nat.le_of_ble_eq_true rfl)) d_M_apply_3 ⟨Nat.zero_le _, Nat.zero_le _⟩) hD hS hA (fun g3 eg3 H locs hP hD hS => ?_)
  refine K3g g3 (Eq.trans (rfl) (congrArg (fun g3 => f_M_apply_3g r0 p1 p2 g3) eg3)) H locs ?_ ?_ hS ls (lv_sub hl [0, 1, 2] rfl)
  · with_reducible exact hP
  · with_reducible exact hD
-- joinBits
theorem d_M_joinBits_0 : decode b_M_joinBits 0 = .ok (.aload_n 0, 1) := by decide +kernel
theorem d_M_joinBits_1 : decode b_M_joinBits 1 = .ok (.getfield 13, 3) := by decide +kernel
theorem d_M_joinBits_4 : decode b_M_joinBits 4 = .ok (.iload_n 1, 1) := by decide +kernel
theorem d_M_joinBits_5 : decode b_M_joinBits 5 = .ok (.laload, 1) := by decide +kernel
theorem d_M_joinBits_6 : decode b_M_joinBits 6 = .ok (.aload_n 0, 1) := by decide +kernel
theorem d_M_joinBits_7 : decode b_M_joinBits 7 = .ok (.getfield 13, 3) := by decide +kernel
theorem d_M_joinBits_10 : decode b_M_joinBits 10 = .ok (.iload_n 2, 1) := by decide +kernel
theorem d_M_joinBits_11 : decode b_M_joinBits 11 = .ok (.laload, 1) := by decide +kernel
theorem d_M_joinBits_12 : decode b_M_joinBits 12 = .ok (.lor, 1) := by decide +kernel
theorem d_M_joinBits_13 : decode b_M_joinBits 13 = .ok (.aload_n 0, 1) := by decide +kernel
theorem d_M_joinBits_14 : decode b_M_joinBits 14 = .ok (.getfield 7, 3) := by decide +kernel
theorem d_M_joinBits_17 : decode b_M_joinBits 17 = .ok (.iload_n 1, 1) := by decide +kernel
theorem d_M_joinBits_18 : decode b_M_joinBits 18 = .ok (.laload, 1) := by decide +kernel
theorem d_M_joinBits_19 : decode b_M_joinBits 19 = .ok (.aload_n 0, 1) := by decide +kernel
theorem d_M_joinBits_20 : decode b_M_joinBits 20 = .ok (.getfield 7, 3) := by decide +kernel
theorem d_M_joinBits_23 : decode b_M_joinBits 23 = .ok (.iload_n 2, 1) := by decide +kernel
theorem d_M_joinBits_24 : decode b_M_joinBits 24 = .ok (.laload, 1) := by decide +kernel
theorem d_M_joinBits_25 : decode b_M_joinBits 25 = .ok (.lxor, 1) := by decide +kernel
theorem d_M_joinBits_26 : decode b_M_joinBits 26 = .ok (.lor, 1) := by decide +kernel
theorem d_M_joinBits_27 : decode b_M_joinBits 27 = .ok (.lstore_n 3, 1) := by decide +kernel
theorem d_M_joinBits_28 : decode b_M_joinBits 28 = .ok (.aload_n 0, 1) := by decide +kernel
theorem d_M_joinBits_29 : decode b_M_joinBits 29 = .ok (.getfield 13, 3) := by decide +kernel
theorem d_M_joinBits_32 : decode b_M_joinBits 32 = .ok (.bipush 18, 2) := by decide +kernel
theorem d_M_joinBits_34 : decode b_M_joinBits 34 = .ok (.lload_n 3, 1) := by decide +kernel
theorem d_M_joinBits_35 : decode b_M_joinBits 35 = .ok (.lastore, 1) := by decide +kernel
theorem d_M_joinBits_36 : decode b_M_joinBits 36 = .ok (.aload_n 0, 1) := by decide +kernel
theorem d_M_joinBits_37 : decode b_M_joinBits 37 = .ok (.getfield 7, 3) := by decide +kernel
theorem d_M_joinBits_40 : decode b_M_joinBits 40 = .ok (.bipush 18, 2) := by decide +kernel
theorem d_M_joinBits_42 : decode b_M_joinBits 42 = .ok (.aload_n 0, 1) := by decide +kernel
theorem d_M_joinBits_43 : decode b_M_joinBits 43 = .ok (.getfield 7, 3) := by decide +kernel
theorem d_M_joinBits_46 : decode b_M_joinBits 46 = .ok (.iload_n 1, 1) := by decide +kernel
theorem d_M_joinBits_47 : decode b_M_joinBits 47 = .ok (.laload, 1) := by decide +kernel
theorem d_M_joinBits_48 : decode b_M_joinBits 48 = .ok (.lload_n 3, 1) := by decide +kernel
theorem d_M_joinBits_49 : decode b_M_joinBits 49 = .ok (.ldc2_w 49, 3) := by decide +kernel
theorem d_M_joinBits_52 : decode b_M_joinBits 52 = .ok (.lxor, 1) := by decide +kernel
theorem d_M_joinBits_53 : decode b_M_joinBits 53 = .ok (.land, 1) := by decide +kernel
theorem d_M_joinBits_54 : decode b_M_joinBits 54 = .ok (.lastore, 1) := by decide +kernel
theorem d_M_joinBits_55 : decode b_M_joinBits 55 = .ok (.return_, 1) := by decide +kernel
def f_M_joinBits_54u (r0 : (Nat → VV)) (p1 : Nat) (p2 : Nat) (r54n : (Nat → VV)) : (Nat → VV) := r54n
def f_M_joinBits_35u (r0 : (Nat → VV)) (p1 : Nat) (p2 : Nat) (v27 : Int64) (r35n : (Nat → VV)) : (Nat → VV) := f_M_joinBits_54u r0 p1 p2 (u1 r35n 18 (((r35n p1).1) &&& (v27 ^^^ (-1 : Int64))))
def f_M_joinBits_27v (r0 : (Nat → VV)) (p1 : Nat) (p2 : Nat) (v27 : Int64) : (Nat → VV) := f_M_joinBits_35u r0 p1 p2 v27 (u2 r0 18 v27)
def f_M_joinBits (r0 : (Nat → VV)) (p1 : Nat) (p2 : Nat) : (Nat → VV) := f_M_joinBits_27v r0 p1 p2 ((((r0 p1).2.1) ||| ((r0 p2).2.1)) ||| (((r0 p1).1) ^^^ ((r0 p2).1)))
set_option maxRecDepth 100000 in
set_option maxHeartbeats 4000000 in
theorem c_M_joinBits (l : Launch) (dC : Nat → ClassId) (dI : Nat → Nat → Nat) (ad : Nat → Nat) (cJ cZ : ClassId) (sz : Nat) (c0 : Int32) (r0 : (Nat → VV)) (w0 : (Nat → Int64)) (s0 : Int32) (p1 : Nat) (p2 : Nat) (b1 : p1 < 24) (b2 : p2 < 24) : Met l y_M_joinBits w_M_joinBits ({ frames := 0, cells := 0, slots := 0, locals := 0 } : Room) (va_Pc [.ref (ad 0), .int (nI p1), .int (nI p2)] (nP (dC, dI) (mT cJ cZ) (mW ad cJ cZ c0 r0 w0 s0) sz)) (va_Qv (fun _ : Unit => True) (mB (dC, dI) (va_A (mW ad cJ cZ c0 r0 w0 s0) sz) (mW ad cJ cZ c0 (f_M_joinBits r0 p1 p2) w0 s0)) (va_A (mW ad cJ cZ c0 r0 w0 s0) sz)) 0 0 (va_A (mW ad cJ cZ c0 r0 w0 s0) sz) := by
  refine Met.ofW (cc := b_M_joinBits) (maxL := 5) (ret := none) (by decide) rfl ?_
  intro p e s m args below meth c s₁ B hml hv
  obtain ⟨rfl, hsz, hP, hK, hD0⟩ := hv
  have hx := B.exec
  have hb := B.bytes
  have hr := B.returns
  have hts := atoms_spec (ws := w_M_joinBits) B.pre
  have hG : ∀ w ∈ gM, w.before _ s = true := fun w h => hts w (List.mem_cons_of_mem _ h)
  have hown : s.vm.findClass R_M = some m.cls := findClass_of_methodNamed B.named
  have hlocks := B.notSynchronized
  subst hsz
  have hD := hD0.self (sz := s.heap.size)
  generalize hAe : va_A (mW ad cJ cZ c0 r0 w0 s0) s.heap.size = A at hD ⊢
  have hA : ∀ q : Nat, s.heap.size ≤ q → A q := fun q h => by rw [← hAe]; exact Or.inr h
  have hS : va_S A s.heap s.heap [] := va_S.rf
  have hl := lv_entry ([.ref (ad 0), .int (nI p1), .int (nI p2)]) (n := 5) (Nat.le_of_ble_eq_true rfl)
  rw [lg_entry_eq]
  generalize (lg_sl ([.ref (ad 0), .int (nI p1), .int (nI p2)]) ++ List.replicate (5 - (lg_sl ([.ref (ad 0), .int (nI p1), .int (nI p2)])).length) Slot.unset).toArray = ls at hl ⊢
  have hl : lv_has ls 5 [(0, .ref (ad 0)), (1, .int (nI p1)), (2, .int (nI p2))] := hl
  have K54u : ∀ (r54n : (Nat → VV)) (hj : f_M_joinBits r0 p1 p2 = f_M_joinBits_54u r0 p1 p2 r54n) (H : Heap) (locs : List Loc) (hP : va_P (dC, dI) classes (mW ad cJ cZ c0 r54n w0 s0) H) (hD : va_D A (mW ad cJ cZ c0 r54n w0 s0)) (hS : va_S A s.heap H locs) (ls : Array Slot) (hl : lv_has ls 5 []), W p l e (headSpec w_M_joinBits ({ frames := 0, cells := 0, slots := 0, locals := 0 } : Room)).room s m ([.ref (ad 0), .int (nI p1), .int (nI p2)] : List Value).toArray below meth c H locs 0 0 (MQ below (va_Qv (fun _ : Unit => True) (mB (dC, dI) A (mW ad cJ cZ c0 (f_M_joinBits r0 p1 p2) w0 s0)) A) ([.ref (ad 0), .int (nI p1), .int (nI p2)] : List Value).toArray s 0 0 A) (F0 m 55 ls []) := by
    intro r54n hj H locs hP hD hS ls hl
    have fe : f_M_joinBits r0 p1 p2 = r54n := hj.trans rfl
    exact W.vret hx hb hr (fun t ht hW => ⟨⟨(), rfl, trivial, by rw [ht, fe]; exact hP, by rw [fe]; exact hD⟩, hS.F ht⟩) hS.2.2 d_M_joinBits_55
  have K35u : ∀ (v27 : Int64) (r35n : (Nat → VV)) (hj : f_M_joinBits r0 p1 p2 = f_M_joinBits_35u r0 p1 p2 v27 r35n) (H : Heap) (locs : List Loc) (hP : va_P (dC, dI) classes (mW ad cJ cZ c0 r35n w0 s0) H) (hD : va_D A (mW ad cJ cZ c0 r35n w0 s0)) (hS : va_S A s.heap H locs) (ls : Array Slot) (hl : lv_has ls 5 [(3, .long (v27)), (0, .ref (ad 0)), (1, .int (nI p1))]), W p l e (headSpec w_M_joinBits ({ frames := 0, cells := 0, slots := 0, locals := 0 } : Room)).room s m ([.ref (ad 0), .int (nI p1), .int (nI p2)] : List Value).toArray below meth c H locs 0 0 (MQ below (va_Qv (fun _ : Unit => True) (mB (dC, dI) A (mW ad cJ cZ c0 (f_M_joinBits r0 p1 p2) w0 s0)) A) ([.ref (ad 0), .int (nI p1), .int (nI p2)] : List Value).toArray s 0 0 A) (F0 m 36 ls []) := by
    intro v27 r35n hj H locs hP hD hS ls hl
    refine lv_aload_n hx hb d_M_joinBits_36 rfl (lv_at hl 1 rfl) ?_
    refine va_get (D := (dC, dI)) (ci := 2) (v := .ref (ad 1)) (C := R_M) (T := F_M) (N := 10) hx hb hts (fun w h => List.mem_cons_of_mem _ (uw_M w h)) hown hK hP 0 rfl rfl 1 (by decide) (hG (.fieldLink R_M 7 "ValueSieveModel" "bits" "[J") gx10) (fun _ h9 => h9) rfl d_M_joinBits_37 ?_
    refine lv_bipush (v := 18) hx hb d_M_joinBits_40 (by decide) ?_
    refine lv_aload_n hx hb d_M_joinBits_42 rfl (lv_at hl 1 rfl) ?_
    refine va_get (D := (dC, dI)) (ci := 2) (v := .ref (ad 1)) (C := R_M) (T := F_M) (N := 10) hx hb hts (fun w h => List.mem_cons_of_mem _ (uw_M w h)) hown hK hP 0 rfl rfl 1 (by decide) (hG (.fieldLink R_M 7 "ValueSieveModel" "bits" "[J") gx10) (fun _ h9 => h9) rfl d_M_joinBits_43 ?_
    refine lv_iload_n hx hb d_M_joinBits_46 rfl (lv_at hl 2 rfl) ?_
    refine ml_1 (P := p1) hx hb hK hP rfl b1 d_M_joinBits_47 ?_
    refine lv_lload_n hx hb d_M_joinBits_48 rfl (lv_at hl 0 rfl) ?_
    refine lv_ldc2 (v := -1) hx hb hown (hG (.constantLong R_M 49 (-1)) gx42) d_M_joinBits_49 ?_
    refine lv_lxor hx hb d_M_joinBits_52 ?_
    refine lv_land hx hb d_M_joinBits_53 ?_
    refine ms_1 (P := 18) (x := ((r35n p1).1) &&& (v27 ^^^ (-1 : Int64))) hx hb hK hP hD hS rfl (by decide) d_M_joinBits_54 (fun H locs hP hD hS => ?_)
    obtain ⟨r54n, er54n⟩ : ∃ z, z = u1 r35n 18 (((r35n p1).1) &&& (v27 ^^^ (-1 : Int64))) := ⟨_, rfl⟩
    rw [← er54n] at hP hD
    refine K54u r54n (Eq.trans (hj.trans rfl) (congrArg (fun r54n => f_M_joinBits_54u r0 p1 p2 r54n) er54n.symm)) H locs ?_ ?_ hS ls (lv_sub hl [] rfl)
    · with_reducible exact hP
    · with_reducible exact hD
  have K27v : ∀ (v27 : Int64) (hj : f_M_joinBits r0 p1 p2 = f_M_joinBits_27v r0 p1 p2 v27) (H : Heap) (locs : List Loc) (hP : va_P (dC, dI) classes (mW ad cJ cZ c0 r0 w0 s0) H) (hD : va_D A (mW ad cJ cZ c0 r0 w0 s0)) (hS : va_S A s.heap H locs) (ls : Array Slot) (hl : lv_has ls 5 [(3, .long (v27)), (0, .ref (ad 0)), (1, .int (nI p1))]), W p l e (headSpec w_M_joinBits ({ frames := 0, cells := 0, slots := 0, locals := 0 } : Room)).room s m ([.ref (ad 0), .int (nI p1), .int (nI p2)] : List Value).toArray below meth c H locs 0 0 (MQ below (va_Qv (fun _ : Unit => True) (mB (dC, dI) A (mW ad cJ cZ c0 (f_M_joinBits r0 p1 p2) w0 s0)) A) ([.ref (ad 0), .int (nI p1), .int (nI p2)] : List Value).toArray s 0 0 A) (F0 m 28 ls []) := by
    intro v27 hj H locs hP hD hS ls hl
    refine lv_aload_n hx hb d_M_joinBits_28 rfl (lv_at hl 1 rfl) ?_
    refine va_get (D := (dC, dI)) (ci := 2) (v := .ref (ad 2)) (C := R_M) (T := F_M) (N := 10) hx hb hts (fun w h => List.mem_cons_of_mem _ (uw_M w h)) hown hK hP 0 rfl rfl 2 (by decide) (hG (.fieldLink R_M 13 "ValueSieveModel" "open" "[J") gx11) (fun _ h9 => h9) rfl d_M_joinBits_29 ?_
    refine lv_bipush (v := 18) hx hb d_M_joinBits_32 (by decide) ?_
    refine lv_lload_n hx hb d_M_joinBits_34 rfl (lv_at hl 0 rfl) ?_
    refine ms_2 (P := 18) (x := v27) hx hb hK hP hD hS rfl (by decide) d_M_joinBits_35 (fun H locs hP hD hS => ?_)
    obtain ⟨r35n, er35n⟩ : ∃ z, z = u2 r0 18 v27 := ⟨_, rfl⟩
    rw [← er35n] at hP hD
    refine K35u v27 r35n (Eq.trans (hj.trans rfl) (congrArg (fun r35n => f_M_joinBits_35u r0 p1 p2 v27 r35n) er35n.symm)) H locs ?_ ?_ hS ls (lv_sub hl [0, 1, 2] rfl)
    · with_reducible exact hP
    · with_reducible exact hD
  refine lv_aload_n hx hb d_M_joinBits_0 rfl (lv_at hl 0 rfl) ?_
  refine va_get (D := (dC, dI)) (ci := 2) (v := .ref (ad 2)) (C := R_M) (T := F_M) (N := 10) hx hb hts (fun w h => List.mem_cons_of_mem _ (uw_M w h)) hown hK hP 0 rfl rfl 2 (by decide) (hG (.fieldLink R_M 13 "ValueSieveModel" "open" "[J") gx11) (fun _ h9 => h9) rfl d_M_joinBits_1 ?_
  refine lv_iload_n hx hb d_M_joinBits_4 rfl (lv_at hl 1 rfl) ?_
  refine ml_2 (P := p1) hx hb hK hP rfl b1 d_M_joinBits_5 ?_
  refine lv_aload_n hx hb d_M_joinBits_6 rfl (lv_at hl 0 rfl) ?_
  refine va_get (D := (dC, dI)) (ci := 2) (v := .ref (ad 2)) (C := R_M) (T := F_M) (N := 10) hx hb hts (fun w h => List.mem_cons_of_mem _ (uw_M w h)) hown hK hP 0 rfl rfl 2 (by decide) (hG (.fieldLink R_M 13 "ValueSieveModel" "open" "[J") gx11) (fun _ h9 => h9) rfl d_M_joinBits_7 ?_
  refine lv_iload_n hx hb d_M_joinBits_10 rfl (lv_at hl 2 rfl) ?_
  refine ml_2 (P := p2) hx hb hK hP rfl b2 d_M_joinBits_11 ?_
  refine lv_lor hx hb d_M_joinBits_12 ?_
  refine lv_aload_n hx hb d_M_joinBits_13 rfl (lv_at hl 0 rfl) ?_
  refine va_get (D := (dC, dI)) (ci := 2) (v := .ref (ad 1)) (C := R_M) (T := F_M) (N := 10) hx hb hts (fun w h => List.mem_cons_of_mem _ (uw_M w h)) hown hK hP 0 rfl rfl 1 (by decide) (hG (.fieldLink R_M 7 "ValueSieveModel" "bits" "[J") gx10) (fun _ h9 => h9) rfl d_M_joinBits_14 ?_
  refine lv_iload_n hx hb d_M_joinBits_17 rfl (lv_at hl 1 rfl) ?_
  refine ml_1 (P := p1) hx hb hK hP rfl b1 d_M_joinBits_18 ?_
  refine lv_aload_n hx hb d_M_joinBits_19 rfl (lv_at hl 0 rfl) ?_
  refine va_get (D := (dC, dI)) (ci := 2) (v := .ref (ad 1)) (C := R_M) (T := F_M) (N := 10) hx hb hts (fun w h => List.mem_cons_of_mem _ (uw_M w h)) hown hK hP 0 rfl rfl 1 (by decide) (hG (.fieldLink R_M 7 "ValueSieveModel" "bits" "[J") gx10) (fun _ h9 => h9) rfl d_M_joinBits_20 ?_
  refine lv_iload_n hx hb d_M_joinBits_23 rfl (lv_at hl 2 rfl) ?_
  refine ml_1 (P := p2) hx hb hK hP rfl b2 d_M_joinBits_24 ?_
  refine lv_lxor hx hb d_M_joinBits_25 ?_
  refine lv_lor hx hb d_M_joinBits_26 ?_
  refine lv_topl (fun v27 ev27 => ?_)
  refine lv_lstore_n (lv' := [(3, .long (v27)), (0, .ref (ad 0)), (1, .int (nI p1)), (2, .int (nI p2))]) hx hb d_M_joinBits_27 rfl hl (by decide) rfl (fun ls hl => ?_)
  refine K27v v27 (Eq.trans (rfl) (congrArg (fun v27 => f_M_joinBits_27v r0 p1 p2 v27) ev27.symm)) s.heap [] ?_ ?_ hS ls (lv_sub hl [0, 1, 2] rfl)
  · with_reducible exact hP
  · with_reducible exact hD
