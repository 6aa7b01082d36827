-- both
theorem d_M_both_0 : decode b_M_both 0 = .ok (.aload_n 0, 1) := by decide +kernel
theorem d_M_both_1 : decode b_M_both 1 = .ok (.getfield 13, 3) := by decide +kernel
theorem d_M_both_4 : decode b_M_both 4 = .ok (.iload_n 1, 1) := by decide +kernel
theorem d_M_both_5 : decode b_M_both 5 = .ok (.laload, 1) := by decide +kernel
theorem d_M_both_6 : decode b_M_both 6 = .ok (.ldc2_w 49, 3) := by decide +kernel
theorem d_M_both_9 : decode b_M_both 9 = .ok (.lxor, 1) := by decide +kernel
theorem d_M_both_10 : decode b_M_both 10 = .ok (.aload_n 0, 1) := by decide +kernel
theorem d_M_both_11 : decode b_M_both 11 = .ok (.getfield 13, 3) := by decide +kernel
theorem d_M_both_14 : decode b_M_both 14 = .ok (.iload_n 2, 1) := by decide +kernel
theorem d_M_both_15 : decode b_M_both 15 = .ok (.laload, 1) := by decide +kernel
theorem d_M_both_16 : decode b_M_both 16 = .ok (.ldc2_w 49, 3) := by decide +kernel
theorem d_M_both_19 : decode b_M_both 19 = .ok (.lxor, 1) := by decide +kernel
theorem d_M_both_20 : decode b_M_both 20 = .ok (.land, 1) := by decide +kernel
theorem d_M_both_21 : decode b_M_both 21 = .ok (.lstore_n 3, 1) := by decide +kernel
theorem d_M_both_22 : decode b_M_both 22 = .ok (.aload_n 0, 1) := by decide +kernel
theorem d_M_both_23 : decode b_M_both 23 = .ok (.getfield 28, 3) := by decide +kernel
theorem d_M_both_26 : decode b_M_both 26 = .ok (.iload_n 1, 1) := by decide +kernel
theorem d_M_both_27 : decode b_M_both 27 = .ok (.aload_n 0, 1) := by decide +kernel
theorem d_M_both_28 : decode b_M_both 28 = .ok (.getfield 28, 3) := by decide +kernel
theorem d_M_both_31 : decode b_M_both 31 = .ok (.iload_n 1, 1) := by decide +kernel
theorem d_M_both_32 : decode b_M_both 32 = .ok (.baload, 1) := by decide +kernel
theorem d_M_both_33 : decode b_M_both 33 = .ok (.ifCond .ne 23, 3) := by decide +kernel
theorem d_M_both_36 : decode b_M_both 36 = .ok (.aload_n 0, 1) := by decide +kernel
theorem d_M_both_37 : decode b_M_both 37 = .ok (.getfield 7, 3) := by decide +kernel
theorem d_M_both_40 : decode b_M_both 40 = .ok (.iload_n 1, 1) := by decide +kernel
theorem d_M_both_41 : decode b_M_both 41 = .ok (.laload, 1) := by decide +kernel
theorem d_M_both_42 : decode b_M_both 42 = .ok (.aload_n 0, 1) := by decide +kernel
theorem d_M_both_43 : decode b_M_both 43 = .ok (.getfield 7, 3) := by decide +kernel
theorem d_M_both_46 : decode b_M_both 46 = .ok (.iload_n 2, 1) := by decide +kernel
theorem d_M_both_47 : decode b_M_both 47 = .ok (.laload, 1) := by decide +kernel
theorem d_M_both_48 : decode b_M_both 48 = .ok (.lxor, 1) := by decide +kernel
theorem d_M_both_49 : decode b_M_both 49 = .ok (.lload_n 3, 1) := by decide +kernel
theorem d_M_both_50 : decode b_M_both 50 = .ok (.land, 1) := by decide +kernel
theorem d_M_both_51 : decode b_M_both 51 = .ok (.lconst 0, 1) := by decide +kernel
theorem d_M_both_52 : decode b_M_both 52 = .ok (.lcmp, 1) := by decide +kernel
theorem d_M_both_53 : decode b_M_both 53 = .ok (.ifCond .eq 7, 3) := by decide +kernel
theorem d_M_both_56 : decode b_M_both 56 = .ok (.iconst 1, 1) := by decide +kernel
theorem d_M_both_57 : decode b_M_both 57 = .ok (.goto 4, 3) := by decide +kernel
theorem d_M_both_60 : decode b_M_both 60 = .ok (.iconst 0, 1) := by decide +kernel
theorem d_M_both_61 : decode b_M_both 61 = .ok (.bastore, 1) := by decide +kernel
theorem d_M_both_62 : decode b_M_both 62 = .ok (.aload_n 0, 1) := by decide +kernel
theorem d_M_both_63 : decode b_M_both 63 = .ok (.getfield 7, 3) := by decide +kernel
theorem d_M_both_66 : decode b_M_both 66 = .ok (.iload_n 1, 1) := by decide +kernel
theorem d_M_both_67 : decode b_M_both 67 = .ok (.aload_n 0, 1) := by decide +kernel
theorem d_M_both_68 : decode b_M_both 68 = .ok (.getfield 7, 3) := by decide +kernel
theorem d_M_both_71 : decode b_M_both 71 = .ok (.iload_n 1, 1) := by decide +kernel
theorem d_M_both_72 : decode b_M_both 72 = .ok (.laload, 1) := by decide +kernel
theorem d_M_both_73 : decode b_M_both 73 = .ok (.aload_n 0, 1) := by decide +kernel
theorem d_M_both_74 : decode b_M_both 74 = .ok (.getfield 7, 3) := by decide +kernel
theorem d_M_both_77 : decode b_M_both 77 = .ok (.iload_n 2, 1) := by decide +kernel
theorem d_M_both_78 : decode b_M_both 78 = .ok (.laload, 1) := by decide +kernel
theorem d_M_both_79 : decode b_M_both 79 = .ok (.lor, 1) := by decide +kernel
theorem d_M_both_80 : decode b_M_both 80 = .ok (.lastore, 1) := by decide +kernel
theorem d_M_both_81 : decode b_M_both 81 = .ok (.aload_n 0, 1) := by decide +kernel
theorem d_M_both_82 : decode b_M_both 82 = .ok (.getfield 13, 3) := by decide +kernel
theorem d_M_both_85 : decode b_M_both 85 = .ok (.iload_n 1, 1) := by decide +kernel
theorem d_M_both_86 : decode b_M_both 86 = .ok (.aload_n 0, 1) := by decide +kernel
theorem d_M_both_87 : decode b_M_both 87 = .ok (.getfield 13, 3) := by decide +kernel
theorem d_M_both_90 : decode b_M_both 90 = .ok (.iload_n 1, 1) := by decide +kernel
theorem d_M_both_91 : decode b_M_both 91 = .ok (.laload, 1) := by decide +kernel
theorem d_M_both_92 : decode b_M_both 92 = .ok (.aload_n 0, 1) := by decide +kernel
theorem d_M_both_93 : decode b_M_both 93 = .ok (.getfield 13, 3) := by decide +kernel
theorem d_M_both_96 : decode b_M_both 96 = .ok (.iload_n 2, 1) := by decide +kernel
theorem d_M_both_97 : decode b_M_both 97 = .ok (.laload, 1) := by decide +kernel
theorem d_M_both_98 : decode b_M_both 98 = .ok (.land, 1) := by decide +kernel
theorem d_M_both_99 : decode b_M_both 99 = .ok (.lastore, 1) := by decide +kernel
theorem d_M_both_100 : decode b_M_both 100 = .ok (.aload_n 0, 1) := by decide +kernel
theorem d_M_both_101 : decode b_M_both 101 = .ok (.getfield 16, 3) := by decide +kernel
theorem d_M_both_104 : decode b_M_both 104 = .ok (.iload_n 1, 1) := by decide +kernel
theorem d_M_both_105 : decode b_M_both 105 = .ok (.aload_n 0, 1) := by decide +kernel
theorem d_M_both_106 : decode b_M_both 106 = .ok (.getfield 16, 3) := by decide +kernel
theorem d_M_both_109 : decode b_M_both 109 = .ok (.iload_n 1, 1) := by decide +kernel
theorem d_M_both_110 : decode b_M_both 110 = .ok (.laload, 1) := by decide +kernel
theorem d_M_both_111 : decode b_M_both 111 = .ok (.aload_n 0, 1) := by decide +kernel
theorem d_M_both_112 : decode b_M_both 112 = .ok (.getfield 16, 3) := by decide +kernel
theorem d_M_both_115 : decode b_M_both 115 = .ok (.iload_n 2, 1) := by decide +kernel
theorem d_M_both_116 : decode b_M_both 116 = .ok (.laload, 1) := by decide +kernel
theorem d_M_both_117 : decode b_M_both 117 = .ok (.invokestatic 58, 3) := by decide +kernel
theorem d_M_both_120 : decode b_M_both 120 = .ok (.lastore, 1) := by decide +kernel
theorem d_M_both_121 : decode b_M_both 121 = .ok (.aload_n 0, 1) := by decide +kernel
theorem d_M_both_122 : decode b_M_both 122 = .ok (.getfield 19, 3) := by decide +kernel
theorem d_M_both_125 : decode b_M_both 125 = .ok (.iload_n 1, 1) := by decide +kernel
theorem d_M_both_126 : decode b_M_both 126 = .ok (.aload_n 0, 1) := by decide +kernel
theorem d_M_both_127 : decode b_M_both 127 = .ok (.getfield 19, 3) := by decide +kernel
theorem d_M_both_130 : decode b_M_both 130 = .ok (.iload_n 1, 1) := by decide +kernel
theorem d_M_both_131 : decode b_M_both 131 = .ok (.laload, 1) := by decide +kernel
theorem d_M_both_132 : decode b_M_both 132 = .ok (.aload_n 0, 1) := by decide +kernel
theorem d_M_both_133 : decode b_M_both 133 = .ok (.getfield 19, 3) := by decide +kernel
theorem d_M_both_136 : decode b_M_both 136 = .ok (.iload_n 2, 1) := by decide +kernel
theorem d_M_both_137 : decode b_M_both 137 = .ok (.laload, 1) := by decide +kernel
theorem d_M_both_138 : decode b_M_both 138 = .ok (.invokestatic 61, 3) := by decide +kernel
theorem d_M_both_141 : decode b_M_both 141 = .ok (.lastore, 1) := by decide +kernel
theorem d_M_both_142 : decode b_M_both 142 = .ok (.aload_n 0, 1) := by decide +kernel
theorem d_M_both_143 : decode b_M_both 143 = .ok (.getfield 22, 3) := by decide +kernel
theorem d_M_both_146 : decode b_M_both 146 = .ok (.iload_n 1, 1) := by decide +kernel
theorem d_M_both_147 : decode b_M_both 147 = .ok (.aload_n 0, 1) := by decide +kernel
theorem d_M_both_148 : decode b_M_both 148 = .ok (.getfield 22, 3) := by decide +kernel
theorem d_M_both_151 : decode b_M_both 151 = .ok (.iload_n 1, 1) := by decide +kernel
theorem d_M_both_152 : decode b_M_both 152 = .ok (.laload, 1) := by decide +kernel
theorem d_M_both_153 : decode b_M_both 153 = .ok (.aload_n 0, 1) := by decide +kernel
theorem d_M_both_154 : decode b_M_both 154 = .ok (.getfield 22, 3) := by decide +kernel
theorem d_M_both_157 : decode b_M_both 157 = .ok (.iload_n 2, 1) := by decide +kernel
theorem d_M_both_158 : decode b_M_both 158 = .ok (.laload, 1) := by decide +kernel
theorem d_M_both_159 : decode b_M_both 159 = .ok (.lcmp, 1) := by decide +kernel
theorem d_M_both_160 : decode b_M_both 160 = .ok (.ifCond .le 12, 3) := by decide +kernel
theorem d_M_both_163 : decode b_M_both 163 = .ok (.aload_n 0, 1) := by decide +kernel
theorem d_M_both_164 : decode b_M_both 164 = .ok (.getfield 22, 3) := by decide +kernel
theorem d_M_both_167 : decode b_M_both 167 = .ok (.iload_n 1, 1) := by decide +kernel
theorem d_M_both_168 : decode b_M_both 168 = .ok (.laload, 1) := by decide +kernel
theorem d_M_both_169 : decode b_M_both 169 = .ok (.goto 9, 3) := by decide +kernel
theorem d_M_both_172 : decode b_M_both 172 = .ok (.aload_n 0, 1) := by decide +kernel
theorem d_M_both_173 : decode b_M_both 173 = .ok (.getfield 22, 3) := by decide +kernel
theorem d_M_both_176 : decode b_M_both 176 = .ok (.iload_n 2, 1) := by decide +kernel
theorem d_M_both_177 : decode b_M_both 177 = .ok (.laload, 1) := by decide +kernel
theorem d_M_both_178 : decode b_M_both 178 = .ok (.lastore, 1) := by decide +kernel
theorem d_M_both_179 : decode b_M_both 179 = .ok (.aload_n 0, 1) := by decide +kernel
theorem d_M_both_180 : decode b_M_both 180 = .ok (.getfield 25, 3) := by decide +kernel
theorem d_M_both_183 : decode b_M_both 183 = .ok (.iload_n 1, 1) := by decide +kernel
theorem d_M_both_184 : decode b_M_both 184 = .ok (.aload_n 0, 1) := by decide +kernel
theorem d_M_both_185 : decode b_M_both 185 = .ok (.getfield 25, 3) := by decide +kernel
theorem d_M_both_188 : decode b_M_both 188 = .ok (.iload_n 1, 1) := by decide +kernel
theorem d_M_both_189 : decode b_M_both 189 = .ok (.laload, 1) := by decide +kernel
theorem d_M_both_190 : decode b_M_both 190 = .ok (.aload_n 0, 1) := by decide +kernel
theorem d_M_both_191 : decode b_M_both 191 = .ok (.getfield 25, 3) := by decide +kernel
theorem d_M_both_194 : decode b_M_both 194 = .ok (.iload_n 2, 1) := by decide +kernel
theorem d_M_both_195 : decode b_M_both 195 = .ok (.laload, 1) := by decide +kernel
theorem d_M_both_196 : decode b_M_both 196 = .ok (.lcmp, 1) := by decide +kernel
theorem d_M_both_197 : decode b_M_both 197 = .ok (.ifCond .ge 12, 3) := by decide +kernel
theorem d_M_both_200 : decode b_M_both 200 = .ok (.aload_n 0, 1) := by decide +kernel
theorem d_M_both_201 : decode b_M_both 201 = .ok (.getfield 25, 3) := by decide +kernel
theorem d_M_both_204 : decode b_M_both 204 = .ok (.iload_n 1, 1) := by decide +kernel
theorem d_M_both_205 : decode b_M_both 205 = .ok (.laload, 1) := by decide +kernel
theorem d_M_both_206 : decode b_M_both 206 = .ok (.goto 9, 3) := by decide +kernel
theorem d_M_both_209 : decode b_M_both 209 = .ok (.aload_n 0, 1) := by decide +kernel
theorem d_M_both_210 : decode b_M_both 210 = .ok (.getfield 25, 3) := by decide +kernel
theorem d_M_both_213 : decode b_M_both 213 = .ok (.iload_n 2, 1) := by decide +kernel
theorem d_M_both_214 : decode b_M_both 214 = .ok (.laload, 1) := by decide +kernel
theorem d_M_both_215 : decode b_M_both 215 = .ok (.lastore, 1) := by decide +kernel
theorem d_M_both_216 : decode b_M_both 216 = .ok (.return_, 1) := by decide +kernel
def f_M_both_215u (r0 : (Nat → VV)) (p1 : Nat) (p2 : Nat) (r215n : (Nat → VV)) : (Nat → VV) := r215n
def f_M_both_215 (r0 : (Nat → VV)) (p1 : Nat) (p2 : Nat) (s215_0 : Int64) (r178n : (Nat → VV)) : (Nat → VV) := f_M_both_215u r0 p1 p2 (u6 r178n p1 s215_0)
def f_M_both_178u (r0 : (Nat → VV)) (p1 : Nat) (p2 : Nat) (r178n : (Nat → VV)) : (Nat → VV) := (if ((r178n p1).2.2.2.2.2.1) < ((r178n p2).2.2.2.2.2.1) then f_M_both_215 r0 p1 p2 ((r178n p1).2.2.2.2.2.1) r178n else f_M_both_215 r0 p1 p2 ((r178n p2).2.2.2.2.2.1) r178n)
def f_M_both_178 (r0 : (Nat → VV)) (p1 : Nat) (p2 : Nat) (s178_0 : Int64) (r141n : (Nat → VV)) : (Nat → VV) := f_M_both_178u r0 p1 p2 (u5 r141n p1 s178_0)
def f_M_both_141u (r0 : (Nat → VV)) (p1 : Nat) (p2 : Nat) (r141n : (Nat → VV)) : (Nat → VV) := (if ((r141n p2).2.2.2.2.1) < ((r141n p1).2.2.2.2.1) then f_M_both_178 r0 p1 p2 ((r141n p1).2.2.2.2.1) r141n else f_M_both_178 r0 p1 p2 ((r141n p2).2.2.2.2.1) r141n)
def f_M_both_120u (r0 : (Nat → VV)) (p1 : Nat) (p2 : Nat) (r120n : (Nat → VV)) : (Nat → VV) := f_M_both_141u r0 p1 p2 (u4 r120n p1 (f_M_lesser ((r120n p1).2.2.2.1) ((r120n p2).2.2.2.1)))
def f_M_both_99u (r0 : (Nat → VV)) (p1 : Nat) (p2 : Nat) (r99n : (Nat → VV)) : (Nat → VV) := f_M_both_120u r0 p1 p2 (u3 r99n p1 (f_M_larger ((r99n p1).2.2.1) ((r99n p2).2.2.1)))
def f_M_both_80u (r0 : (Nat → VV)) (p1 : Nat) (p2 : Nat) (r80n : (Nat → VV)) : (Nat → VV) := f_M_both_99u r0 p1 p2 (u2 r80n p1 (((r80n p1).2.1) &&& ((r80n p2).2.1)))
def f_M_both_61u (r0 : (Nat → VV)) (p1 : Nat) (p2 : Nat) (r61n : (Nat → VV)) : (Nat → VV) := f_M_both_80u r0 p1 p2 (u1 r61n p1 (((r61n p1).1) ||| ((r61n p2).1)))
def f_M_both_61 (r0 : (Nat → VV)) (p1 : Nat) (p2 : Nat) (s61_0 : Bool) : (Nat → VV) := f_M_both_61u r0 p1 p2 (u7 r0 p1 s61_0)
def f_M_both_56 (r0 : (Nat → VV)) (p1 : Nat) (p2 : Nat) : (Nat → VV) := f_M_both_61 r0 p1 p2 true
def f_M_both_21v (r0 : (Nat → VV)) (p1 : Nat) (p2 : Nat) (v21 : Int64) : (Nat → VV) := (if ((r0 p1).2.2.2.2.2.2) = true then f_M_both_56 r0 p1 p2 else (if ((((r0 p1).1) ^^^ ((r0 p2).1)) &&& v21) = 0 then f_M_both_61 r0 p1 p2 false else f_M_both_56 r0 p1 p2))
def f_M_both (r0 : (Nat → VV)) (p1 : Nat) (p2 : Nat) : (Nat → VV) := f_M_both_21v r0 p1 p2 ((((r0 p1).2.1) ^^^ (-1 : Int64)) &&& (((r0 p2).2.1) ^^^ (-1 : Int64)))
set_option maxRecDepth 100000 in
set_option maxHeartbeats 4000000 in
theorem c_M_both (l : Launch) (dC : Nat → ClassId) (dI : Nat → Nat → Nat) (ad : Nat → Nat) (cJ cZ : ClassId) (sz : Nat) (c0 : Int32) (r0 : (Nat → VV)) (w0 : (Nat → Int64)) (s0 : Int32) (p1 : Nat) (p2 : Nat) (b1 : p1 < 24) (b2 : p2 < 24) : Met l y_M_both w_M_both ({ frames := 2, cells := 0, slots := 0, locals := 46 } : Room) (va_Pc [.ref (ad 0), .int (nI p1), .int (nI p2)] (nP (dC, dI) (mT cJ cZ) (mW ad cJ cZ c0 r0 w0 s0) sz)) (va_Qv (fun _ : Unit => True) (mB (dC, dI) (va_A (mW ad cJ cZ c0 r0 w0 s0) sz) (mW ad cJ cZ c0 (f_M_both r0 p1 p2) w0 s0)) (va_A (mW ad cJ cZ c0 r0 w0 s0) sz)) 0 0 (va_A (mW ad cJ cZ c0 r0 w0 s0) sz) := by
  refine Met.ofW (cc := b_M_both) (maxL := 5) (ret := none) (by decide) rfl ?_
  intro p e s m args below meth c s₁ B hml hv
  obtain ⟨rfl, hsz, hP, hK, hD0⟩ := hv
  have hx := B.exec
  have hb := B.bytes
  have hr := B.returns
  have hts := atoms_spec (ws := w_M_both) B.pre
  have hG : ∀ w ∈ gM, w.before _ s = true := fun w h => hts w (List.mem_cons_of_mem _ h)
  have hown : s.vm.findClass R_M = some m.cls := findClass_of_methodNamed B.named
  have hlocks := B.notSynchronized
  subst hsz
  have hD := hD0.self (sz := s.heap.size)
  generalize hAe : va_A (mW ad cJ cZ c0 r0 w0 s0) s.heap.size = A at hD ⊢
  have hA : ∀ q : Nat, s.heap.size ≤ q → A q := fun q h => by rw [← hAe]; exact Or.inr h
  have hS : va_S A s.heap s.heap [] := va_S.rf
  have hl := lv_entry ([.ref (ad 0), .int (nI p1), .int (nI p2)]) (n := 5) (Nat.le_of_ble_eq_true rfl)
  rw [lg_entry_eq]
  generalize (lg_sl ([.ref (ad 0), .int (nI p1), .int (nI p2)]) ++ List.replicate (5 - (lg_sl ([.ref (ad 0), .int (nI p1), .int (nI p2)])).length) Slot.unset).toArray = ls at hl ⊢
  have hl : lv_has ls 5 [(0, .ref (ad 0)), (1, .int (nI p1)), (2, .int (nI p2))] := hl
  have K215u : ∀ (r215n : (Nat → VV)) (hj : f_M_both r0 p1 p2 = f_M_both_215u r0 p1 p2 r215n) (H : Heap) (locs : List Loc) (hP : va_P (dC, dI) classes (mW ad cJ cZ c0 r215n w0 s0) H) (hD : va_D A (mW ad cJ cZ c0 r215n w0 s0)) (hS : va_S A s.heap H locs) (ls : Array Slot) (hl : lv_has ls 5 []), W p l e (headSpec w_M_both ({ frames := 2, cells := 0, slots := 0, locals := 46 } : Room)).room s m ([.ref (ad 0), .int (nI p1), .int (nI p2)] : List Value).toArray below meth c H locs 0 0 (MQ below (va_Qv (fun _ : Unit => True) (mB (dC, dI) A (mW ad cJ cZ c0 (f_M_both r0 p1 p2) w0 s0)) A) ([.ref (ad 0), .int (nI p1), .int (nI p2)] : List Value).toArray s 0 0 A) (F0 m 216 ls []) := by
    intro r215n hj H locs hP hD hS ls hl
    have fe : f_M_both r0 p1 p2 = r215n := hj.trans rfl
    exact W.vret hx hb hr (fun t ht hW => ⟨⟨(), rfl, trivial, by rw [ht, fe]; exact hP, by rw [fe]; exact hD⟩, hS.F ht⟩) hS.2.2 d_M_both_216
  have K215 : ∀ (s215_0 : Int64) (r178n : (Nat → VV)) (hj : f_M_both r0 p1 p2 = f_M_both_215 r0 p1 p2 s215_0 r178n) (H : Heap) (locs : List Loc) (hP : va_P (dC, dI) classes (mW ad cJ cZ c0 r178n w0 s0) H) (hD : va_D A (mW ad cJ cZ c0 r178n w0 s0)) (hS : va_S A s.heap H locs) (ls : Array Slot) (hl : lv_has ls 5 []), W p l e (headSpec w_M_both ({ frames := 2, cells := 0, slots := 0, locals := 46 } : Room)).room s m ([.ref (ad 0), .int (nI p1), .int (nI p2)] : List Value).toArray below meth c H locs 0 0 (MQ below (va_Qv (fun _ : Unit => True) (mB (dC, dI) A (mW ad cJ cZ c0 (f_M_both r0 p1 p2) w0 s0)) A) ([.ref (ad 0), .int (nI p1), .int (nI p2)] : List Value).toArray s 0 0 A) (F0 m 215 ls [.long (s215_0), .int (nI p1), .ref (ad 6)]) := by
    intro s215_0 r178n hj H locs hP hD hS ls hl
    refine ms_6 (P := p1) (x := s215_0) hx hb hK hP hD hS rfl b1 d_M_both_215 (fun H locs hP hD hS => ?_)
    obtain ⟨r215n, er215n⟩ : ∃ z, z = u6 r178n p1 s215_0 := ⟨_, rfl⟩
    rw [← er215n] at hP hD
    refine K215u r215n (Eq.trans (hj.trans rfl) (congrArg (fun r215n => f_M_both_215u r0 p1 p2 r215n) er215n.symm)) H locs ?_ ?_ hS ls (lv_sub hl [] rfl)
    · with_reducible exact hP
    · with_reducible exact hD
  have K178u : ∀ (r178n : (Nat → VV)) (hj : f_M_both r0 p1 p2 = f_M_both_178u r0 p1 p2 r178n) (H : Heap) (locs : List Loc) (hP : va_P (dC, dI) classes (mW ad cJ cZ c0 r178n w0 s0) H) (hD : va_D A (mW ad cJ cZ c0 r178n w0 s0)) (hS : va_S A s.heap H locs) (ls : Array Slot) (hl : lv_has ls 5 [(0, .ref (ad 0)), (1, .int (nI p1)), (2, .int (nI p2))]), W p l e (headSpec w_M_both ({ frames := 2, cells := 0, slots := 0, locals := 46 } : Room)).room s m ([.ref (ad 0), .int (nI p1), .int (nI p2)] : List Value).toArray below meth c H locs 0 0 (MQ below (va_Qv (fun _ : Unit => True) (mB (dC, dI) A (mW ad cJ cZ c0 (f_M_both r0 p1 p2) w0 s0)) A) ([.ref (ad 0), .int (nI p1), .int (nI p2)] : List Value).toArray s 0 0 A) (F0 m 179 ls []) := by
    intro r178n hj H locs hP hD hS ls hl
    refine lv_aload_n hx hb d_M_both_179 rfl (lv_at hl 0 rfl) ?_
    refine va_get (D := (dC, dI)) (ci := 2) (v := .ref (ad 6)) (C := R_M) (T := F_M) (N := 10) hx hb hts (fun w h => List.mem_cons_of_mem _ (uw_M w h)) hown hK hP 0 rfl rfl 6 (by decide) (hG (.fieldLink R_M 25 "ValueSieveModel" "greatest" "[J") gx15) (fun _ h9 => h9) rfl d_M_both_180 ?_
    refine lv_iload_n hx hb d_M_both_183 rfl (lv_at hl 1 rfl) ?_
    refine lv_aload_n hx hb d_M_both_184 rfl (lv_at hl 0 rfl) ?_
    refine va_get (D := (dC, dI)) (ci := 2) (v := .ref (ad 6)) (C := R_M) (T := F_M) (N := 10) hx hb hts (fun w h => List.mem_cons_of_mem _ (uw_M w h)) hown hK hP 0 rfl rfl 6 (by decide) (hG (.fieldLink R_M 25 "ValueSieveModel" "greatest" "[J") gx15) (fun _ h9 => h9) rfl d_M_both_185 ?_
    refine lv_iload_n hx hb d_M_both_188 rfl (lv_at hl 1 rfl) ?_
    refine ml_6 (P := p1) hx hb hK hP rfl b1 d_M_both_189 ?_
    refine lv_aload_n hx hb d_M_both_190 rfl (lv_at hl 0 rfl) ?_
    refine va_get (D := (dC, dI)) (ci := 2) (v := .ref (ad 6)) (C := R_M) (T := F_M) (N := 10) hx hb hts (fun w h => List.mem_cons_of_mem _ (uw_M w h)) hown hK hP 0 rfl rfl 6 (by decide) (hG (.fieldLink R_M 25 "ValueSieveModel" "greatest" "[J") gx15) (fun _ h9 => h9) rfl d_M_both_191 ?_
    refine lv_iload_n hx hb d_M_both_194 rfl (lv_at hl 2 rfl) ?_
    refine ml_6 (P := p2) hx hb hK hP rfl b2 d_M_both_195 ?_
    refine wl_ge (tgt := 209) hx hb d_M_both_196 d_M_both_197 (by decide) (fun e1_209 => ?_) (fun e1_209 => ?_)
    · refine lv_aload_n hx hb d_M_both_209 rfl (lv_at hl 0 rfl) ?_
      refine va_get (D := (dC, dI)) (ci := 2) (v := .ref (ad 6)) (C := R_M) (T := F_M) (N := 10) hx hb hts (fun w h => List.mem_cons_of_mem _ (uw_M w h)) hown hK hP 0 rfl rfl 6 (by decide) (hG (.fieldLink R_M 25 "ValueSieveModel" "greatest" "[J") gx15) (fun _ h9 => h9) rfl d_M_both_210 ?_
      refine lv_iload_n hx hb d_M_both_213 rfl (lv_at hl 2 rfl) ?_
      refine ml_6 (P := p2) hx hb hK hP rfl b2 d_M_both_214 ?_
      refine K215 ((r178n p2).2.2.2.2.2.1) r178n (hj.trans (by unfold f_M_both_178u; first | with_reducible exact if_neg e1_209 | exact if_neg e1_209)) H locs ?_ ?_ hS ls (lv_sub hl [] rfl)
      · with_reducible exact hP
      · with_reducible exact hD
    · refine lv_aload_n hx hb d_M_both_200 rfl (lv_at hl 0 rfl) ?_
      refine va_get (D := (dC, dI)) (ci := 2) (v := .ref (ad 6)) (C := R_M) (T := F_M) (N := 10) hx hb hts (fun w h => List.mem_cons_of_mem _ (uw_M w h)) hown hK hP 0 rfl rfl 6 (by decide) (hG (.fieldLink R_M 25 "ValueSieveModel" "greatest" "[J") gx15) (fun _ h9 => h9) rfl d_M_both_201 ?_
      refine lv_iload_n hx hb d_M_both_204 rfl (lv_at hl 1 rfl) ?_
      refine ml_6 (P := p1) hx hb hK hP rfl b1 d_M_both_205 ?_
      refine lv_goto (tgt := 215) hx hb d_M_both_206 (by decide) ?_
      refine K215 ((r178n p1).2.2.2.2.2.1) r178n (hj.trans (by unfold f_M_both_178u; first | with_reducible exact if_pos e1_209 | exact if_pos e1_209)) H locs ?_ ?_ hS ls (lv_sub hl [] rfl)
      · with_reducible exact hP
      · with_reducible exact hD
  have K178 : ∀ (s178_0 : Int64) (r141n : (Nat → VV)) (hj : f_M_both r0 p1 p2 = f_M_both_178 r0 p1 p2 s178_0 r141n) (H : Heap) (locs : List Loc) (hP : va_P (dC, dI) classes (mW ad cJ cZ c0 r141n w0 s0) H) (hD : va_D A (mW ad cJ cZ c0 r141n w0 s0)) (hS : va_S A s.heap H locs) (ls : Array Slot) (hl : lv_has ls 5 [(0, .ref (ad 0)), (1, .int (nI p1)), (2, .int (nI p2))]), W p l e (headSpec w_M_both ({ frames := 2, cells := 0, slots := 0, locals := 46 } : Room)).room s m ([.ref (ad 0), .int (nI p1), .int (nI p2)] : List Value).toArray below meth c H locs 0 0 (MQ below (va_Qv (fun _ : Unit => True) (mB (dC, dI) A (mW ad cJ cZ c0 (f_M_both r0 p1 p2) w0 s0)) A) ([.ref (ad 0), .int (nI p1), .int (nI p2)] : List Value).toArray s 0 0 A) (F0 m 178 ls [.long (s178_0), .int (nI p1), .ref (ad 5)]) := by
    intro s178_0 r141n hj H locs hP hD hS ls hl
    refine ms_5 (P := p1) (x := s178_0) hx hb hK hP hD hS rfl b1 d_M_both_178 (fun H locs hP hD hS => ?_)
    obtain ⟨r178n, er178n⟩ : ∃ z, z = u5 r141n p1 s178_0 := ⟨_, rfl⟩
    rw [← er178n] at hP hD
    refine K178u r178n (Eq.trans (hj.trans rfl) (congrArg (fun r178n => f_M_both_178u r0 p1 p2 r178n) er178n.symm)) H locs ?_ ?_ hS ls (lv_sub hl [0, 1, 2] rfl)
    · with_reducible exact hP
    · with_reducible exact hD
  have K141u : ∀ (r141n : (Nat → VV)) (hj : f_M_both r0 p1 p2 = f_M_both_141u r0 p1 p2 r141n) (H : Heap) (locs : List Loc) (hP : va_P (dC, dI) classes (mW ad cJ cZ c0 r141n w0 s0) H) (hD : va_D A (mW ad cJ cZ c0 r141n w0 s0)) (hS : va_S A s.heap H locs) (ls : Array Slot) (hl : lv_has ls 5 [(0, .ref (ad 0)), (1, .int (nI p1)), (2, .int (nI p2))]), W p l e (headSpec w_M_both ({ frames := 2, cells := 0, slots := 0, locals := 46 } : Room)).room s m ([.ref (ad 0), .int (nI p1), .int (nI p2)] : List Value).toArray below meth c H locs 0 0 (MQ below (va_Qv (fun _ : Unit => True) (mB (dC, dI) A (mW ad cJ cZ c0 (f_M_both r0 p1 p2) w0 s0)) A) ([.ref (ad 0), .int (nI p1), .int (nI p2)] : List Value).toArray s 0 0 A) (F0 m 142 ls []) := by
    intro r141n hj H locs hP hD hS ls hl
    refine lv_aload_n hx hb d_M_both_142 rfl (lv_at hl 0 rfl) ?_
    refine va_get (D := (dC, dI)) (ci := 2) (v := .ref (ad 5)) (C := R_M) (T := F_M) (N := 10) hx hb hts (fun w h => List.mem_cons_of_mem _ (uw_M w h)) hown hK hP 0 rfl rfl 5 (by decide) (hG (.fieldLink R_M 22 "ValueSieveModel" "least" "[J") gx14) (fun _ h9 => h9) rfl d_M_both_143 ?_
    refine lv_iload_n hx hb d_M_both_146 rfl (lv_at hl 1 rfl) ?_
    refine lv_aload_n hx hb d_M_both_147 rfl (lv_at hl 0 rfl) ?_
    refine va_get (D := (dC, dI)) (ci := 2) (v := .ref (ad 5)) (C := R_M) (T := F_M) (N := 10) hx hb hts (fun w h => List.mem_cons_of_mem _ (uw_M w h)) hown hK hP 0 rfl rfl 5 (by decide) (hG (.fieldLink R_M 22 "ValueSieveModel" "least" "[J") gx14) (fun _ h9 => h9) rfl d_M_both_148 ?_
    refine lv_iload_n hx hb d_M_both_151 rfl (lv_at hl 1 rfl) ?_
    refine ml_5 (P := p1) hx hb hK hP rfl b1 d_M_both_152 ?_
    refine lv_aload_n hx hb d_M_both_153 rfl (lv_at hl 0 rfl) ?_
    refine va_get (D := (dC, dI)) (ci := 2) (v := .ref (ad 5)) (C := R_M) (T := F_M) (N := 10) hx hb hts (fun w h => List.mem_cons_of_mem _ (uw_M w h)) hown hK hP 0 rfl rfl 5 (by decide) (hG (.fieldLink R_M 22 "ValueSieveModel" "least" "[J") gx14) (fun _ h9 => h9) rfl d_M_both_154 ?_
    refine lv_iload_n hx hb d_M_both_157 rfl (lv_at hl 2 rfl) ?_
    refine ml_5 (P := p2) hx hb hK hP rfl b2 d_M_both_158 ?_
    refine wl_le (tgt := 172) hx hb d_M_both_159 d_M_both_160 (by decide) (fun e1_172 => ?_) (fun e1_172 => ?_)
    · refine lv_aload_n hx hb d_M_both_172 rfl (lv_at hl 0 rfl) ?_
      refine va_get (D := (dC, dI)) (ci := 2) (v := .ref (ad 5)) (C := R_M) (T := F_M) (N := 10) hx hb hts (fun w h => List.mem_cons_of_mem _ (uw_M w h)) hown hK hP 0 rfl rfl 5 (by decide) (hG (.fieldLink R_M 22 "ValueSieveModel" "least" "[J") gx14) (fun _ h9 => h9) rfl d_M_both_173 ?_
      refine lv_iload_n hx hb d_M_both_176 rfl (lv_at hl 2 rfl) ?_
      refine ml_5 (P := p2) hx hb hK hP rfl b2 d_M_both_177 ?_
      refine K178 ((r141n p2).2.2.2.2.1) r141n (hj.trans (by unfold f_M_both_141u; first | with_reducible exact if_neg e1_172 | exact if_neg e1_172)) H locs ?_ ?_ hS ls (lv_sub hl [0, 1, 2] rfl)
      · with_reducible exact hP
      · with_reducible exact hD
    · refine lv_aload_n hx hb d_M_both_163 rfl (lv_at hl 0 rfl) ?_
      refine va_get (D := (dC, dI)) (ci := 2) (v := .ref (ad 5)) (C := R_M) (T := F_M) (N := 10) hx hb hts (fun w h => List.mem_cons_of_mem _ (uw_M w h)) hown hK hP 0 rfl rfl 5 (by decide) (hG (.fieldLink R_M 22 "ValueSieveModel" "least" "[J") gx14) (fun _ h9 => h9) rfl d_M_both_164 ?_
      refine lv_iload_n hx hb d_M_both_167 rfl (lv_at hl 1 rfl) ?_
      refine ml_5 (P := p1) hx hb hK hP rfl b1 d_M_both_168 ?_
      refine lv_goto (tgt := 178) hx hb d_M_both_169 (by decide) ?_
      refine K178 ((r141n p1).2.2.2.2.1) r141n (hj.trans (by unfold f_M_both_141u; first | with_reducible exact if_pos e1_172 | exact if_pos e1_172)) H locs ?_ ?_ hS ls (lv_sub hl [0, 1, 2] rfl)
      · with_reducible exact hP
      · with_reducible exact hD
  have K120u : ∀ (r120n : (Nat → VV)) (hj : f_M_both r0 p1 p2 = f_M_both_120u r0 p1 p2 r120n) (H : Heap) (locs : List Loc) (hP : va_P (dC, dI) classes (mW ad cJ cZ c0 r120n w0 s0) H) (hD : va_D A (mW ad cJ cZ c0 r120n w0 s0)) (hS : va_S A s.heap H locs) (ls : Array Slot) (hl : lv_has ls 5 [(0, .ref (ad 0)), (1, .int (nI p1)), (2, .int (nI p2))]), W p l e (headSpec w_M_both ({ frames := 2, cells := 0, slots := 0, locals := 46 } : Room)).room s m ([.ref (ad 0), .int (nI p1), .int (nI p2)] : List Value).toArray below meth c H locs 0 0 (MQ below (va_Qv (fun _ : Unit => True) (mB (dC, dI) A (mW ad cJ cZ c0 (f_M_both r0 p1 p2) w0 s0)) A) ([.ref (ad 0), .int (nI p1), .int (nI p2)] : List Value).toArray s 0 0 A) (F0 m 121 ls []) := by
    intro r120n hj H locs hP hD hS ls hl
    refine lv_aload_n hx hb d_M_both_121 rfl (lv_at hl 0 rfl) ?_
    refine va_get (D := (dC, dI)) (ci := 2) (v := .ref (ad 4)) (C := R_M) (T := F_M) (N := 10) hx hb hts (fun w h => List.mem_cons_of_mem _ (uw_M w h)) hown hK hP 0 rfl rfl 4 (by decide) (hG (.fieldLink R_M 19 "ValueSieveModel" "high" "[J") gx13) (fun _ h9 => h9) rfl d_M_both_122 ?_
    refine lv_iload_n hx hb d_M_both_125 rfl (lv_at hl 1 rfl) ?_
    refine lv_aload_n hx hb d_M_both_126 rfl (lv_at hl 0 rfl) ?_
    refine va_get (D := (dC, dI)) (ci := 2) (v := .ref (ad 4)) (C := R_M) (T := F_M) (N := 10) hx hb hts (fun w h => List.mem_cons_of_mem _ (uw_M w h)) hown hK hP 0 rfl rfl 4 (by decide) (hG (.fieldLink R_M 19 "ValueSieveModel" "high" "[J") gx13) (fun _ h9 => h9) rfl d_M_both_127 ?_
    refine lv_iload_n hx hb d_M_both_130 rfl (lv_at hl 1 rfl) ?_
    refine ml_4 (P := p1) hx hb hK hP rfl b1 d_M_both_131 ?_
    refine lv_aload_n hx hb d_M_both_132 rfl (lv_at hl 0 rfl) ?_
    refine va_get (D := (dC, dI)) (ci := 2) (v := .ref (ad 4)) (C := R_M) (T := F_M) (N := 10) hx hb hts (fun w h => List.mem_cons_of_mem _ (uw_M w h)) hown hK hP 0 rfl rfl 4 (by decide) (hG (.fieldLink R_M 19 "ValueSieveModel" "high" "[J") gx13) (fun _ h9 => h9) rfl d_M_both_133 ?_
    refine lv_iload_n hx hb d_M_both_136 rfl (lv_at hl 2 rfl) ?_
    refine ml_4 (P := p2) hx hb hK hP rfl b2 d_M_both_137 ?_
    refine rc_l (W.runS (As := [.long ((r120n p1).2.2.2.1), .long ((r120n p2).2.2.2.1)]) (rest := [.int (nI p1), .ref (ad 4)]) ⟨hx, hb, hml, hown, hts⟩ (c_M_lesser l ((r120n p1).2.2.2.1) ((r120n p2).2.2.2.1)) (va_cwS 2 hts (gxS gx84 gx85 gx0 gx86) rfl rfl rfl (by decide +kernel) ⟨(Nat.le_of_ble_eq_true rfl), (Nat.le_of_ble_eq_true rfl)⟩) ⟨bl0, fun U hU hW => ⟨rfl, trivial⟩⟩ rfl rfl hl.1 rfl (lv_room (Nat.le_of_ble_eq_true rfl)) d_M_both_138 ⟨Nat.zero_le _, Nat.zero_le _⟩) ?_
    refine ms_4 (P := p1) (x := f_M_lesser ((r120n p1).2.2.2.1) ((r120n p2).2.2.2.1)) hx hb hK hP hD hS rfl b1 d_M_both_141 (fun H locs hP hD hS => ?_)
    obtain ⟨r141n, er141n⟩ : ∃ z, z = u4 r120n p1 (f_M_lesser ((r120n p1).2.2.2.1) ((r120n p2).2.2.2.1)) := ⟨_, rfl⟩
    rw [← er141n] at hP hD
    refine K141u r141n (Eq.trans (hj.trans rfl) (congrArg (fun r141n => f_M_both_141u r0 p1 p2 r141n) er141n.symm)) H locs ?_ ?_ hS ls (lv_sub hl [0, 1, 2] rfl)
    · with_reducible exact hP
    · with_reducible exact hD
  have K99u : ∀ (r99n : (Nat → VV)) (hj : f_M_both r0 p1 p2 = f_M_both_99u r0 p1 p2 r99n) (H : Heap) (locs : List Loc) (hP : va_P (dC, dI) classes (mW ad cJ cZ c0 r99n w0 s0) H) (hD : va_D A (mW ad cJ cZ c0 r99n w0 s0)) (hS : va_S A s.heap H locs) (ls : Array Slot) (hl : lv_has ls 5 [(0, .ref (ad 0)), (1, .int (nI p1)), (2, .int (nI p2))]), W p l e (headSpec w_M_both ({ frames := 2, cells := 0, slots := 0, locals := 46 } : Room)).room s m ([.ref (ad 0), .int (nI p1), .int (nI p2)] : List Value).toArray below meth c H locs 0 0 (MQ below (va_Qv (fun _ : Unit => True) (mB (dC, dI) A (mW ad cJ cZ c0 (f_M_both r0 p1 p2) w0 s0)) A) ([.ref (ad 0), .int (nI p1), .int (nI p2)] : List Value).toArray s 0 0 A) (F0 m 100 ls []) := by
    intro r99n hj H locs hP hD hS ls hl
    refine lv_aload_n hx hb d_M_both_100 rfl (lv_at hl 0 rfl) ?_
    refine va_get (D := (dC, dI)) (ci := 2) (v := .ref (ad 3)) (C := R_M) (T := F_M) (N := 10) hx hb hts (fun w h => List.mem_cons_of_mem _ (uw_M w h)) hown hK hP 0 rfl rfl 3 (by decide) (hG (.fieldLink R_M 16 "ValueSieveModel" "low" "[J") gx12) (fun _ h9 => h9) rfl d_M_both_101 ?_
    refine lv_iload_n hx hb d_M_both_104 rfl (lv_at hl 1 rfl) ?_
    refine lv_aload_n hx hb d_M_both_105 rfl (lv_at hl 0 rfl) ?_
    refine va_get (D := (dC, dI)) (ci := 2) (v := .ref (ad 3)) (C := R_M) (T := F_M) (N := 10) hx hb hts (fun w h => List.mem_cons_of_mem _ (uw_M w h)) hown hK hP 0 rfl rfl 3 (by decide) (hG (.fieldLink R_M 16 "ValueSieveModel" "low" "[J") gx12) (fun _ h9 => h9) rfl d_M_both_106 ?_
    refine lv_iload_n hx hb d_M_both_109 rfl (lv_at hl 1 rfl) ?_
    refine ml_3 (P := p1) hx hb hK hP rfl b1 d_M_both_110 ?_
    refine lv_aload_n hx hb d_M_both_111 rfl (lv_at hl 0 rfl) ?_
    refine va_get (D := (dC, dI)) (ci := 2) (v := .ref (ad 3)) (C := R_M) (T := F_M) (N := 10) hx hb hts (fun w h => List.mem_cons_of_mem _ (uw_M w h)) hown hK hP 0 rfl rfl 3 (by decide) (hG (.fieldLink R_M 16 "ValueSieveModel" "low" "[J") gx12) (fun _ h9 => h9) rfl d_M_both_112 ?_
    refine lv_iload_n hx hb d_M_both_115 rfl (lv_at hl 2 rfl) ?_
    refine ml_3 (P := p2) hx hb hK hP rfl b2 d_M_both_116 ?_
    refine rc_l (W.runS (As := [.long ((r99n p1).2.2.1), .long ((r99n p2).2.2.1)]) (rest := [.int (nI p1), .ref (ad 3)]) ⟨hx, hb, hml, hown, hts⟩ (c_M_larger l ((r99n p1).2.2.1) ((r99n p2).2.2.1)) (va_cwS 2 hts (gxS gx81 gx82 gx0 gx83) rfl rfl rfl (by decide +kernel) ⟨(Nat.le_of_ble_eq_true rfl), (Nat.le_of_ble_eq_true rfl)⟩) ⟨bl0, fun U hU hW => ⟨rfl, trivial⟩⟩ rfl rfl hl.1 rfl (lv_room (Nat.le_of_ble_eq_true rfl)) d_M_both_117 ⟨Nat.zero_le _, Nat.zero_le _⟩) ?_
    refine ms_3 (P := p1) (x := f_M_larger ((r99n p1).2.2.1) ((r99n p2).2.2.1)) hx hb hK hP hD hS rfl b1 d_M_both_120 (fun H locs hP hD hS => ?_)
    obtain ⟨r120n, er120n⟩ : ∃ z, z = u3 r99n p1 (f_M_larger ((r99n p1).2.2.1) ((r99n p2).2.2.1)) := ⟨_, rfl⟩
    rw [← er120n] at hP hD
    refine K120u r120n (Eq.trans (hj.trans rfl) (congrArg (fun r120n => f_M_both_120u r0 p1 p2 r120n) er120n.symm)) H locs ?_ ?_ hS ls (lv_sub hl [0, 1, 2] rfl)
    · with_reducible exact hP
    · with_reducible exact hD
  have K80u : ∀ (r80n : (Nat → VV)) (hj : f_M_both r0 p1 p2 = f_M_both_80u r0 p1 p2 r80n) (H : Heap) (locs : List Loc) (hP : va_P (dC, dI) classes (mW ad cJ cZ c0 r80n w0 s0) H) (hD : va_D A (mW ad cJ cZ c0 r80n w0 s0)) (hS : va_S A s.heap H locs) (ls : Array Slot) (hl : lv_has ls 5 [(0, .ref (ad 0)), (1, .int (nI p1)), (2, .int (nI p2))]), W p l e (headSpec w_M_both ({ frames := 2, cells := 0, slots := 0, locals := 46 } : Room)).room s m ([.ref (ad 0), .int (nI p1), .int (nI p2)] : List Value).toArray below meth c H locs 0 0 (MQ below (va_Qv (fun _ : Unit => True) (mB (dC, dI) A (mW ad cJ cZ c0 (f_M_both r0 p1 p2) w0 s0)) A) ([.ref (ad 0), .int (nI p1), .int (nI p2)] : List Value).toArray s 0 0 A) (F0 m 81 ls []) := by
    intro r80n hj H locs hP hD hS ls hl
    refine lv_aload_n hx hb d_M_both_81 rfl (lv_at hl 0 rfl) ?_
    refine va_get (D := (dC, dI)) (ci := 2) (v := .ref (ad 2)) (C := R_M) (T := F_M) (N := 10) hx hb hts (fun w h => List.mem_cons_of_mem _ (uw_M w h)) hown hK hP 0 rfl rfl 2 (by decide) (hG (.fieldLink R_M 13 "ValueSieveModel" "open" "[J") gx11) (fun _ h9 => h9) rfl d_M_both_82 ?_
    refine lv_iload_n hx hb d_M_both_85 rfl (lv_at hl 1 rfl) ?_
    refine lv_aload_n hx hb d_M_both_86 rfl (lv_at hl 0 rfl) ?_
    refine va_get (D := (dC, dI)) (ci := 2) (v := .ref (ad 2)) (C := R_M) (T := F_M) (N := 10) hx hb hts (fun w h => List.mem_cons_of_mem _ (uw_M w h)) hown hK hP 0 rfl rfl 2 (by decide) (hG (.fieldLink R_M 13 "ValueSieveModel" "open" "[J") gx11) (fun _ h9 => h9) rfl d_M_both_87 ?_
    refine lv_iload_n hx hb d_M_both_90 rfl (lv_at hl 1 rfl) ?_
    refine ml_2 (P := p1) hx hb hK hP rfl b1 d_M_both_91 ?_
    refine lv_aload_n hx hb d_M_both_92 rfl (lv_at hl 0 rfl) ?_
    refine va_get (D := (dC, dI)) (ci := 2) (v := .ref (ad 2)) (C := R_M) (T := F_M) (N := 10) hx hb hts (fun w h => List.mem_cons_of_mem _ (uw_M w h)) hown hK hP 0 rfl rfl 2 (by decide) (hG (.fieldLink R_M 13 "ValueSieveModel" "open" "[J") gx11) (fun _ h9 => h9) rfl d_M_both_93 ?_
    refine lv_iload_n hx hb d_M_both_96 rfl (lv_at hl 2 rfl) ?_
    refine ml_2 (P := p2) hx hb hK hP rfl b2 d_M_both_97 ?_
    refine lv_land hx hb d_M_both_98 ?_
    refine ms_2 (P := p1) (x := ((r80n p1).2.1) &&& ((r80n p2).2.1)) hx hb hK hP hD hS rfl b1 d_M_both_99 (fun H locs hP hD hS => ?_)
    obtain ⟨r99n, er99n⟩ : ∃ z, z = u2 r80n p1 (((r80n p1).2.1) &&& ((r80n p2).2.1)) := ⟨_, rfl⟩
    rw [← er99n] at hP hD
    refine K99u r99n (Eq.trans (hj.trans rfl) (congrArg (fun r99n => f_M_both_99u r0 p1 p2 r99n) er99n.symm)) H locs ?_ ?_ hS ls (lv_sub hl [0, 1, 2] rfl)
    · with_reducible exact hP
    · with_reducible exact hD
  have K61u : ∀ (r61n : (Nat → VV)) (hj : f_M_both r0 p1 p2 = f_M_both_61u r0 p1 p2 r61n) (H : Heap) (locs : List Loc) (hP : va_P (dC, dI) classes (mW ad cJ cZ c0 r61n w0 s0) H) (hD : va_D A (mW ad cJ cZ c0 r61n w0 s0)) (hS : va_S A s.heap H locs) (ls : Array Slot) (hl : lv_has ls 5 [(0, .ref (ad 0)), (1, .int (nI p1)), (2, .int (nI p2))]), W p l e (headSpec w_M_both ({ frames := 2, cells := 0, slots := 0, locals := 46 } : Room)).room s m ([.ref (ad 0), .int (nI p1), .int (nI p2)] : List Value).toArray below meth c H locs 0 0 (MQ below (va_Qv (fun _ : Unit => True) (mB (dC, dI) A (mW ad cJ cZ c0 (f_M_both r0 p1 p2) w0 s0)) A) ([.ref (ad 0), .int (nI p1), .int (nI p2)] : List Value).toArray s 0 0 A) (F0 m 62 ls []) := by
    intro r61n hj H locs hP hD hS ls hl
    refine lv_aload_n hx hb d_M_both_62 rfl (lv_at hl 0 rfl) ?_
    refine va_get (D := (dC, dI)) (ci := 2) (v := .ref (ad 1)) (C := R_M) (T := F_M) (N := 10) hx hb hts (fun w h => List.mem_cons_of_mem _ (uw_M w h)) hown hK hP 0 rfl rfl 1 (by decide) (hG (.fieldLink R_M 7 "ValueSieveModel" "bits" "[J") gx10) (fun _ h9 => h9) rfl d_M_both_63 ?_
    refine lv_iload_n hx hb d_M_both_66 rfl (lv_at hl 1 rfl) ?_
    refine lv_aload_n hx hb d_M_both_67 rfl (lv_at hl 0 rfl) ?_
    refine va_get (D := (dC, dI)) (ci := 2) (v := .ref (ad 1)) (C := R_M) (T := F_M) (N := 10) hx hb hts (fun w h => List.mem_cons_of_mem _ (uw_M w h)) hown hK hP 0 rfl rfl 1 (by decide) (hG (.fieldLink R_M 7 "ValueSieveModel" "bits" "[J") gx10) (fun _ h9 => h9) rfl d_M_both_68 ?_
    refine lv_iload_n hx hb d_M_both_71 rfl (lv_at hl 1 rfl) ?_
    refine ml_1 (P := p1) hx hb hK hP rfl b1 d_M_both_72 ?_
    refine lv_aload_n hx hb d_M_both_73 rfl (lv_at hl 0 rfl) ?_
    refine va_get (D := (dC, dI)) (ci := 2) (v := .ref (ad 1)) (C := R_M) (T := F_M) (N := 10) hx hb hts (fun w h => List.mem_cons_of_mem _ (uw_M w h)) hown hK hP 0 rfl rfl 1 (by decide) (hG (.fieldLink R_M 7 "ValueSieveModel" "bits" "[J") gx10) (fun _ h9 => h9) rfl d_M_both_74 ?_
    refine lv_iload_n hx hb d_M_both_77 rfl (lv_at hl 2 rfl) ?_
    refine ml_1 (P := p2) hx hb hK hP rfl b2 d_M_both_78 ?_
    refine lv_lor hx hb d_M_both_79 ?_
    refine ms_1 (P := p1) (x := ((r61n p1).1) ||| ((r61n p2).1)) hx hb hK hP hD hS rfl b1 d_M_both_80 (fun H locs hP hD hS => ?_)
    obtain ⟨r80n, er80n⟩ : ∃ z, z = u1 r61n p1 (((r61n p1).1) ||| ((r61n p2).1)) := ⟨_, rfl⟩
    rw [← er80n] at hP hD
    refine K80u r80n (Eq.trans (hj.trans rfl) (congrArg (fun r80n => f_M_both_80u r0 p1 p2 r80n) er80n.symm)) H locs ?_ ?_ hS ls (lv_sub hl [0, 1, 2] rfl)
    · with_reducible exact hP
    · with_reducible exact hD
  have K61 : ∀ (s61_0 : Bool) (hj : f_M_both r0 p1 p2 = f_M_both_61 r0 p1 p2 s61_0) (H : Heap) (locs : List Loc) (hP : va_P (dC, dI) classes (mW ad cJ cZ c0 r0 w0 s0) H) (hD : va_D A (mW ad cJ cZ c0 r0 w0 s0)) (hS : va_S A s.heap H locs) (ls : Array Slot) (hl : lv_has ls 5 [(0, .ref (ad 0)), (1, .int (nI p1)), (2, .int (nI p2))]), W p l e (headSpec w_M_both ({ frames := 2, cells := 0, slots := 0, locals := 46 } : Room)).room s m ([.ref (ad 0), .int (nI p1), .int (nI p2)] : List Value).toArray below meth c H locs 0 0 (MQ below (va_Qv (fun _ : Unit => True) (mB (dC, dI) A (mW ad cJ cZ c0 (f_M_both r0 p1 p2) w0 s0)) A) ([.ref (ad 0), .int (nI p1), .int (nI p2)] : List Value).toArray s 0 0 A) (F0 m 61 ls [.int (bI s61_0), .int (nI p1), .ref (ad 7)]) := by
    intro s61_0 hj H locs hP hD hS ls hl
    refine ms_7 (P := p1) (x := s61_0) hx hb hK hP hD hS rfl b1 d_M_both_61 (fun H locs hP hD hS => ?_)
    obtain ⟨r61n, er61n⟩ : ∃ z, z = u7 r0 p1 s61_0 := ⟨_, rfl⟩
    rw [← er61n] at hP hD
    refine K61u r61n (Eq.trans (hj.trans rfl) (congrArg (fun r61n => f_M_both_61u r0 p1 p2 r61n) er61n.symm)) H locs ?_ ?_ hS ls (lv_sub hl [0, 1, 2] rfl)
    · with_reducible exact hP
    · with_reducible exact hD
  have K56 : ∀ (hj : f_M_both r0 p1 p2 = f_M_both_56 r0 p1 p2) (H : Heap) (locs : List Loc) (hP : va_P (dC, dI) classes (mW ad cJ cZ c0 r0 w0 s0) H) (hD : va_D A (mW ad cJ cZ c0 r0 w0 s0)) (hS : va_S A s.heap H locs) (ls : Array Slot) (hl : lv_has ls 5 [(0, .ref (ad 0)), (1, .int (nI p1)), (2, .int (nI p2))]), W p l e (headSpec w_M_both ({ frames := 2, cells := 0, slots := 0, locals := 46 } : Room)).room s m ([.ref (ad 0), .int (nI p1), .int (nI p2)] : List Value).toArray below meth c H locs 0 0 (MQ below (va_Qv (fun _ : Unit => True) (mB (dC, dI) A (mW ad cJ cZ c0 (f_M_both r0 p1 p2) w0 s0)) A) ([.ref (ad 0), .int (nI p1), .int (nI p2)] : List Value).toArray s 0 0 A) (F0 m 56 ls [.int (nI p1), .ref (ad 7)]) := by
    intro hj H locs hP hD hS ls hl
    refine lv_iconst (v := 1) hx hb d_M_both_56 (by decide) ?_
    refine lv_goto (tgt := 61) hx hb d_M_both_57 (by decide) ?_
    refine K61 true (hj.trans rfl) H locs ?_ ?_ hS ls (lv_sub hl [0, 1, 2] rfl)
    · with_reducible exact hP
    · with_reducible exact hD
  have K21v : ∀ (v21 : Int64) (hj : f_M_both r0 p1 p2 = f_M_both_21v r0 p1 p2 v21) (H : Heap) (locs : List Loc) (hP : va_P (dC, dI) classes (mW ad cJ cZ c0 r0 w0 s0) H) (hD : va_D A (mW ad cJ cZ c0 r0 w0 s0)) (hS : va_S A s.heap H locs) (ls : Array Slot) (hl : lv_has ls 5 [(3, .long (v21)), (0, .ref (ad 0)), (1, .int (nI p1)), (2, .int (nI p2))]), W p l e (headSpec w_M_both ({ frames := 2, cells := 0, slots := 0, locals := 46 } : Room)).room s m ([.ref (ad 0), .int (nI p1), .int (nI p2)] : List Value).toArray below meth c H locs 0 0 (MQ below (va_Qv (fun _ : Unit => True) (mB (dC, dI) A (mW ad cJ cZ c0 (f_M_both r0 p1 p2) w0 s0)) A) ([.ref (ad 0), .int (nI p1), .int (nI p2)] : List Value).toArray s 0 0 A) (F0 m 22 ls []) := by
    intro v21 hj H locs hP hD hS ls hl
    refine lv_aload_n hx hb d_M_both_22 rfl (lv_at hl 1 rfl) ?_
    refine va_get (D := (dC, dI)) (ci := 2) (v := .ref (ad 7)) (C := R_M) (T := F_M) (N := 10) hx hb hts (fun w h => List.mem_cons_of_mem _ (uw_M w h)) hown hK hP 0 rfl rfl 7 (by decide) (hG (.fieldLink R_M 28 "ValueSieveModel" "empty" "[Z") gx16) (fun _ h9 => h9) rfl d_M_both_23 ?_
    refine lv_iload_n hx hb d_M_both_26 rfl (lv_at hl 2 rfl) ?_
    refine lv_aload_n hx hb d_M_both_27 rfl (lv_at hl 1 rfl) ?_
    refine va_get (D := (dC, dI)) (ci := 2) (v := .ref (ad 7)) (C := R_M) (T := F_M) (N := 10) hx hb hts (fun w h => List.mem_cons_of_mem _ (uw_M w h)) hown hK hP 0 rfl rfl 7 (by decide) (hG (.fieldLink R_M 28 "ValueSieveModel" "empty" "[Z") gx16) (fun _ h9 => h9) rfl d_M_both_28 ?_
    refine lv_iload_n hx hb d_M_both_31 rfl (lv_at hl 2 rfl) ?_
    refine ml_7 (P := p1) hx hb hK hP rfl b1 d_M_both_32 ?_
    refine wz_ne (tgt := 56) hx hb d_M_both_33 (by decide) (fun e1_56 => ?_) (fun e1_56 => ?_)
    · refine K56 (hj.trans (by unfold f_M_both_21v; first | with_reducible exact if_pos e1_56 | exact if_pos e1_56)) H locs ?_ ?_ hS ls (lv_sub hl [1, 2, 3] rfl)
      · with_reducible exact hP
      · with_reducible exact hD
    · refine lv_aload_n hx hb d_M_both_36 rfl (lv_at hl 1 rfl) ?_
      refine va_get (D := (dC, dI)) (ci := 2) (v := .ref (ad 1)) (C := R_M) (T := F_M) (N := 10) hx hb hts (fun w h => List.mem_cons_of_mem _ (uw_M w h)) hown hK hP 0 rfl rfl 1 (by decide) (hG (.fieldLink R_M 7 "ValueSieveModel" "bits" "[J") gx10) (fun _ h9 => h9) rfl d_M_both_37 ?_
      refine lv_iload_n hx hb d_M_both_40 rfl (lv_at hl 2 rfl) ?_
      refine ml_1 (P := p1) hx hb hK hP rfl b1 d_M_both_41 ?_
      refine lv_aload_n hx hb d_M_both_42 rfl (lv_at hl 1 rfl) ?_
      refine va_get (D := (dC, dI)) (ci := 2) (v := .ref (ad 1)) (C := R_M) (T := F_M) (N := 10) hx hb hts (fun w h => List.mem_cons_of_mem _ (uw_M w h)) hown hK hP 0 rfl rfl 1 (by decide) (hG (.fieldLink R_M 7 "ValueSieveModel" "bits" "[J") gx10) (fun _ h9 => h9) rfl d_M_both_43 ?_
      refine lv_iload_n hx hb d_M_both_46 rfl (lv_at hl 3 rfl) ?_
      refine ml_1 (P := p2) hx hb hK hP rfl b2 d_M_both_47 ?_
      refine lv_lxor hx hb d_M_both_48 ?_
      refine lv_lload_n hx hb d_M_both_49 rfl (lv_at hl 0 rfl) ?_
      refine lv_land hx hb d_M_both_50 ?_
      refine lv_lconst (v := 0) hx hb d_M_both_51 (by decide) ?_
      refine wl_eq (tgt := 60) hx hb d_M_both_52 d_M_both_53 (by decide) (fun e2_60 => ?_) (fun e2_60 => ?_)
      · refine lv_iconst (v := 0) hx hb d_M_both_60 (by decide) ?_
        refine K61 false (hj.trans (by unfold f_M_both_21v; first | with_reducible exact (if_neg e1_56).trans (if_pos e2_60) | exact (if_neg e1_56).trans (if_pos e2_60))) H locs ?_ ?_ hS ls (lv_sub hl [1, 2, 3] rfl)
        · with_reducible exact hP
        · with_reducible exact hD
      · refine K56 (hj.trans (by unfold f_M_both_21v; first | with_reducible exact (if_neg e1_56).trans (if_neg e2_60) | exact (if_neg e1_56).trans (if_neg e2_60))) H locs ?_ ?_ hS ls (lv_sub hl [1, 2, 3] rfl)
        · with_reducible exact hP
        · with_reducible exact hD
  refine lv_aload_n hx hb d_M_both_0 rfl (lv_at hl 0 rfl) ?_
  refine va_get (D := (dC, dI)) (ci := 2) (v := .ref (ad 2)) (C := R_M) (T := F_M) (N := 10) hx hb hts (fun w h => List.mem_cons_of_mem _ (uw_M w h)) hown hK hP 0 rfl rfl 2 (by decide) (hG (.fieldLink R_M 13 "ValueSieveModel" "open" "[J") gx11) (fun _ h9 => h9) rfl d_M_both_1 ?_
  refine lv_iload_n hx hb d_M_both_4 rfl (lv_at hl 1 rfl) ?_
  refine ml_2 (P := p1) hx hb hK hP rfl b1 d_M_both_5 ?_
  refine lv_ldc2 (v := -1) hx hb hown (hG (.constantLong R_M 49 (-1)) gx42) d_M_both_6 ?_
  refine lv_lxor hx hb d_M_both_9 ?_
  refine lv_aload_n hx hb d_M_both_10 rfl (lv_at hl 0 rfl) ?_
  refine va_get (D := (dC, dI)) (ci := 2) (v := .ref (ad 2)) (C := R_M) (T := F_M) (N := 10) hx hb hts (fun w h => List.mem_cons_of_mem _ (uw_M w h)) hown hK hP 0 rfl rfl 2 (by decide) (hG (.fieldLink R_M 13 "ValueSieveModel" "open" "[J") gx11) (fun _ h9 => h9) rfl d_M_both_11 ?_
  refine lv_iload_n hx hb d_M_both_14 rfl (lv_at hl 2 rfl) ?_
  refine ml_2 (P := p2) hx hb hK hP rfl b2 d_M_both_15 ?_
  refine lv_ldc2 (v := -1) hx hb hown (hG (.constantLong R_M 49 (-1)) gx42) d_M_both_16 ?_
  refine lv_lxor hx hb d_M_both_19 ?_
  refine lv_land hx hb d_M_both_20 ?_
  refine lv_topl (fun v21 ev21 => ?_)
  refine lv_lstore_n (lv' := [(3, .long (v21)), (0, .ref (ad 0)), (1, .int (nI p1)), (2, .int (nI p2))]) hx hb d_M_both_21 rfl hl (by decide) rfl (fun ls hl => ?_)
  refine K21v v21 (Eq.trans (rfl) (congrArg (fun v21 => f_M_both_21v r0 p1 p2 v21) ev21.symm)) s.heap [] ?_ ?_ hS ls (lv_sub hl [0, 1, 2, 3] rfl)
  · with_reducible exact hP
  · with_reducible exact hD
-- lose
theorem d_M_lose_0 : decode b_M_lose 0 = .ok (.iload_n 2, 1) := by decide +kernel
theorem d_M_lose_1 : decode b_M_lose 1 = .ok (.ifCond .ne 4, 3) := by decide +kernel
theorem d_M_lose_4 : decode b_M_lose 4 = .ok (.return_, 1) := by decide +kernel
theorem d_M_lose_5 : decode b_M_lose 5 = .ok (.aload_n 0, 1) := by decide +kernel
theorem d_M_lose_6 : decode b_M_lose 6 = .ok (.iload_n 1, 1) := by decide +kernel
theorem d_M_lose_7 : decode b_M_lose 7 = .ok (.invokevirtual 159, 3) := by decide +kernel
theorem d_M_lose_10 : decode b_M_lose 10 = .ok (.ifCond .eq 22, 3) := by decide +kernel
theorem d_M_lose_13 : decode b_M_lose 13 = .ok (.aload_n 0, 1) := by decide +kernel
theorem d_M_lose_14 : decode b_M_lose 14 = .ok (.getfield 16, 3) := by decide +kernel
theorem d_M_lose_17 : decode b_M_lose 17 = .ok (.iload_n 1, 1) := by decide +kernel
theorem d_M_lose_18 : decode b_M_lose 18 = .ok (.laload, 1) := by decide +kernel
theorem d_M_lose_19 : decode b_M_lose 19 = .ok (.lload_n 3, 1) := by decide +kernel
theorem d_M_lose_20 : decode b_M_lose 20 = .ok (.lcmp, 1) := by decide +kernel
theorem d_M_lose_21 : decode b_M_lose 21 = .ok (.ifCond .ne 11, 3) := by decide +kernel
theorem d_M_lose_24 : decode b_M_lose 24 = .ok (.aload_n 0, 1) := by decide +kernel
theorem d_M_lose_25 : decode b_M_lose 25 = .ok (.getfield 28, 3) := by decide +kernel
theorem d_M_lose_28 : decode b_M_lose 28 = .ok (.iload_n 1, 1) := by decide +kernel
theorem d_M_lose_29 : decode b_M_lose 29 = .ok (.iconst 1, 1) := by decide +kernel
theorem d_M_lose_30 : decode b_M_lose 30 = .ok (.bastore, 1) := by decide +kernel
theorem d_M_lose_31 : decode b_M_lose 31 = .ok (.return_, 1) := by decide +kernel
theorem d_M_lose_32 : decode b_M_lose 32 = .ok (.aload_n 0, 1) := by decide +kernel
theorem d_M_lose_33 : decode b_M_lose 33 = .ok (.getfield 16, 3) := by decide +kernel
theorem d_M_lose_36 : decode b_M_lose 36 = .ok (.iload_n 1, 1) := by decide +kernel
theorem d_M_lose_37 : decode b_M_lose 37 = .ok (.aload_n 0, 1) := by decide +kernel
theorem d_M_lose_38 : decode b_M_lose 38 = .ok (.getfield 16, 3) := by decide +kernel
theorem d_M_lose_41 : decode b_M_lose 41 = .ok (.iload_n 1, 1) := by decide +kernel
theorem d_M_lose_42 : decode b_M_lose 42 = .ok (.laload, 1) := by decide +kernel
theorem d_M_lose_43 : decode b_M_lose 43 = .ok (.lload_n 3, 1) := by decide +kernel
theorem d_M_lose_44 : decode b_M_lose 44 = .ok (.lcmp, 1) := by decide +kernel
theorem d_M_lose_45 : decode b_M_lose 45 = .ok (.ifCond .ne 9, 3) := by decide +kernel
theorem d_M_lose_48 : decode b_M_lose 48 = .ok (.lload_n 3, 1) := by decide +kernel
theorem d_M_lose_49 : decode b_M_lose 49 = .ok (.lconst 1, 1) := by decide +kernel
theorem d_M_lose_50 : decode b_M_lose 50 = .ok (.ladd, 1) := by decide +kernel
theorem d_M_lose_51 : decode b_M_lose 51 = .ok (.goto 9, 3) := by decide +kernel
theorem d_M_lose_54 : decode b_M_lose 54 = .ok (.aload_n 0, 1) := by decide +kernel
theorem d_M_lose_55 : decode b_M_lose 55 = .ok (.getfield 16, 3) := by decide +kernel
theorem d_M_lose_58 : decode b_M_lose 58 = .ok (.iload_n 1, 1) := by decide +kernel
theorem d_M_lose_59 : decode b_M_lose 59 = .ok (.laload, 1) := by decide +kernel
theorem d_M_lose_60 : decode b_M_lose 60 = .ok (.lastore, 1) := by decide +kernel
theorem d_M_lose_61 : decode b_M_lose 61 = .ok (.aload_n 0, 1) := by decide +kernel
theorem d_M_lose_62 : decode b_M_lose 62 = .ok (.getfield 19, 3) := by decide +kernel
theorem d_M_lose_65 : decode b_M_lose 65 = .ok (.iload_n 1, 1) := by decide +kernel
theorem d_M_lose_66 : decode b_M_lose 66 = .ok (.aload_n 0, 1) := by decide +kernel
theorem d_M_lose_67 : decode b_M_lose 67 = .ok (.getfield 19, 3) := by decide +kernel
theorem d_M_lose_70 : decode b_M_lose 70 = .ok (.iload_n 1, 1) := by decide +kernel
theorem d_M_lose_71 : decode b_M_lose 71 = .ok (.laload, 1) := by decide +kernel
theorem d_M_lose_72 : decode b_M_lose 72 = .ok (.lload_n 3, 1) := by decide +kernel
theorem d_M_lose_73 : decode b_M_lose 73 = .ok (.lcmp, 1) := by decide +kernel
theorem d_M_lose_74 : decode b_M_lose 74 = .ok (.ifCond .ne 9, 3) := by decide +kernel
theorem d_M_lose_77 : decode b_M_lose 77 = .ok (.lload_n 3, 1) := by decide +kernel
theorem d_M_lose_78 : decode b_M_lose 78 = .ok (.lconst 1, 1) := by decide +kernel
theorem d_M_lose_79 : decode b_M_lose 79 = .ok (.lsub, 1) := by decide +kernel
theorem d_M_lose_80 : decode b_M_lose 80 = .ok (.goto 9, 3) := by decide +kernel
theorem d_M_lose_83 : decode b_M_lose 83 = .ok (.aload_n 0, 1) := by decide +kernel
theorem d_M_lose_84 : decode b_M_lose 84 = .ok (.getfield 19, 3) := by decide +kernel
theorem d_M_lose_87 : decode b_M_lose 87 = .ok (.iload_n 1, 1) := by decide +kernel
theorem d_M_lose_88 : decode b_M_lose 88 = .ok (.laload, 1) := by decide +kernel
theorem d_M_lose_89 : decode b_M_lose 89 = .ok (.lastore, 1) := by decide +kernel
theorem d_M_lose_90 : decode b_M_lose 90 = .ok (.aload_n 0, 1) := by decide +kernel
theorem d_M_lose_91 : decode b_M_lose 91 = .ok (.getfield 22, 3) := by decide +kernel
theorem d_M_lose_94 : decode b_M_lose 94 = .ok (.iload_n 1, 1) := by decide +kernel
theorem d_M_lose_95 : decode b_M_lose 95 = .ok (.aload_n 0, 1) := by decide +kernel
theorem d_M_lose_96 : decode b_M_lose 96 = .ok (.getfield 22, 3) := by decide +kernel
theorem d_M_lose_99 : decode b_M_lose 99 = .ok (.iload_n 1, 1) := by decide +kernel
theorem d_M_lose_100 : decode b_M_lose 100 = .ok (.laload, 1) := by decide +kernel
theorem d_M_lose_101 : decode b_M_lose 101 = .ok (.lload_n 3, 1) := by decide +kernel
theorem d_M_lose_102 : decode b_M_lose 102 = .ok (.lcmp, 1) := by decide +kernel
theorem d_M_lose_103 : decode b_M_lose 103 = .ok (.ifCond .ne 9, 3) := by decide +kernel
theorem d_M_lose_106 : decode b_M_lose 106 = .ok (.lload_n 3, 1) := by decide +kernel
theorem d_M_lose_107 : decode b_M_lose 107 = .ok (.lconst 1, 1) := by decide +kernel
theorem d_M_lose_108 : decode b_M_lose 108 = .ok (.ladd, 1) := by decide +kernel
theorem d_M_lose_109 : decode b_M_lose 109 = .ok (.goto 9, 3) := by decide +kernel
theorem d_M_lose_112 : decode b_M_lose 112 = .ok (.aload_n 0, 1) := by decide +kernel
theorem d_M_lose_113 : decode b_M_lose 113 = .ok (.getfield 22, 3) := by decide +kernel
theorem d_M_lose_116 : decode b_M_lose 116 = .ok (.iload_n 1, 1) := by decide +kernel
theorem d_M_lose_117 : decode b_M_lose 117 = .ok (.laload, 1) := by decide +kernel
theorem d_M_lose_118 : decode b_M_lose 118 = .ok (.lastore, 1) := by decide +kernel
theorem d_M_lose_119 : decode b_M_lose 119 = .ok (.aload_n 0, 1) := by decide +kernel
theorem d_M_lose_120 : decode b_M_lose 120 = .ok (.getfield 25, 3) := by decide +kernel
theorem d_M_lose_123 : decode b_M_lose 123 = .ok (.iload_n 1, 1) := by decide +kernel
theorem d_M_lose_124 : decode b_M_lose 124 = .ok (.aload_n 0, 1) := by decide +kernel
theorem d_M_lose_125 : decode b_M_lose 125 = .ok (.getfield 25, 3) := by decide +kernel
theorem d_M_lose_128 : decode b_M_lose 128 = .ok (.iload_n 1, 1) := by decide +kernel
theorem d_M_lose_129 : decode b_M_lose 129 = .ok (.laload, 1) := by decide +kernel
theorem d_M_lose_130 : decode b_M_lose 130 = .ok (.lload_n 3, 1) := by decide +kernel
theorem d_M_lose_131 : decode b_M_lose 131 = .ok (.lcmp, 1) := by decide +kernel
theorem d_M_lose_132 : decode b_M_lose 132 = .ok (.ifCond .ne 9, 3) := by decide +kernel
theorem d_M_lose_135 : decode b_M_lose 135 = .ok (.lload_n 3, 1) := by decide +kernel
theorem d_M_lose_136 : decode b_M_lose 136 = .ok (.lconst 1, 1) := by decide +kernel
theorem d_M_lose_137 : decode b_M_lose 137 = .ok (.lsub, 1) := by decide +kernel
theorem d_M_lose_138 : decode b_M_lose 138 = .ok (.goto 9, 3) := by decide +kernel
theorem d_M_lose_141 : decode b_M_lose 141 = .ok (.aload_n 0, 1) := by decide +kernel
theorem d_M_lose_142 : decode b_M_lose 142 = .ok (.getfield 25, 3) := by decide +kernel
theorem d_M_lose_145 : decode b_M_lose 145 = .ok (.iload_n 1, 1) := by decide +kernel
theorem d_M_lose_146 : decode b_M_lose 146 = .ok (.laload, 1) := by decide +kernel
theorem d_M_lose_147 : decode b_M_lose 147 = .ok (.lastore, 1) := by decide +kernel
theorem d_M_lose_148 : decode b_M_lose 148 = .ok (.return_, 1) := by decide +kernel
def f_M_lose_147u (r0 : (Nat → VV)) (p1 : Nat) (p2 : Bool) (p3 : Int64) (r147n : (Nat → VV)) : (Nat → VV) := r147n
def f_M_lose_147 (r0 : (Nat → VV)) (p1 : Nat) (p2 : Bool) (p3 : Int64) (s147_0 : Int64) (r118n : (Nat → VV)) : (Nat → VV) := f_M_lose_147u r0 p1 p2 p3 (u6 r118n p1 s147_0)
def f_M_lose_118u (r0 : (Nat → VV)) (p1 : Nat) (p2 : Bool) (p3 : Int64) (r118n : (Nat → VV)) : (Nat → VV) := (if ((r118n p1).2.2.2.2.2.1) = p3 then f_M_lose_147 r0 p1 p2 p3 (p3 - (1 : Int64)) r118n else f_M_lose_147 r0 p1 p2 p3 ((r118n p1).2.2.2.2.2.1) r118n)
def f_M_lose_118 (r0 : (Nat → VV)) (p1 : Nat) (p2 : Bool) (p3 : Int64) (s118_0 : Int64) (r89n : (Nat → VV)) : (Nat → VV) := f_M_lose_118u r0 p1 p2 p3 (u5 r89n p1 s118_0)
def f_M_lose_89u (r0 : (Nat → VV)) (p1 : Nat) (p2 : Bool) (p3 : Int64) (r89n : (Nat → VV)) : (Nat → VV) := (if ((r89n p1).2.2.2.2.1) = p3 then f_M_lose_118 r0 p1 p2 p3 (p3 + (1 : Int64)) r89n else f_M_lose_118 r0 p1 p2 p3 ((r89n p1).2.2.2.2.1) r89n)
def f_M_lose_89 (r0 : (Nat → VV)) (p1 : Nat) (p2 : Bool) (p3 : Int64) (s89_0 : Int64) (r60n : (Nat → VV)) : (Nat → VV) := f_M_lose_89u r0 p1 p2 p3 (u4 r60n p1 s89_0)
def f_M_lose_60u (r0 : (Nat → VV)) (p1 : Nat) (p2 : Bool) (p3 : Int64) (r60n : (Nat → VV)) : (Nat → VV) := (if ((r60n p1).2.2.2.1) = p3 then f_M_lose_89 r0 p1 p2 p3 (p3 - (1 : Int64)) r60n else f_M_lose_89 r0 p1 p2 p3 ((r60n p1).2.2.2.1) r60n)
def f_M_lose_60 (r0 : (Nat → VV)) (p1 : Nat) (p2 : Bool) (p3 : Int64) (s60_0 : Int64) : (Nat → VV) := f_M_lose_60u r0 p1 p2 p3 (u3 r0 p1 s60_0)
def f_M_lose_32 (r0 : (Nat → VV)) (p1 : Nat) (p2 : Bool) (p3 : Int64) : (Nat → VV) := (if ((r0 p1).2.2.1) = p3 then f_M_lose_60 r0 p1 p2 p3 (p3 + (1 : Int64)) else f_M_lose_60 r0 p1 p2 p3 ((r0 p1).2.2.1))
def f_M_lose_30u (r0 : (Nat → VV)) (p1 : Nat) (p2 : Bool) (p3 : Int64) (r30n : (Nat → VV)) : (Nat → VV) := r30n
def f_M_lose (r0 : (Nat → VV)) (p1 : Nat) (p2 : Bool) (p3 : Int64) : (Nat → VV) := (if p2 = true then (if (f_M_isSingle r0 p1) = true then (if ((r0 p1).2.2.1) = p3 then f_M_lose_30u r0 p1 p2 p3 (u7 r0 p1 true) else f_M_lose_32 r0 p1 p2 p3) else f_M_lose_32 r0 p1 p2 p3) else r0)
set_option maxRecDepth 100000 in
set_option maxHeartbeats 4000000 in
theorem c_M_lose (l : Launch) (dC : Nat → ClassId) (dI : Nat → Nat → Nat) (ad : Nat → Nat) (cJ cZ : ClassId) (sz : Nat) (c0 : Int32) (r0 : (Nat → VV)) (w0 : (Nat → Int64)) (s0 : Int32) (p1 : Nat) (p2 : Bool) (p3 : Int64) (b1 : p1 < 24) : Met l y_M_lose w_M_lose ({ frames := 1, cells := 0, slots := 0, locals := 21 } : Room) (va_Pc [.ref (ad 0), .int (nI p1), .int (bI p2), .long (p3)] (nP (dC, dI) (mT cJ cZ) (mW ad cJ cZ c0 r0 w0 s0) sz)) (va_Qv (fun _ : Unit => True) (mB (dC, dI) (va_A (mW ad cJ cZ c0 r0 w0 s0) sz) (mW ad cJ cZ c0 (f_M_lose r0 p1 p2 p3) w0 s0)) (va_A (mW ad cJ cZ c0 r0 w0 s0) sz)) 0 0 (va_A (mW ad cJ cZ c0 r0 w0 s0) sz) := by
  refine Met.ofW (cc := b_M_lose) (maxL := 5) (ret := none) (by decide) rfl ?_
  intro p e s m args below meth c s₁ B hml hv
  obtain ⟨rfl, hsz, hP, hK, hD0⟩ := hv
  have hx := B.exec
  have hb := B.bytes
  have hr := B.returns
  have hts := atoms_spec (ws := w_M_lose) B.pre
  have hG : ∀ w ∈ gM, w.before _ s = true := fun w h => hts w (List.mem_cons_of_mem _ h)
  have hown : s.vm.findClass R_M = some m.cls := findClass_of_methodNamed B.named
  have hlocks := B.notSynchronized
  subst hsz
  have hD := hD0.self (sz := s.heap.size)
  generalize hAe : va_A (mW ad cJ cZ c0 r0 w0 s0) s.heap.size = A at hD ⊢
  have hA : ∀ q : Nat, s.heap.size ≤ q → A q := fun q h => by rw [← hAe]; exact Or.inr h
  have hS : va_S A s.heap s.heap [] := va_S.rf
  have hl := lv_entry ([.ref (ad 0), .int (nI p1), .int (bI p2), .long (p3)]) (n := 5) (Nat.le_of_ble_eq_true rfl)
  rw [lg_entry_eq]
  generalize (lg_sl ([.ref (ad 0), .int (nI p1), .int (bI p2), .long (p3)]) ++ List.replicate (5 - (lg_sl ([.ref (ad 0), .int (nI p1), .int (bI p2), .long (p3)])).length) Slot.unset).toArray = ls at hl ⊢
  have hl : lv_has ls 5 [(0, .ref (ad 0)), (1, .int (nI p1)), (2, .int (bI p2)), (3, .long (p3))] := hl
  have K147u : ∀ (r147n : (Nat → VV)) (hj : f_M_lose r0 p1 p2 p3 = f_M_lose_147u r0 p1 p2 p3 r147n) (H : Heap) (locs : List Loc) (hP : va_P (dC, dI) classes (mW ad cJ cZ c0 r147n w0 s0) H) (hD : va_D A (mW ad cJ cZ c0 r147n w0 s0)) (hS : va_S A s.heap H locs) (ls : Array Slot) (hl : lv_has ls 5 []), W p l e (headSpec w_M_lose ({ frames := 1, cells := 0, slots := 0, locals := 21 } : Room)).room s m ([.ref (ad 0), .int (nI p1), .int (bI p2), .long (p3)] : List Value).toArray below meth c H locs 0 0 (MQ below (va_Qv (fun _ : Unit => True) (mB (dC, dI) A (mW ad cJ cZ c0 (f_M_lose r0 p1 p2 p3) w0 s0)) A) ([.ref (ad 0), .int (nI p1), .int (bI p2), .long (p3)] : List Value).toArray s 0 0 A) (F0 m 148 ls []) := by
    intro r147n hj H locs hP hD hS ls hl
    have fe : f_M_lose r0 p1 p2 p3 = r147n := hj.trans rfl
    exact W.vret hx hb hr (fun t ht hW => ⟨⟨(), rfl, trivial, by rw [ht, fe]; exact hP, by rw [fe]; exact hD⟩, hS.F ht⟩) hS.2.2 d_M_lose_148
  have K147 : ∀ (s147_0 : Int64) (r118n : (Nat → VV)) (hj : f_M_lose r0 p1 p2 p3 = f_M_lose_147 r0 p1 p2 p3 s147_0 r118n) (H : Heap) (locs : List Loc) (hP : va_P (dC, dI) classes (mW ad cJ cZ c0 r118n w0 s0) H) (hD : va_D A (mW ad cJ cZ c0 r118n w0 s0)) (hS : va_S A s.heap H locs) (ls : Array Slot) (hl : lv_has ls 5 []), W p l e (headSpec w_M_lose ({ frames := 1, cells := 0, slots := 0, locals := 21 } : Room)).room s m ([.ref (ad 0), .int (nI p1), .int (bI p2), .long (p3)] : List Value).toArray below meth c H locs 0 0 (MQ below (va_Qv (fun _ : Unit => True) (mB (dC, dI) A (mW ad cJ cZ c0 (f_M_lose r0 p1 p2 p3) w0 s0)) A) ([.ref (ad 0), .int (nI p1), .int (bI p2), .long (p3)] : List Value).toArray s 0 0 A) (F0 m 147 ls [.long (s147_0), .int (nI p1), .ref (ad 6)]) := by
    intro s147_0 r118n hj H locs hP hD hS ls hl
    refine ms_6 (P := p1) (x := s147_0) hx hb hK hP hD hS rfl b1 d_M_lose_147 (fun H locs hP hD hS => ?_)
    obtain ⟨r147n, er147n⟩ : ∃ z, z = u6 r118n p1 s147_0 := ⟨_, rfl⟩
    rw [← er147n] at hP hD
    refine K147u r147n (Eq.trans (hj.trans rfl) (congrArg (fun r147n => f_M_lose_147u r0 p1 p2 p3 r147n) er147n.symm)) H locs ?_ ?_ hS ls (lv_sub hl [] rfl)
    · with_reducible exact hP
    · with_reducible exact hD
  have K118u : ∀ (r118n : (Nat → VV)) (hj : f_M_lose r0 p1 p2 p3 = f_M_lose_118u r0 p1 p2 p3 r118n) (H : Heap) (locs : List Loc) (hP : va_P (dC, dI) classes (mW ad cJ cZ c0 r118n w0 s0) H) (hD : va_D A (mW ad cJ cZ c0 r118n w0 s0)) (hS : va_S A s.heap H locs) (ls : Array Slot) (hl : lv_has ls 5 [(0, .ref (ad 0)), (1, .int (nI p1)), (3, .long (p3))]), W p l e (headSpec w_M_lose ({ frames := 1, cells := 0, slots := 0, locals := 21 } : Room)).room s m ([.ref (ad 0), .int (nI p1), .int (bI p2), .long (p3)] : List Value).toArray below meth c H locs 0 0 (MQ below (va_Qv (fun _ : Unit => True) (mB (dC, dI) A (mW ad cJ cZ c0 (f_M_lose r0 p1 p2 p3) w0 s0)) A) ([.ref (ad 0), .int (nI p1), .int (bI p2), .long (p3)] : List Value).toArray s 0 0 A) (F0 m 119 ls []) := by
    intro r118n hj H locs hP hD hS ls hl
    refine lv_aload_n hx hb d_M_lose_119 rfl (lv_at hl 0 rfl) ?_
    refine va_get (D := (dC, dI)) (ci := 2) (v := .ref (ad 6)) (C := R_M) (T := F_M) (N := 10) hx hb hts (fun w h => List.mem_cons_of_mem _ (uw_M w h)) hown hK hP 0 rfl rfl 6 (by decide) (hG (.fieldLink R_M 25 "ValueSieveModel" "greatest" "[J") gx15) (fun _ h9 => h9) rfl d_M_lose_120 ?_
    refine lv_iload_n hx hb d_M_lose_123 rfl (lv_at hl 1 rfl) ?_
    refine lv_aload_n hx hb d_M_lose_124 rfl (lv_at hl 0 rfl) ?_
    refine va_get (D := (dC, dI)) (ci := 2) (v := .ref (ad 6)) (C := R_M) (T := F_M) (N := 10) hx hb hts (fun w h => List.mem_cons_of_mem _ (uw_M w h)) hown hK hP 0 rfl rfl 6 (by decide) (hG (.fieldLink R_M 25 "ValueSieveModel" "greatest" "[J") gx15) (fun _ h9 => h9) rfl d_M_lose_125 ?_
    refine lv_iload_n hx hb d_M_lose_128 rfl (lv_at hl 1 rfl) ?_
    refine ml_6 (P := p1) hx hb hK hP rfl b1 d_M_lose_129 ?_
    refine lv_lload_n hx hb d_M_lose_130 rfl (lv_at hl 2 rfl) ?_
    refine wl_ne (tgt := 141) hx hb d_M_lose_131 d_M_lose_132 (by decide) (fun e1_141 => ?_) (fun e1_141 => ?_)
    · refine lv_aload_n hx hb d_M_lose_141 rfl (lv_at hl 0 rfl) ?_
      refine va_get (D := (dC, dI)) (ci := 2) (v := .ref (ad 6)) (C := R_M) (T := F_M) (N := 10) hx hb hts (fun w h => List.mem_cons_of_mem _ (uw_M w h)) hown hK hP 0 rfl rfl 6 (by decide) (hG (.fieldLink R_M 25 "ValueSieveModel" "greatest" "[J") gx15) (fun _ h9 => h9) rfl d_M_lose_142 ?_
      refine lv_iload_n hx hb d_M_lose_145 rfl (lv_at hl 1 rfl) ?_
      refine ml_6 (P := p1) hx hb hK hP rfl b1 d_M_lose_146 ?_
      refine K147 ((r118n p1).2.2.2.2.2.1) r118n (hj.trans (by unfold f_M_lose_118u; first | with_reducible exact if_neg e1_141 | exact if_neg e1_141)) H locs ?_ ?_ hS ls (lv_sub hl [] rfl)
      · with_reducible exact hP
      · with_reducible exact hD
    · refine lv_lload_n hx hb d_M_lose_135 rfl (lv_at hl 2 rfl) ?_
      refine lv_lconst (v := 1) hx hb d_M_lose_136 (by decide) ?_
      refine lv_lsub hx hb d_M_lose_137 ?_
      refine lv_goto (tgt := 147) hx hb d_M_lose_138 (by decide) ?_
      refine K147 (p3 - (1 : Int64)) r118n (hj.trans (by unfold f_M_lose_118u; first | with_reducible exact if_pos e1_141 | exact if_pos e1_141)) H locs ?_ ?_ hS ls (lv_sub hl [] rfl)
      · with_reducible exact hP
      · with_reducible exact hD
  have K118 : ∀ (s118_0 : Int64) (r89n : (Nat → VV)) (hj : f_M_lose r0 p1 p2 p3 = f_M_lose_118 r0 p1 p2 p3 s118_0 r89n) (H : Heap) (locs : List Loc) (hP : va_P (dC, dI) classes (mW ad cJ cZ c0 r89n w0 s0) H) (hD : va_D A (mW ad cJ cZ c0 r89n w0 s0)) (hS : va_S A s.heap H locs) (ls : Array Slot) (hl : lv_has ls 5 [(0, .ref (ad 0)), (1, .int (nI p1)), (3, .long (p3))]), W p l e (headSpec w_M_lose ({ frames := 1, cells := 0, slots := 0, locals := 21 } : Room)).room s m ([.ref (ad 0), .int (nI p1), .int (bI p2), .long (p3)] : List Value).toArray below meth c H locs 0 0 (MQ below (va_Qv (fun _ : Unit => True) (mB (dC, dI) A (mW ad cJ cZ c0 (f_M_lose r0 p1 p2 p3) w0 s0)) A) ([.ref (ad 0), .int (nI p1), .int (bI p2), .long (p3)] : List Value).toArray s 0 0 A) (F0 m 118 ls [.long (s118_0), .int (nI p1), .ref (ad 5)]) := by
    intro s118_0 r89n hj H locs hP hD hS ls hl
    refine ms_5 (P := p1) (x := s118_0) hx hb hK hP hD hS rfl b1 d_M_lose_118 (fun H locs hP hD hS => ?_)
    obtain ⟨r118n, er118n⟩ : ∃ z, z = u5 r89n p1 s118_0 := ⟨_, rfl⟩
    rw [← er118n] at hP hD
    refine K118u r118n (Eq.trans (hj.trans rfl) (congrArg (fun r118n => f_M_lose_118u r0 p1 p2 p3 r118n) er118n.symm)) H locs ?_ ?_ hS ls (lv_sub hl [0, 1, 2] rfl)
    · with_reducible exact hP
    · with_reducible exact hD
  have K89u : ∀ (r89n : (Nat → VV)) (hj : f_M_lose r0 p1 p2 p3 = f_M_lose_89u r0 p1 p2 p3 r89n) (H : Heap) (locs : List Loc) (hP : va_P (dC, dI) classes (mW ad cJ cZ c0 r89n w0 s0) H) (hD : va_D A (mW ad cJ cZ c0 r89n w0 s0)) (hS : va_S A s.heap H locs) (ls : Array Slot) (hl : lv_has ls 5 [(0, .ref (ad 0)), (1, .int (nI p1)), (3, .long (p3))]), W p l e (headSpec w_M_lose ({ frames := 1, cells := 0, slots := 0, locals := 21 } : Room)).room s m ([.ref (ad 0), .int (nI p1), .int (bI p2), .long (p3)] : List Value).toArray below meth c H locs 0 0 (MQ below (va_Qv (fun _ : Unit => True) (mB (dC, dI) A (mW ad cJ cZ c0 (f_M_lose r0 p1 p2 p3) w0 s0)) A) ([.ref (ad 0), .int (nI p1), .int (bI p2), .long (p3)] : List Value).toArray s 0 0 A) (F0 m 90 ls []) := by
    intro r89n hj H locs hP hD hS ls hl
    refine lv_aload_n hx hb d_M_lose_90 rfl (lv_at hl 0 rfl) ?_
    refine va_get (D := (dC, dI)) (ci := 2) (v := .ref (ad 5)) (C := R_M) (T := F_M) (N := 10) hx hb hts (fun w h => List.mem_cons_of_mem _ (uw_M w h)) hown hK hP 0 rfl rfl 5 (by decide) (hG (.fieldLink R_M 22 "ValueSieveModel" "least" "[J") gx14) (fun _ h9 => h9) rfl d_M_lose_91 ?_
    refine lv_iload_n hx hb d_M_lose_94 rfl (lv_at hl 1 rfl) ?_
    refine lv_aload_n hx hb d_M_lose_95 rfl (lv_at hl 0 rfl) ?_
    refine va_get (D := (dC, dI)) (ci := 2) (v := .ref (ad 5)) (C := R_M) (T := F_M) (N := 10) hx hb hts (fun w h => List.mem_cons_of_mem _ (uw_M w h)) hown hK hP 0 rfl rfl 5 (by decide) (hG (.fieldLink R_M 22 "ValueSieveModel" "least" "[J") gx14) (fun _ h9 => h9) rfl d_M_lose_96 ?_
    refine lv_iload_n hx hb d_M_lose_99 rfl (lv_at hl 1 rfl) ?_
    refine ml_5 (P := p1) hx hb hK hP rfl b1 d_M_lose_100 ?_
    refine lv_lload_n hx hb d_M_lose_101 rfl (lv_at hl 2 rfl) ?_
    refine wl_ne (tgt := 112) hx hb d_M_lose_102 d_M_lose_103 (by decide) (fun e1_112 => ?_) (fun e1_112 => ?_)
    · refine lv_aload_n hx hb d_M_lose_112 rfl (lv_at hl 0 rfl) ?_
      refine va_get (D := (dC, dI)) (ci := 2) (v := .ref (ad 5)) (C := R_M) (T := F_M) (N := 10) hx hb hts (fun w h => List.mem_cons_of_mem _ (uw_M w h)) hown hK hP 0 rfl rfl 5 (by decide) (hG (.fieldLink R_M 22 "ValueSieveModel" "least" "[J") gx14) (fun _ h9 => h9) rfl d_M_lose_113 ?_
      refine lv_iload_n hx hb d_M_lose_116 rfl (lv_at hl 1 rfl) ?_
      refine ml_5 (P := p1) hx hb hK hP rfl b1 d_M_lose_117 ?_
      refine K118 ((r89n p1).2.2.2.2.1) r89n (hj.trans (by unfold f_M_lose_89u; first | with_reducible exact if_neg e1_112 | exact if_neg e1_112)) H locs ?_ ?_ hS ls (lv_sub hl [0, 1, 2] rfl)
      · with_reducible exact hP
      · with_reducible exact hD
    · refine lv_lload_n hx hb d_M_lose_106 rfl (lv_at hl 2 rfl) ?_
      refine lv_lconst (v := 1) hx hb d_M_lose_107 (by decide) ?_
      refine lv_ladd hx hb d_M_lose_108 ?_
      refine lv_goto (tgt := 118) hx hb d_M_lose_109 (by decide) ?_
      refine K118 (p3 + (1 : Int64)) r89n (hj.trans (by unfold f_M_lose_89u; first | with_reducible exact if_pos e1_112 | exact if_pos e1_112)) H locs ?_ ?_ hS ls (lv_sub hl [0, 1, 2] rfl)
      · with_reducible exact hP
      · with_reducible exact hD
  have K89 : ∀ (s89_0 : Int64) (r60n : (Nat → VV)) (hj : f_M_lose r0 p1 p2 p3 = f_M_lose_89 r0 p1 p2 p3 s89_0 r60n) (H : Heap) (locs : List Loc) (hP : va_P (dC, dI) classes (mW ad cJ cZ c0 r60n w0 s0) H) (hD : va_D A (mW ad cJ cZ c0 r60n w0 s0)) (hS : va_S A s.heap H locs) (ls : Array Slot) (hl : lv_has ls 5 [(0, .ref (ad 0)), (1, .int (nI p1)), (3, .long (p3))]), W p l e (headSpec w_M_lose ({ frames := 1, cells := 0, slots := 0, locals := 21 } : Room)).room s m ([.ref (ad 0), .int (nI p1), .int (bI p2), .long (p3)] : List Value).toArray below meth c H locs 0 0 (MQ below (va_Qv (fun _ : Unit => True) (mB (dC, dI) A (mW ad cJ cZ c0 (f_M_lose r0 p1 p2 p3) w0 s0)) A) ([.ref (ad 0), .int (nI p1), .int (bI p2), .long (p3)] : List Value).toArray s 0 0 A) (F0 m 89 ls [.long (s89_0), .int (nI p1), .ref (ad 4)]) := by
    intro s89_0 r60n hj H locs hP hD hS ls hl
    refine ms_4 (P := p1) (x := s89_0) hx hb hK hP hD hS rfl b1 d_M_lose_89 (fun H locs hP hD hS => ?_)
    obtain ⟨r89n, er89n⟩ : ∃ z, z = u4 r60n p1 s89_0 := ⟨_, rfl⟩
    rw [← er89n] at hP hD
    refine K89u r89n (Eq.trans (hj.trans rfl) (congrArg (fun r89n => f_M_lose_89u r0 p1 p2 p3 r89n) er89n.symm)) H locs ?_ ?_ hS ls (lv_sub hl [0, 1, 2] rfl)
    · with_reducible exact hP
    · with_reducible exact hD
  have K60u : ∀ (r60n : (Nat → VV)) (hj : f_M_lose r0 p1 p2 p3 = f_M_lose_60u r0 p1 p2 p3 r60n) (H : Heap) (locs : List Loc) (hP : va_P (dC, dI) classes (mW ad cJ cZ c0 r60n w0 s0) H) (hD : va_D A (mW ad cJ cZ c0 r60n w0 s0)) (hS : va_S A s.heap H locs) (ls : Array Slot) (hl : lv_has ls 5 [(0, .ref (ad 0)), (1, .int (nI p1)), (3, .long (p3))]), W p l e (headSpec w_M_lose ({ frames := 1, cells := 0, slots := 0, locals := 21 } : Room)).room s m ([.ref (ad 0), .int (nI p1), .int (bI p2), .long (p3)] : List Value).toArray below meth c H locs 0 0 (MQ below (va_Qv (fun _ : Unit => True) (mB (dC, dI) A (mW ad cJ cZ c0 (f_M_lose r0 p1 p2 p3) w0 s0)) A) ([.ref (ad 0), .int (nI p1), .int (bI p2), .long (p3)] : List Value).toArray s 0 0 A) (F0 m 61 ls []) := by
    intro r60n hj H locs hP hD hS ls hl
    refine lv_aload_n hx hb d_M_lose_61 rfl (lv_at hl 0 rfl) ?_
    refine va_get (D := (dC, dI)) (ci := 2) (v := .ref (ad 4)) (C := R_M) (T := F_M) (N := 10) hx hb hts (fun w h => List.mem_cons_of_mem _ (uw_M w h)) hown hK hP 0 rfl rfl 4 (by decide) (hG (.fieldLink R_M 19 "ValueSieveModel" "high" "[J") gx13) (fun _ h9 => h9) rfl d_M_lose_62 ?_
    refine lv_iload_n hx hb d_M_lose_65 rfl (lv_at hl 1 rfl) ?_
    refine lv_aload_n hx hb d_M_lose_66 rfl (lv_at hl 0 rfl) ?_
    refine va_get (D := (dC, dI)) (ci := 2) (v := .ref (ad 4)) (C := R_M) (T := F_M) (N := 10) hx hb hts (fun w h => List.mem_cons_of_mem _ (uw_M w h)) hown hK hP 0 rfl rfl 4 (by decide) (hG (.fieldLink R_M 19 "ValueSieveModel" "high" "[J") gx13) (fun _ h9 => h9) rfl d_M_lose_67 ?_
    refine lv_iload_n hx hb d_M_lose_70 rfl (lv_at hl 1 rfl) ?_
    refine ml_4 (P := p1) hx hb hK hP rfl b1 d_M_lose_71 ?_
    refine lv_lload_n hx hb d_M_lose_72 rfl (lv_at hl 2 rfl) ?_
    refine wl_ne (tgt := 83) hx hb d_M_lose_73 d_M_lose_74 (by decide) (fun e1_83 => ?_) (fun e1_83 => ?_)
    · refine lv_aload_n hx hb d_M_lose_83 rfl (lv_at hl 0 rfl) ?_
      refine va_get (D := (dC, dI)) (ci := 2) (v := .ref (ad 4)) (C := R_M) (T := F_M) (N := 10) hx hb hts (fun w h => List.mem_cons_of_mem _ (uw_M w h)) hown hK hP 0 rfl rfl 4 (by decide) (hG (.fieldLink R_M 19 "ValueSieveModel" "high" "[J") gx13) (fun _ h9 => h9) rfl d_M_lose_84 ?_
      refine lv_iload_n hx hb d_M_lose_87 rfl (lv_at hl 1 rfl) ?_
      refine ml_4 (P := p1) hx hb hK hP rfl b1 d_M_lose_88 ?_
      refine K89 ((r60n p1).2.2.2.1) r60n (hj.trans (by unfold f_M_lose_60u; first | with_reducible exact if_neg e1_83 | exact if_neg e1_83)) H locs ?_ ?_ hS ls (lv_sub hl [0, 1, 2] rfl)
      · with_reducible exact hP
      · with_reducible exact hD
    · refine lv_lload_n hx hb d_M_lose_77 rfl (lv_at hl 2 rfl) ?_
      refine lv_lconst (v := 1) hx hb d_M_lose_78 (by decide) ?_
      refine lv_lsub hx hb d_M_lose_79 ?_
      refine lv_goto (tgt := 89) hx hb d_M_lose_80 (by decide) ?_
      refine K89 (p3 - (1 : Int64)) r60n (hj.trans (by unfold f_M_lose_60u; first | with_reducible exact if_pos e1_83 | exact if_pos e1_83)) H locs ?_ ?_ hS ls (lv_sub hl [0, 1, 2] rfl)
      · with_reducible exact hP
      · with_reducible exact hD
  have K60 : ∀ (s60_0 : Int64) (hj : f_M_lose r0 p1 p2 p3 = f_M_lose_60 r0 p1 p2 p3 s60_0) (H : Heap) (locs : List Loc) (hP : va_P (dC, dI) classes (mW ad cJ cZ c0 r0 w0 s0) H) (hD : va_D A (mW ad cJ cZ c0 r0 w0 s0)) (hS : va_S A s.heap H locs) (ls : Array Slot) (hl : lv_has ls 5 [(0, .ref (ad 0)), (1, .int (nI p1)), (3, .long (p3))]), W p l e (headSpec w_M_lose ({ frames := 1, cells := 0, slots := 0, locals := 21 } : Room)).room s m ([.ref (ad 0), .int (nI p1), .int (bI p2), .long (p3)] : List Value).toArray below meth c H locs 0 0 (MQ below (va_Qv (fun _ : Unit => True) (mB (dC, dI) A (mW ad cJ cZ c0 (f_M_lose r0 p1 p2 p3) w0 s0)) A) ([.ref (ad 0), .int (nI p1), .int (bI p2), .long (p3)] : List Value).toArray s 0 0 A) (F0 m 60 ls [.long (s60_0), .int (nI p1), .ref (ad 3)]) := by
    intro s60_0 hj H locs hP hD hS ls hl
    refine ms_3 (P := p1) (x := s60_0) hx hb hK hP hD hS rfl b1 d_M_lose_60 (fun H locs hP hD hS => ?_)
    obtain ⟨r60n, er60n⟩ : ∃ z, z = u3 r0 p1 s60_0 := ⟨_, rfl⟩
    rw [← er60n] at hP hD
    refine K60u r60n (Eq.trans (hj.trans rfl) (congrArg (fun r60n => f_M_lose_60u r0 p1 p2 p3 r60n) er60n.symm)) H locs ?_ ?_ hS ls (lv_sub hl [0, 1, 2] rfl)
    · with_reducible exact hP
    · with_reducible exact hD
  have K32 : ∀ (hj : f_M_lose r0 p1 p2 p3 = f_M_lose_32 r0 p1 p2 p3) (H : Heap) (locs : List Loc) (hP : va_P (dC, dI) classes (mW ad cJ cZ c0 r0 w0 s0) H) (hD : va_D A (mW ad cJ cZ c0 r0 w0 s0)) (hS : va_S A s.heap H locs) (ls : Array Slot) (hl : lv_has ls 5 [(0, .ref (ad 0)), (1, .int (nI p1)), (3, .long (p3))]), W p l e (headSpec w_M_lose ({ frames := 1, cells := 0, slots := 0, locals := 21 } : Room)).room s m ([.ref (ad 0), .int (nI p1), .int (bI p2), .long (p3)] : List Value).toArray below meth c H locs 0 0 (MQ below (va_Qv (fun _ : Unit => True) (mB (dC, dI) A (mW ad cJ cZ c0 (f_M_lose r0 p1 p2 p3) w0 s0)) A) ([.ref (ad 0), .int (nI p1), .int (bI p2), .long (p3)] : List Value).toArray s 0 0 A) (F0 m 32 ls []) := by
    intro hj H locs hP hD hS ls hl
    refine lv_aload_n hx hb d_M_lose_32 rfl (lv_at hl 0 rfl) ?_
    refine va_get (D := (dC, dI)) (ci := 2) (v := .ref (ad 3)) (C := R_M) (T := F_M) (N := 10) hx hb hts (fun w h => List.mem_cons_of_mem _ (uw_M w h)) hown hK hP 0 rfl rfl 3 (by decide) (hG (.fieldLink R_M 16 "ValueSieveModel" "low" "[J") gx12) (fun _ h9 => h9) rfl d_M_lose_33 ?_
    refine lv_iload_n hx hb d_M_lose_36 rfl (lv_at hl 1 rfl) ?_
    refine lv_aload_n hx hb d_M_lose_37 rfl (lv_at hl 0 rfl) ?_
    refine va_get (D := (dC, dI)) (ci := 2) (v := .ref (ad 3)) (C := R_M) (T := F_M) (N := 10) hx hb hts (fun w h => List.mem_cons_of_mem _ (uw_M w h)) hown hK hP 0 rfl rfl 3 (by decide) (hG (.fieldLink R_M 16 "ValueSieveModel" "low" "[J") gx12) (fun _ h9 => h9) rfl d_M_lose_38 ?_
    refine lv_iload_n hx hb d_M_lose_41 rfl (lv_at hl 1 rfl) ?_
    refine ml_3 (P := p1) hx hb hK hP rfl b1 d_M_lose_42 ?_
    refine lv_lload_n hx hb d_M_lose_43 rfl (lv_at hl 2 rfl) ?_
    refine wl_ne (tgt := 54) hx hb d_M_lose_44 d_M_lose_45 (by decide) (fun e1_54 => ?_) (fun e1_54 => ?_)
    · refine lv_aload_n hx hb d_M_lose_54 rfl (lv_at hl 0 rfl) ?_
      refine va_get (D := (dC, dI)) (ci := 2) (v := .ref (ad 3)) (C := R_M) (T := F_M) (N := 10) hx hb hts (fun w h => List.mem_cons_of_mem _ (uw_M w h)) hown hK hP 0 rfl rfl 3 (by decide) (hG (.fieldLink R_M 16 "ValueSieveModel" "low" "[J") gx12) (fun _ h9 => h9) rfl d_M_lose_55 ?_
      refine lv_iload_n hx hb d_M_lose_58 rfl (lv_at hl 1 rfl) ?_
      refine ml_3 (P := p1) hx hb hK hP rfl b1 d_M_lose_59 ?_
      refine K60 ((r0 p1).2.2.1) (hj.trans (by unfold f_M_lose_32; first | with_reducible exact if_neg e1_54 | exact if_neg e1_54)) H locs ?_ ?_ hS ls (lv_sub hl [0, 1, 2] rfl)
      · with_reducible exact hP
      · with_reducible exact hD
    · refine lv_lload_n hx hb d_M_lose_48 rfl (lv_at hl 2 rfl) ?_
      refine lv_lconst (v := 1) hx hb d_M_lose_49 (by decide) ?_
      refine lv_ladd hx hb d_M_lose_50 ?_
      refine lv_goto (tgt := 60) hx hb d_M_lose_51 (by decide) ?_
      refine K60 (p3 + (1 : Int64)) (hj.trans (by unfold f_M_lose_32; first | with_reducible exact if_pos e1_54 | exact if_pos e1_54)) H locs ?_ ?_ hS ls (lv_sub hl [0, 1, 2] rfl)
      · with_reducible exact hP
      · with_reducible exact hD
  have K30u : ∀ (r30n : (Nat → VV)) (hj : f_M_lose r0 p1 p2 p3 = f_M_lose_30u r0 p1 p2 p3 r30n) (H : Heap) (locs : List Loc) (hP : va_P (dC, dI) classes (mW ad cJ cZ c0 r30n w0 s0) H) (hD : va_D A (mW ad cJ cZ c0 r30n w0 s0)) (hS : va_S A s.heap H locs) (ls : Array Slot) (hl : lv_has ls 5 []), W p l e (headSpec w_M_lose ({ frames := 1, cells := 0, slots := 0, locals := 21 } : Room)).room s m ([.ref (ad 0), .int (nI p1), .int (bI p2), .long (p3)] : List Value).toArray below meth c H locs 0 0 (MQ below (va_Qv (fun _ : Unit => True) (mB (dC, dI) A (mW ad cJ cZ c0 (f_M_lose r0 p1 p2 p3) w0 s0)) A) ([.ref (ad 0), .int (nI p1), .int (bI p2), .long (p3)] : List Value).toArray s 0 0 A) (F0 m 31 ls []) := by
    intro r30n hj H locs hP hD hS ls hl
    have fe : f_M_lose r0 p1 p2 p3 = r30n := hj.trans rfl
    exact W.vret hx hb hr (fun t ht hW => ⟨⟨(), rfl, trivial, by rw [ht, fe]; exact hP, by rw [fe]; exact hD⟩, hS.F ht⟩) hS.2.2 d_M_lose_31
  refine lv_iload_n hx hb d_M_lose_0 rfl (lv_at hl 2 rfl) ?_
  refine wz_ne (tgt := 5) hx hb d_M_lose_1 (by decide) (fun e1_5 => ?_) (fun e1_5 => ?_)
  · refine lv_aload_n hx hb d_M_lose_5 rfl (lv_at hl 0 rfl) ?_
    refine lv_iload_n hx hb d_M_lose_6 rfl (lv_at hl 1 rfl) ?_
    refine rc_i (W.runV (As := [.int (nI p1)]) (rest := []) ⟨hx, hb, hml, hown, hts⟩ (c_M_isSingle l dC dI ad cJ cZ c0 r0 w0 s0 p1 b1) (cwV 1 hts (gxV gx182 gx183 gx270 gx0 gx184) rfl rfl rfl (by decide +kernel) ⟨(Nat.le_of_ble_eq_true rfl), (Nat.le_of_ble_eq_true rfl)⟩) ⟨bln, va_recv hK hP (ci := 2) (q0 := 0) rfl rfl, fun U hU hW => ⟨rfl, by rw [hU]; exact hP, va_K.moved hW.alike hK⟩⟩ rfl rfl hl.1 rfl (lv_room (Nat.le_of_ble_eq_true rfl)) d_M_lose_7 ⟨Nat.zero_le _, Nat.zero_le _⟩) ?_
    refine wz_eq (tgt := 32) hx hb d_M_lose_10 (by decide) (fun e2_32 => ?_) (fun e2_32 => ?_)
    · refine K32 (by unfold f_M_lose; first | with_reducible exact (if_pos e1_5).trans (if_neg e2_32) | exact (if_pos e1_5).trans (if_neg e2_32)) s.heap [] ?_ ?_ hS ls (lv_sub hl [0, 1, 3] rfl)
      · with_reducible exact hP
      · with_reducible exact hD
    · refine lv_aload_n hx hb d_M_lose_13 rfl (lv_at hl 0 rfl) ?_
      refine va_get (D := (dC, dI)) (ci := 2) (v := .ref (ad 3)) (C := R_M) (T := F_M) (N := 10) hx hb hts (fun w h => List.mem_cons_of_mem _ (uw_M w h)) hown hK hP 0 rfl rfl 3 (by decide) (hG (.fieldLink R_M 16 "ValueSieveModel" "low" "[J") gx12) (fun _ h9 => h9) rfl d_M_lose_14 ?_
      refine lv_iload_n hx hb d_M_lose_17 rfl (lv_at hl 1 rfl) ?_
      refine ml_3 (P := p1) hx hb hK hP rfl b1 d_M_lose_18 ?_
      refine lv_lload_n hx hb d_M_lose_19 rfl (lv_at hl 3 rfl) ?_
      refine wl_ne (tgt := 32) hx hb d_M_lose_20 d_M_lose_21 (by decide) (fun e3_32 => ?_) (fun e3_32 => ?_)
      · refine K32 (by unfold f_M_lose; first | with_reducible exact (if_pos e1_5).trans ((if_pos e2_32).trans (if_neg e3_32)) | exact (if_pos e1_5).trans ((if_pos e2_32).trans (if_neg e3_32))) s.heap [] ?_ ?_ hS ls (lv_sub hl [0, 1, 3] rfl)
        · with_reducible exact hP
        · with_reducible exact hD
      · refine lv_aload_n hx hb d_M_lose_24 rfl (lv_at hl 0 rfl) ?_
        refine va_get (D := (dC, dI)) (ci := 2) (v := .ref (ad 7)) (C := R_M) (T := F_M) (N := 10) hx hb hts (fun w h => List.mem_cons_of_mem _ (uw_M w h)) hown hK hP 0 rfl rfl 7 (by decide) (hG (.fieldLink R_M 28 "ValueSieveModel" "empty" "[Z") gx16) (fun _ h9 => h9) rfl d_M_lose_25 ?_
        refine lv_iload_n hx hb d_M_lose_28 rfl (lv_at hl 1 rfl) ?_
        refine lv_iconst (v := 1) hx hb d_M_lose_29 (by decide) ?_
        refine ms_7 (P := p1) (x := true) hx hb hK hP hD hS rfl b1 d_M_lose_30 (fun H locs hP hD hS => ?_)
        obtain ⟨r30n, er30n⟩ : ∃ z, z = u7 r0 p1 true := ⟨_, rfl⟩
        rw [← er30n] at hP hD
        refine K30u r30n (Eq.trans (by unfold f_M_lose; first | with_reducible exact (if_pos e1_5).trans ((if_pos e2_32).trans (if_pos e3_32)) | exact (if_pos e1_5).trans ((if_pos e2_32).trans (if_pos e3_32))) (congrArg (fun r30n => f_M_lose_30u r0 p1 p2 p3 r30n) er30n.symm)) H locs ?_ ?_ hS ls (lv_sub hl [] rfl)
        · with_reducible exact hP
        · with_reducible exact hD
  · have fe : f_M_lose r0 p1 p2 p3 = r0 := by unfold f_M_lose; first | with_reducible exact if_neg e1_5 | exact if_neg e1_5
    exact W.vret hx hb hr (fun t ht hW => ⟨⟨(), rfl, trivial, by rw [ht, fe]; exact hP, by rw [fe]; exact hD⟩, hS.F ht⟩) hS.2.2 d_M_lose_4
-- order
theorem d_M_order_0 : decode b_M_order 0 = .ok (.aload_n 0, 1) := by decide +kernel
theorem d_M_order_1 : decode b_M_order 1 = .ok (.getfield 28, 3) := by decide +kernel
theorem d_M_order_4 : decode b_M_order 4 = .ok (.iload_n 1, 1) := by decide +kernel
theorem d_M_order_5 : decode b_M_order 5 = .ok (.aload_n 0, 1) := by decide +kernel
theorem d_M_order_6 : decode b_M_order 6 = .ok (.getfield 28, 3) := by decide +kernel
theorem d_M_order_9 : decode b_M_order 9 = .ok (.iload_n 1, 1) := by decide +kernel
theorem d_M_order_10 : decode b_M_order 10 = .ok (.baload, 1) := by decide +kernel
theorem d_M_order_11 : decode b_M_order 11 = .ok (.ifCond .ne 14, 3) := by decide +kernel
theorem d_M_order_14 : decode b_M_order 14 = .ok (.iload 7, 2) := by decide +kernel
theorem d_M_order_16 : decode b_M_order 16 = .ok (.ifCond .eq 13, 3) := by decide +kernel
theorem d_M_order_19 : decode b_M_order 19 = .ok (.lload_n 3, 1) := by decide +kernel
theorem d_M_order_20 : decode b_M_order 20 = .ok (.lconst 0, 1) := by decide +kernel
theorem d_M_order_21 : decode b_M_order 21 = .ok (.lcmp, 1) := by decide +kernel
theorem d_M_order_22 : decode b_M_order 22 = .ok (.ifCond .ne 7, 3) := by decide +kernel
theorem d_M_order_25 : decode b_M_order 25 = .ok (.iconst 1, 1) := by decide +kernel
theorem d_M_order_26 : decode b_M_order 26 = .ok (.goto 4, 3) := by decide +kernel
theorem d_M_order_29 : decode b_M_order 29 = .ok (.iconst 0, 1) := by decide +kernel
theorem d_M_order_30 : decode b_M_order 30 = .ok (.bastore, 1) := by decide +kernel
theorem d_M_order_31 : decode b_M_order 31 = .ok (.aload_n 0, 1) := by decide +kernel
theorem d_M_order_32 : decode b_M_order 32 = .ok (.getfield 28, 3) := by decide +kernel
theorem d_M_order_35 : decode b_M_order 35 = .ok (.iload_n 2, 1) := by decide +kernel
theorem d_M_order_36 : decode b_M_order 36 = .ok (.aload_n 0, 1) := by decide +kernel
theorem d_M_order_37 : decode b_M_order 37 = .ok (.getfield 28, 3) := by decide +kernel
theorem d_M_order_40 : decode b_M_order 40 = .ok (.iload_n 2, 1) := by decide +kernel
theorem d_M_order_41 : decode b_M_order 41 = .ok (.baload, 1) := by decide +kernel
theorem d_M_order_42 : decode b_M_order 42 = .ok (.ifCond .ne 17, 3) := by decide +kernel
theorem d_M_order_45 : decode b_M_order 45 = .ok (.iload 7, 2) := by decide +kernel
theorem d_M_order_47 : decode b_M_order 47 = .ok (.ifCond .eq 16, 3) := by decide +kernel
theorem d_M_order_50 : decode b_M_order 50 = .ok (.lload 5, 2) := by decide +kernel
theorem d_M_order_52 : decode b_M_order 52 = .ok (.ldc2_w 49, 3) := by decide +kernel
theorem d_M_order_55 : decode b_M_order 55 = .ok (.lcmp, 1) := by decide +kernel
theorem d_M_order_56 : decode b_M_order 56 = .ok (.ifCond .ne 7, 3) := by decide +kernel
theorem d_M_order_59 : decode b_M_order 59 = .ok (.iconst 1, 1) := by decide +kernel
theorem d_M_order_60 : decode b_M_order 60 = .ok (.goto 4, 3) := by decide +kernel
theorem d_M_order_63 : decode b_M_order 63 = .ok (.iconst 0, 1) := by decide +kernel
theorem d_M_order_64 : decode b_M_order 64 = .ok (.bastore, 1) := by decide +kernel
theorem d_M_order_65 : decode b_M_order 65 = .ok (.aload_n 0, 1) := by decide +kernel
theorem d_M_order_66 : decode b_M_order 66 = .ok (.getfield 19, 3) := by decide +kernel
theorem d_M_order_69 : decode b_M_order 69 = .ok (.iload_n 1, 1) := by decide +kernel
theorem d_M_order_70 : decode b_M_order 70 = .ok (.aload_n 0, 1) := by decide +kernel
theorem d_M_order_71 : decode b_M_order 71 = .ok (.getfield 19, 3) := by decide +kernel
theorem d_M_order_74 : decode b_M_order 74 = .ok (.iload_n 1, 1) := by decide +kernel
theorem d_M_order_75 : decode b_M_order 75 = .ok (.laload, 1) := by decide +kernel
theorem d_M_order_76 : decode b_M_order 76 = .ok (.iload 7, 2) := by decide +kernel
theorem d_M_order_78 : decode b_M_order 78 = .ok (.ifCond .eq 15, 3) := by decide +kernel
theorem d_M_order_81 : decode b_M_order 81 = .ok (.lload_n 3, 1) := by decide +kernel
theorem d_M_order_82 : decode b_M_order 82 = .ok (.lconst 0, 1) := by decide +kernel
theorem d_M_order_83 : decode b_M_order 83 = .ok (.lcmp, 1) := by decide +kernel
theorem d_M_order_84 : decode b_M_order 84 = .ok (.ifCond .eq 9, 3) := by decide +kernel
theorem d_M_order_87 : decode b_M_order 87 = .ok (.lload_n 3, 1) := by decide +kernel
theorem d_M_order_88 : decode b_M_order 88 = .ok (.lconst 1, 1) := by decide +kernel
theorem d_M_order_89 : decode b_M_order 89 = .ok (.lsub, 1) := by decide +kernel
theorem d_M_order_90 : decode b_M_order 90 = .ok (.goto 4, 3) := by decide +kernel
theorem d_M_order_93 : decode b_M_order 93 = .ok (.lload_n 3, 1) := by decide +kernel
theorem d_M_order_94 : decode b_M_order 94 = .ok (.invokestatic 61, 3) := by decide +kernel
theorem d_M_order_97 : decode b_M_order 97 = .ok (.lastore, 1) := by decide +kernel
theorem d_M_order_98 : decode b_M_order 98 = .ok (.aload_n 0, 1) := by decide +kernel
theorem d_M_order_99 : decode b_M_order 99 = .ok (.getfield 16, 3) := by decide +kernel
theorem d_M_order_102 : decode b_M_order 102 = .ok (.iload_n 2, 1) := by decide +kernel
theorem d_M_order_103 : decode b_M_order 103 = .ok (.aload_n 0, 1) := by decide +kernel
theorem d_M_order_104 : decode b_M_order 104 = .ok (.getfield 16, 3) := by decide +kernel
theorem d_M_order_107 : decode b_M_order 107 = .ok (.iload_n 2, 1) := by decide +kernel
theorem d_M_order_108 : decode b_M_order 108 = .ok (.laload, 1) := by decide +kernel
theorem d_M_order_109 : decode b_M_order 109 = .ok (.iload 7, 2) := by decide +kernel
theorem d_M_order_111 : decode b_M_order 111 = .ok (.ifCond .eq 19, 3) := by decide +kernel
theorem d_M_order_114 : decode b_M_order 114 = .ok (.lload 5, 2) := by decide +kernel
theorem d_M_order_116 : decode b_M_order 116 = .ok (.ldc2_w 49, 3) := by decide +kernel
theorem d_M_order_119 : decode b_M_order 119 = .ok (.lcmp, 1) := by decide +kernel
theorem d_M_order_120 : decode b_M_order 120 = .ok (.ifCond .eq 10, 3) := by decide +kernel
theorem d_M_order_123 : decode b_M_order 123 = .ok (.lload 5, 2) := by decide +kernel
theorem d_M_order_125 : decode b_M_order 125 = .ok (.lconst 1, 1) := by decide +kernel
theorem d_M_order_126 : decode b_M_order 126 = .ok (.ladd, 1) := by decide +kernel
theorem d_M_order_127 : decode b_M_order 127 = .ok (.goto 5, 3) := by decide +kernel
theorem d_M_order_130 : decode b_M_order 130 = .ok (.lload 5, 2) := by decide +kernel
theorem d_M_order_132 : decode b_M_order 132 = .ok (.invokestatic 58, 3) := by decide +kernel
theorem d_M_order_135 : decode b_M_order 135 = .ok (.lastore, 1) := by decide +kernel
theorem d_M_order_136 : decode b_M_order 136 = .ok (.return_, 1) := by decide +kernel
def f_M_order_135u (r0 : (Nat → VV)) (p1 : Nat) (p2 : Nat) (p3 : Int64) (p4 : Int64) (p5 : Bool) (r135n : (Nat → VV)) : (Nat → VV) := r135n
def f_M_order_132 (r0 : (Nat → VV)) (p1 : Nat) (p2 : Nat) (p3 : Int64) (p4 : Int64) (p5 : Bool) (s132_0 : Int64) (s132_1 : Int64) (r97n : (Nat → VV)) : (Nat → VV) := f_M_order_135u r0 p1 p2 p3 p4 p5 (u3 r97n p2 (f_M_larger s132_1 s132_0))
def f_M_order_130 (r0 : (Nat → VV)) (p1 : Nat) (p2 : Nat) (p3 : Int64) (p4 : Int64) (p5 : Bool) (s130_0 : Int64) (r97n : (Nat → VV)) : (Nat → VV) := f_M_order_132 r0 p1 p2 p3 p4 p5 p4 s130_0 r97n
def f_M_order_97u (r0 : (Nat → VV)) (p1 : Nat) (p2 : Nat) (p3 : Int64) (p4 : Int64) (p5 : Bool) (r97n : (Nat → VV)) : (Nat → VV) := (if p5 = true then (if p4 = (-1) then f_M_order_130 r0 p1 p2 p3 p4 p5 ((r97n p2).2.2.1) r97n else f_M_order_132 r0 p1 p2 p3 p4 p5 (p4 + (1 : Int64)) ((r97n p2).2.2.1) r97n) else f_M_order_130 r0 p1 p2 p3 p4 p5 ((r97n p2).2.2.1) r97n)
def f_M_order_94 (r0 : (Nat → VV)) (p1 : Nat) (p2 : Nat) (p3 : Int64) (p4 : Int64) (p5 : Bool) (s94_0 : Int64) (s94_1 : Int64) (r64n : (Nat → VV)) : (Nat → VV) := f_M_order_97u r0 p1 p2 p3 p4 p5 (u4 r64n p1 (f_M_lesser s94_1 s94_0))
def f_M_order_93 (r0 : (Nat → VV)) (p1 : Nat) (p2 : Nat) (p3 : Int64) (p4 : Int64) (p5 : Bool) (s93_0 : Int64) (r64n : (Nat → VV)) : (Nat → VV) := f_M_order_94 r0 p1 p2 p3 p4 p5 p3 s93_0 r64n
def f_M_order_64u (r0 : (Nat → VV)) (p1 : Nat) (p2 : Nat) (p3 : Int64) (p4 : Int64) (p5 : Bool) (r64n : (Nat → VV)) : (Nat → VV) := (if p5 = true then (if p3 = 0 then f_M_order_93 r0 p1 p2 p3 p4 p5 ((r64n p1).2.2.2.1) r64n else f_M_order_94 r0 p1 p2 p3 p4 p5 (p3 - (1 : Int64)) ((r64n p1).2.2.2.1) r64n) else f_M_order_93 r0 p1 p2 p3 p4 p5 ((r64n p1).2.2.2.1) r64n)
def f_M_order_64 (r0 : (Nat → VV)) (p1 : Nat) (p2 : Nat) (p3 : Int64) (p4 : Int64) (p5 : Bool) (s64_0 : Bool) (r30n : (Nat → VV)) : (Nat → VV) := f_M_order_64u r0 p1 p2 p3 p4 p5 (u7 r30n p2 s64_0)
def f_M_order_63 (r0 : (Nat → VV)) (p1 : Nat) (p2 : Nat) (p3 : Int64) (p4 : Int64) (p5 : Bool) (r30n : (Nat → VV)) : (Nat → VV) := f_M_order_64 r0 p1 p2 p3 p4 p5 false r30n
def f_M_order_59 (r0 : (Nat → VV)) (p1 : Nat) (p2 : Nat) (p3 : Int64) (p4 : Int64) (p5 : Bool) (r30n : (Nat → VV)) : (Nat → VV) := f_M_order_64 r0 p1 p2 p3 p4 p5 true r30n
def f_M_order_30u (r0 : (Nat → VV)) (p1 : Nat) (p2 : Nat) (p3 : Int64) (p4 : Int64) (p5 : Bool) (r30n : (Nat → VV)) : (Nat → VV) := (if ((r30n p2).2.2.2.2.2.2) = true then f_M_order_59 r0 p1 p2 p3 p4 p5 r30n else (if p5 = true then (if p4 = (-1) then f_M_order_59 r0 p1 p2 p3 p4 p5 r30n else f_M_order_63 r0 p1 p2 p3 p4 p5 r30n) else f_M_order_63 r0 p1 p2 p3 p4 p5 r30n))
def f_M_order_30 (r0 : (Nat → VV)) (p1 : Nat) (p2 : Nat) (p3 : Int64) (p4 : Int64) (p5 : Bool) (s30_0 : Bool) : (Nat → VV) := f_M_order_30u r0 p1 p2 p3 p4 p5 (u7 r0 p1 s30_0)
def f_M_order_29 (r0 : (Nat → VV)) (p1 : Nat) (p2 : Nat) (p3 : Int64) (p4 : Int64) (p5 : Bool) : (Nat → VV) := f_M_order_30 r0 p1 p2 p3 p4 p5 false
def f_M_order_25 (r0 : (Nat → VV)) (p1 : Nat) (p2 : Nat) (p3 : Int64) (p4 : Int64) (p5 : Bool) : (Nat → VV) := f_M_order_30 r0 p1 p2 p3 p4 p5 true
def f_M_order (r0 : (Nat → VV)) (p1 : Nat) (p2 : Nat) (p3 : Int64) (p4 : Int64) (p5 : Bool) : (Nat → VV) := (if ((r0 p1).2.2.2.2.2.2) = true then f_M_order_25 r0 p1 p2 p3 p4 p5 else (if p5 = true then (if p3 = 0 then f_M_order_25 r0 p1 p2 p3 p4 p5 else f_M_order_29 r0 p1 p2 p3 p4 p5) else f_M_order_29 r0 p1 p2 p3 p4 p5))
set_option maxRecDepth 100000 in
set_option maxHeartbeats 4000000 in
theorem c_M_order (l : Launch) (dC : Nat → ClassId) (dI : Nat → Nat → Nat) (ad : Nat → Nat) (cJ cZ : ClassId) (sz : Nat) (c0 : Int32) (r0 : (Nat → VV)) (w0 : (Nat → Int64)) (s0 : Int32) (p1 : Nat) (p2 : Nat) (p3 : Int64) (p4 : Int64) (p5 : Bool) (b1 : p1 < 24) (b2 : p2 < 24) : Met l y_M_order w_M_order ({ frames := 2, cells := 0, slots := 0, locals := 46 } : Room) (va_Pc [.ref (ad 0), .int (nI p1), .int (nI p2), .long (p3), .long (p4), .int (bI p5)] (nP (dC, dI) (mT cJ cZ) (mW ad cJ cZ c0 r0 w0 s0) sz)) (va_Qv (fun _ : Unit => True) (mB (dC, dI) (va_A (mW ad cJ cZ c0 r0 w0 s0) sz) (mW ad cJ cZ c0 (f_M_order r0 p1 p2 p3 p4 p5) w0 s0)) (va_A (mW ad cJ cZ c0 r0 w0 s0) sz)) 0 0 (va_A (mW ad cJ cZ c0 r0 w0 s0) sz) := by
  refine Met.ofW (cc := b_M_order) (maxL := 8) (ret := none) (by decide) rfl ?_
  intro p e s m args below meth c s₁ B hml hv
  obtain ⟨rfl, hsz, hP, hK, hD0⟩ := hv
  have hx := B.exec
  have hb := B.bytes
  have hr := B.returns
  have hts := atoms_spec (ws := w_M_order) B.pre
  have hG : ∀ w ∈ gM, w.before _ s = true := fun w h => hts w (List.mem_cons_of_mem _ h)
  have hown : s.vm.findClass R_M = some m.cls := findClass_of_methodNamed B.named
  have hlocks := B.notSynchronized
  subst hsz
  have hD := hD0.self (sz := s.heap.size)
  generalize hAe : va_A (mW ad cJ cZ c0 r0 w0 s0) s.heap.size = A at hD ⊢
  have hA : ∀ q : Nat, s.heap.size ≤ q → A q := fun q h => by rw [← hAe]; exact Or.inr h
  have hS : va_S A s.heap s.heap [] := va_S.rf
  have hl := lv_entry ([.ref (ad 0), .int (nI p1), .int (nI p2), .long (p3), .long (p4), .int (bI p5)]) (n := 8) (Nat.le_of_ble_eq_true rfl)
  rw [lg_entry_eq]
  generalize (lg_sl ([.ref (ad 0), .int (nI p1), .int (nI p2), .long (p3), .long (p4), .int (bI p5)]) ++ List.replicate (8 - (lg_sl ([.ref (ad 0), .int (nI p1), .int (nI p2), .long (p3), .long (p4), .int (bI p5)])).length) Slot.unset).toArray = ls at hl ⊢
  have hl : lv_has ls 8 [(0, .ref (ad 0)), (1, .int (nI p1)), (2, .int (nI p2)), (3, .long (p3)), (5, .long (p4)), (7, .int (bI p5))] := hl
  have K135u : ∀ (r135n : (Nat → VV)) (hj : f_M_order r0 p1 p2 p3 p4 p5 = f_M_order_135u r0 p1 p2 p3 p4 p5 r135n) (H : Heap) (locs : List Loc) (hP : va_P (dC, dI) classes (mW ad cJ cZ c0 r135n w0 s0) H) (hD : va_D A (mW ad cJ cZ c0 r135n w0 s0)) (hS : va_S A s.heap H locs) (ls : Array Slot) (hl : lv_has ls 8 []), W p l e (headSpec w_M_order ({ frames := 2, cells := 0, slots := 0, locals := 46 } : Room)).room s m ([.ref (ad 0), .int (nI p1), .int (nI p2), .long (p3), .long (p4), .int (bI p5)] : List Value).toArray below meth c H locs 0 0 (MQ below (va_Qv (fun _ : Unit => True) (mB (dC, dI) A (mW ad cJ cZ c0 (f_M_order r0 p1 p2 p3 p4 p5) w0 s0)) A) ([.ref (ad 0), .int (nI p1), .int (nI p2), .long (p3), .long (p4), .int (bI p5)] : List Value).toArray s 0 0 A) (F0 m 136 ls []) := by
    intro r135n hj H locs hP hD hS ls hl
    have fe : f_M_order r0 p1 p2 p3 p4 p5 = r135n := hj.trans rfl
    exact W.vret hx hb hr (fun t ht hW => ⟨⟨(), rfl, trivial, by rw [ht, fe]; exact hP, by rw [fe]; exact hD⟩, hS.F ht⟩) hS.2.2 d_M_order_136
  have K132 : ∀ (s132_0 : Int64) (s132_1 : Int64) (r97n : (Nat → VV)) (hj : f_M_order r0 p1 p2 p3 p4 p5 = f_M_order_132 r0 p1 p2 p3 p4 p5 s132_0 s132_1 r97n) (H : Heap) (locs : List Loc) (hP : va_P (dC, dI) classes (mW ad cJ cZ c0 r97n w0 s0) H) (hD : va_D A (mW ad cJ cZ c0 r97n w0 s0)) (hS : va_S A s.heap H locs) (ls : Array Slot) (hl : lv_has ls 8 []), W p l e (headSpec w_M_order ({ frames := 2, cells := 0, slots := 0, locals := 46 } : Room)).room s m ([.ref (ad 0), .int (nI p1), .int (nI p2), .long (p3), .long (p4), .int (bI p5)] : List Value).toArray below meth c H locs 0 0 (MQ below (va_Qv (fun _ : Unit => True) (mB (dC, dI) A (mW ad cJ cZ c0 (f_M_order r0 p1 p2 p3 p4 p5) w0 s0)) A) ([.ref (ad 0), .int (nI p1), .int (nI p2), .long (p3), .long (p4), .int (bI p5)] : List Value).toArray s 0 0 A) (F0 m 132 ls [.long (s132_0), .long (s132_1), .int (nI p2), .ref (ad 3)]) := by
    intro s132_0 s132_1 r97n hj H locs hP hD hS ls hl
    refine rc_l (W.runS (As := [.long (s132_1), .long (s132_0)]) (rest := [.int (nI p2), .ref (ad 3)]) ⟨hx, hb, hml, hown, hts⟩ (c_M_larger l s132_1 s132_0) (va_cwS 2 hts (gxS gx81 gx82 gx0 gx83) rfl rfl rfl (by decide +kernel) ⟨(Nat.le_of_ble_eq_true rfl), (Nat.le_of_ble_eq_true rfl)⟩) ⟨bl0, fun U hU hW => ⟨rfl, trivial⟩⟩ rfl rfl hl.1 rfl (lv_room (Nat.le_of_ble_eq_true rfl)) d_M_order_132 ⟨Nat.zero_le _, Nat.zero_le _⟩) ?_
    refine ms_3 (P := p2) (x := f_M_larger s132_1 s132_0) hx hb hK hP hD hS rfl b2 d_M_order_135 (fun H locs hP hD hS => ?_)
    obtain ⟨r135n, er135n⟩ : ∃ z, z = u3 r97n p2 (f_M_larger s132_1 s132_0) := ⟨_, rfl⟩
    rw [← er135n] at hP hD
    refine K135u r135n (Eq.trans (hj.trans rfl) (congrArg (fun r135n => f_M_order_135u r0 p1 p2 p3 p4 p5 r135n) er135n.symm)) H locs ?_ ?_ hS ls (lv_sub hl [] rfl)
    · with_reducible exact hP
    · with_reducible exact hD
  have K130 : ∀ (s130_0 : Int64) (r97n : (Nat → VV)) (hj : f_M_order r0 p1 p2 p3 p4 p5 = f_M_order_130 r0 p1 p2 p3 p4 p5 s130_0 r97n) (H : Heap) (locs : List Loc) (hP : va_P (dC, dI) classes (mW ad cJ cZ c0 r97n w0 s0) H) (hD : va_D A (mW ad cJ cZ c0 r97n w0 s0)) (hS : va_S A s.heap H locs) (ls : Array Slot) (hl : lv_has ls 8 [(5, .long (p4))]), W p l e (headSpec w_M_order ({ frames := 2, cells := 0, slots := 0, locals := 46 } : Room)).room s m ([.ref (ad 0), .int (nI p1), .int (nI p2), .long (p3), .long (p4), .int (bI p5)] : List Value).toArray below meth c H locs 0 0 (MQ below (va_Qv (fun _ : Unit => True) (mB (dC, dI) A (mW ad cJ cZ c0 (f_M_order r0 p1 p2 p3 p4 p5) w0 s0)) A) ([.ref (ad 0), .int (nI p1), .int (nI p2), .long (p3), .long (p4), .int (bI p5)] : List Value).toArray s 0 0 A) (F0 m 130 ls [.long (s130_0), .int (nI p2), .ref (ad 3)]) := by
    intro s130_0 r97n hj H locs hP hD hS ls hl
    refine lv_lload hx hb d_M_order_130 (lv_at hl 0 rfl) ?_
    refine K132 p4 s130_0 r97n (hj.trans rfl) H locs ?_ ?_ hS ls (lv_sub hl [] rfl)
    · with_reducible exact hP
    · with_reducible exact hD
  have K97u : ∀ (r97n : (Nat → VV)) (hj : f_M_order r0 p1 p2 p3 p4 p5 = f_M_order_97u r0 p1 p2 p3 p4 p5 r97n) (H : Heap) (locs : List Loc) (hP : va_P (dC, dI) classes (mW ad cJ cZ c0 r97n w0 s0) H) (hD : va_D A (mW ad cJ cZ c0 r97n w0 s0)) (hS : va_S A s.heap H locs) (ls : Array Slot) (hl : lv_has ls 8 [(0, .ref (ad 0)), (2, .int (nI p2)), (5, .long (p4)), (7, .int (bI p5))]), W p l e (headSpec w_M_order ({ frames := 2, cells := 0, slots := 0, locals := 46 } : Room)).room s m ([.ref (ad 0), .int (nI p1), .int (nI p2), .long (p3), .long (p4), .int (bI p5)] : List Value).toArray below meth c H locs 0 0 (MQ below (va_Qv (fun _ : Unit => True) (mB (dC, dI) A (mW ad cJ cZ c0 (f_M_order r0 p1 p2 p3 p4 p5) w0 s0)) A) ([.ref (ad 0), .int (nI p1), .int (nI p2), .long (p3), .long (p4), .int (bI p5)] : List Value).toArray s 0 0 A) (F0 m 98 ls []) := by
    intro r97n hj H locs hP hD hS ls hl
    refine lv_aload_n hx hb d_M_order_98 rfl (lv_at hl 0 rfl) ?_
    refine va_get (D := (dC, dI)) (ci := 2) (v := .ref (ad 3)) (C := R_M) (T := F_M) (N := 10) hx hb hts (fun w h => List.mem_cons_of_mem _ (uw_M w h)) hown hK hP 0 rfl rfl 3 (by decide) (hG (.fieldLink R_M 16 "ValueSieveModel" "low" "[J") gx12) (fun _ h9 => h9) rfl d_M_order_99 ?_
    refine lv_iload_n hx hb d_M_order_102 rfl (lv_at hl 1 rfl) ?_
    refine lv_aload_n hx hb d_M_order_103 rfl (lv_at hl 0 rfl) ?_
    refine va_get (D := (dC, dI)) (ci := 2) (v := .ref (ad 3)) (C := R_M) (T := F_M) (N := 10) hx hb hts (fun w h => List.mem_cons_of_mem _ (uw_M w h)) hown hK hP 0 rfl rfl 3 (by decide) (hG (.fieldLink R_M 16 "ValueSieveModel" "low" "[J") gx12) (fun _ h9 => h9) rfl d_M_order_104 ?_
    refine lv_iload_n hx hb d_M_order_107 rfl (lv_at hl 1 rfl) ?_
    refine ml_3 (P := p2) hx hb hK hP rfl b2 d_M_order_108 ?_
    refine lv_iload hx hb d_M_order_109 (lv_at hl 3 rfl) ?_
    refine wz_eq (tgt := 130) hx hb d_M_order_111 (by decide) (fun e1_130 => ?_) (fun e1_130 => ?_)
    · refine K130 ((r97n p2).2.2.1) r97n (hj.trans (by unfold f_M_order_97u; first | with_reducible exact if_neg e1_130 | exact if_neg e1_130)) H locs ?_ ?_ hS ls (lv_sub hl [2] rfl)
      · with_reducible exact hP
      · with_reducible exact hD
    · refine lv_lload hx hb d_M_order_114 (lv_at hl 2 rfl) ?_
      refine lv_ldc2 (v := -1) hx hb hown (hG (.constantLong R_M 49 (-1)) gx42) d_M_order_116 ?_
      refine wl_eq (tgt := 130) hx hb d_M_order_119 d_M_order_120 (by decide) (fun e2_130 => ?_) (fun e2_130 => ?_)
      · refine K130 ((r97n p2).2.2.1) r97n (hj.trans (by unfold f_M_order_97u; first | with_reducible exact (if_pos e1_130).trans (if_pos e2_130) | exact (if_pos e1_130).trans (if_pos e2_130))) H locs ?_ ?_ hS ls (lv_sub hl [2] rfl)
        · with_reducible exact hP
        · with_reducible exact hD
      · refine lv_lload hx hb d_M_order_123 (lv_at hl 2 rfl) ?_
        refine lv_lconst (v := 1) hx hb d_M_order_125 (by decide) ?_
        refine lv_ladd hx hb d_M_order_126 ?_
        refine lv_goto (tgt := 132) hx hb d_M_order_127 (by decide) ?_
        refine K132 (p4 + (1 : Int64)) ((r97n p2).2.2.1) r97n (hj.trans (by unfold f_M_order_97u; first | with_reducible exact (if_pos e1_130).trans (if_neg e2_130) | exact (if_pos e1_130).trans (if_neg e2_130))) H locs ?_ ?_ hS ls (lv_sub hl [] rfl)
        · with_reducible exact hP
        · with_reducible exact hD
  have K94 : ∀ (s94_0 : Int64) (s94_1 : Int64) (r64n : (Nat → VV)) (hj : f_M_order r0 p1 p2 p3 p4 p5 = f_M_order_94 r0 p1 p2 p3 p4 p5 s94_0 s94_1 r64n) (H : Heap) (locs : List Loc) (hP : va_P (dC, dI) classes (mW ad cJ cZ c0 r64n w0 s0) H) (hD : va_D A (mW ad cJ cZ c0 r64n w0 s0)) (hS : va_S A s.heap H locs) (ls : Array Slot) (hl : lv_has ls 8 [(0, .ref (ad 0)), (2, .int (nI p2)), (5, .long (p4)), (7, .int (bI p5))]), W p l e (headSpec w_M_order ({ frames := 2, cells := 0, slots := 0, locals := 46 } : Room)).room s m ([.ref (ad 0), .int (nI p1), .int (nI p2), .long (p3), .long (p4), .int (bI p5)] : List Value).toArray below meth c H locs 0 0 (MQ below (va_Qv (fun _ : Unit => True) (mB (dC, dI) A (mW ad cJ cZ c0 (f_M_order r0 p1 p2 p3 p4 p5) w0 s0)) A) ([.ref (ad 0), .int (nI p1), .int (nI p2), .long (p3), .long (p4), .int (bI p5)] : List Value).toArray s 0 0 A) (F0 m 94 ls [.long (s94_0), .long (s94_1), .int (nI p1), .ref (ad 4)]) := by
    intro s94_0 s94_1 r64n hj H locs hP hD hS ls hl
    refine rc_l (W.runS (As := [.long (s94_1), .long (s94_0)]) (rest := [.int (nI p1), .ref (ad 4)]) ⟨hx, hb, hml, hown, hts⟩ (c_M_lesser l s94_1 s94_0) (va_cwS 2 hts (gxS gx84 gx85 gx0 gx86) rfl rfl rfl (by decide +kernel) ⟨(Nat.le_of_ble_eq_true rfl), (Nat.le_of_ble_eq_true rfl)⟩) ⟨bl0, fun U hU hW => ⟨rfl, trivial⟩⟩ rfl rfl hl.1 rfl (lv_room (Nat.le_of_ble_eq_true rfl)) d_M_order_94 ⟨Nat.zero_le _, Nat.zero_le _⟩) ?_
    refine ms_4 (P := p1) (x := f_M_lesser s94_1 s94_0) hx hb hK hP hD hS rfl b1 d_M_order_97 (fun H locs hP hD hS => ?_)
    obtain ⟨r97n, er97n⟩ : ∃ z, z = u4 r64n p1 (f_M_lesser s94_1 s94_0) := ⟨_, rfl⟩
    rw [← er97n] at hP hD
    refine K97u r97n (Eq.trans (hj.trans rfl) (congrArg (fun r97n => f_M_order_97u r0 p1 p2 p3 p4 p5 r97n) er97n.symm)) H locs ?_ ?_ hS ls (lv_sub hl [0, 1, 2, 3] rfl)
    · with_reducible exact hP
    · with_reducible exact hD
  have K93 : ∀ (s93_0 : Int64) (r64n : (Nat → VV)) (hj : f_M_order r0 p1 p2 p3 p4 p5 = f_M_order_93 r0 p1 p2 p3 p4 p5 s93_0 r64n) (H : Heap) (locs : List Loc) (hP : va_P (dC, dI) classes (mW ad cJ cZ c0 r64n w0 s0) H) (hD : va_D A (mW ad cJ cZ c0 r64n w0 s0)) (hS : va_S A s.heap H locs) (ls : Array Slot) (hl : lv_has ls 8 [(0, .ref (ad 0)), (2, .int (nI p2)), (3, .long (p3)), (5, .long (p4)), (7, .int (bI p5))]), W p l e (headSpec w_M_order ({ frames := 2, cells := 0, slots := 0, locals := 46 } : Room)).room s m ([.ref (ad 0), .int (nI p1), .int (nI p2), .long (p3), .long (p4), .int (bI p5)] : List Value).toArray below meth c H locs 0 0 (MQ below (va_Qv (fun _ : Unit => True) (mB (dC, dI) A (mW ad cJ cZ c0 (f_M_order r0 p1 p2 p3 p4 p5) w0 s0)) A) ([.ref (ad 0), .int (nI p1), .int (nI p2), .long (p3), .long (p4), .int (bI p5)] : List Value).toArray s 0 0 A) (F0 m 93 ls [.long (s93_0), .int (nI p1), .ref (ad 4)]) := by
    intro s93_0 r64n hj H locs hP hD hS ls hl
    refine lv_lload_n hx hb d_M_order_93 rfl (lv_at hl 2 rfl) ?_
    refine K94 p3 s93_0 r64n (hj.trans rfl) H locs ?_ ?_ hS ls (lv_sub hl [0, 1, 3, 4] rfl)
    · with_reducible exact hP
    · with_reducible exact hD
  have K64u : ∀ (r64n : (Nat → VV)) (hj : f_M_order r0 p1 p2 p3 p4 p5 = f_M_order_64u r0 p1 p2 p3 p4 p5 r64n) (H : Heap) (locs : List Loc) (hP : va_P (dC, dI) classes (mW ad cJ cZ c0 r64n w0 s0) H) (hD : va_D A (mW ad cJ cZ c0 r64n w0 s0)) (hS : va_S A s.heap H locs) (ls : Array Slot) (hl : lv_has ls 8 [(0, .ref (ad 0)), (1, .int (nI p1)), (2, .int (nI p2)), (3, .long (p3)), (5, .long (p4)), (7, .int (bI p5))]), W p l e (headSpec w_M_order ({ frames := 2, cells := 0, slots := 0, locals := 46 } : Room)).room s m ([.ref (ad 0), .int (nI p1), .int (nI p2), .long (p3), .long (p4), .int (bI p5)] : List Value).toArray below meth c H locs 0 0 (MQ below (va_Qv (fun _ : Unit => True) (mB (dC, dI) A (mW ad cJ cZ c0 (f_M_order r0 p1 p2 p3 p4 p5) w0 s0)) A) ([.ref (ad 0), .int (nI p1), .int (nI p2), .long (p3), .long (p4), .int (bI p5)] : List Value).toArray s 0 0 A) (F0 m 65 ls []) := by
    intro r64n hj H locs hP hD hS ls hl
    refine lv_aload_n hx hb d_M_order_65 rfl (lv_at hl 0 rfl) ?_
    refine va_get (D := (dC, dI)) (ci := 2) (v := .ref (ad 4)) (C := R_M) (T := F_M) (N := 10) hx hb hts (fun w h => List.mem_cons_of_mem _ (uw_M w h)) hown hK hP 0 rfl rfl 4 (by decide) (hG (.fieldLink R_M 19 "ValueSieveModel" "high" "[J") gx13) (fun _ h9 => h9) rfl d_M_order_66 ?_
    refine lv_iload_n hx hb d_M_order_69 rfl (lv_at hl 1 rfl) ?_
    refine lv_aload_n hx hb d_M_order_70 rfl (lv_at hl 0 rfl) ?_
    refine va_get (D := (dC, dI)) (ci := 2) (v := .ref (ad 4)) (C := R_M) (T := F_M) (N := 10) hx hb hts (fun w h => List.mem_cons_of_mem _ (uw_M w h)) hown hK hP 0 rfl rfl 4 (by decide) (hG (.fieldLink R_M 19 "ValueSieveModel" "high" "[J") gx13) (fun _ h9 => h9) rfl d_M_order_71 ?_
    refine lv_iload_n hx hb d_M_order_74 rfl (lv_at hl 1 rfl) ?_
    refine ml_4 (P := p1) hx hb hK hP rfl b1 d_M_order_75 ?_
    refine lv_iload hx hb d_M_order_76 (lv_at hl 5 rfl) ?_
    refine wz_eq (tgt := 93) hx hb d_M_order_78 (by decide) (fun e1_93 => ?_) (fun e1_93 => ?_)
    · refine K93 ((r64n p1).2.2.2.1) r64n (hj.trans (by unfold f_M_order_64u; first | with_reducible exact if_neg e1_93 | exact if_neg e1_93)) H locs ?_ ?_ hS ls (lv_sub hl [0, 2, 3, 4, 5] rfl)
      · with_reducible exact hP
      · with_reducible exact hD
    · refine lv_lload_n hx hb d_M_order_81 rfl (lv_at hl 3 rfl) ?_
      refine lv_lconst (v := 0) hx hb d_M_order_82 (by decide) ?_
      refine wl_eq (tgt := 93) hx hb d_M_order_83 d_M_order_84 (by decide) (fun e2_93 => ?_) (fun e2_93 => ?_)
      · refine K93 ((r64n p1).2.2.2.1) r64n (hj.trans (by unfold f_M_order_64u; first | with_reducible exact (if_pos e1_93).trans (if_pos e2_93) | exact (if_pos e1_93).trans (if_pos e2_93))) H locs ?_ ?_ hS ls (lv_sub hl [0, 2, 3, 4, 5] rfl)
        · with_reducible exact hP
        · with_reducible exact hD
      · refine lv_lload_n hx hb d_M_order_87 rfl (lv_at hl 3 rfl) ?_
        refine lv_lconst (v := 1) hx hb d_M_order_88 (by decide) ?_
        refine lv_lsub hx hb d_M_order_89 ?_
        refine lv_goto (tgt := 94) hx hb d_M_order_90 (by decide) ?_
        refine K94 (p3 - (1 : Int64)) ((r64n p1).2.2.2.1) r64n (hj.trans (by unfold f_M_order_64u; first | with_reducible exact (if_pos e1_93).trans (if_neg e2_93) | exact (if_pos e1_93).trans (if_neg e2_93))) H locs ?_ ?_ hS ls (lv_sub hl [0, 2, 4, 5] rfl)
        · with_reducible exact hP
        · with_reducible exact hD
  have K64 : ∀ (s64_0 : Bool) (r30n : (Nat → VV)) (hj : f_M_order r0 p1 p2 p3 p4 p5 = f_M_order_64 r0 p1 p2 p3 p4 p5 s64_0 r30n) (H : Heap) (locs : List Loc) (hP : va_P (dC, dI) classes (mW ad cJ cZ c0 r30n w0 s0) H) (hD : va_D A (mW ad cJ cZ c0 r30n w0 s0)) (hS : va_S A s.heap H locs) (ls : Array Slot) (hl : lv_has ls 8 [(0, .ref (ad 0)), (1, .int (nI p1)), (2, .int (nI p2)), (3, .long (p3)), (5, .long (p4)), (7, .int (bI p5))]), W p l e (headSpec w_M_order ({ frames := 2, cells := 0, slots := 0, locals := 46 } : Room)).room s m ([.ref (ad 0), .int (nI p1), .int (nI p2), .long (p3), .long (p4), .int (bI p5)] : List Value).toArray below meth c H locs 0 0 (MQ below (va_Qv (fun _ : Unit => True) (mB (dC, dI) A (mW ad cJ cZ c0 (f_M_order r0 p1 p2 p3 p4 p5) w0 s0)) A) ([.ref (ad 0), .int (nI p1), .int (nI p2), .long (p3), .long (p4), .int (bI p5)] : List Value).toArray s 0 0 A) (F0 m 64 ls [.int (bI s64_0), .int (nI p2), .ref (ad 7)]) := by
    intro s64_0 r30n hj H locs hP hD hS ls hl
    refine ms_7 (P := p2) (x := s64_0) hx hb hK hP hD hS rfl b2 d_M_order_64 (fun H locs hP hD hS => ?_)
    obtain ⟨r64n, er64n⟩ : ∃ z, z = u7 r30n p2 s64_0 := ⟨_, rfl⟩
    rw [← er64n] at hP hD
    refine K64u r64n (Eq.trans (hj.trans rfl) (congrArg (fun r64n => f_M_order_64u r0 p1 p2 p3 p4 p5 r64n) er64n.symm)) H locs ?_ ?_ hS ls (lv_sub hl [0, 1, 2, 3, 4, 5] rfl)
    · with_reducible exact hP
    · with_reducible exact hD
  have K63 : ∀ (r30n : (Nat → VV)) (hj : f_M_order r0 p1 p2 p3 p4 p5 = f_M_order_63 r0 p1 p2 p3 p4 p5 r30n) (H : Heap) (locs : List Loc) (hP : va_P (dC, dI) classes (mW ad cJ cZ c0 r30n w0 s0) H) (hD : va_D A (mW ad cJ cZ c0 r30n w0 s0)) (hS : va_S A s.heap H locs) (ls : Array Slot) (hl : lv_has ls 8 [(0, .ref (ad 0)), (1, .int (nI p1)), (2, .int (nI p2)), (3, .long (p3)), (5, .long (p4)), (7, .int (bI p5))]), W p l e (headSpec w_M_order ({ frames := 2, cells := 0, slots := 0, locals := 46 } : Room)).room s m ([.ref (ad 0), .int (nI p1), .int (nI p2), .long (p3), .long (p4), .int (bI p5)] : List Value).toArray below meth c H locs 0 0 (MQ below (va_Qv (fun _ : Unit => True) (mB (dC, dI) A (mW ad cJ cZ c0 (f_M_order r0 p1 p2 p3 p4 p5) w0 s0)) A) ([.ref (ad 0), .int (nI p1), .int (nI p2), .long (p3), .long (p4), .int (bI p5)] : List Value).toArray s 0 0 A) (F0 m 63 ls [.int (nI p2), .ref (ad 7)]) := by
    intro r30n hj H locs hP hD hS ls hl
    refine lv_iconst (v := 0) hx hb d_M_order_63 (by decide) ?_
    refine K64 false r30n (hj.trans rfl) H locs ?_ ?_ hS ls (lv_sub hl [0, 1, 2, 3, 4, 5] rfl)
    · with_reducible exact hP
    · with_reducible exact hD
  have K59 : ∀ (r30n : (Nat → VV)) (hj : f_M_order r0 p1 p2 p3 p4 p5 = f_M_order_59 r0 p1 p2 p3 p4 p5 r30n) (H : Heap) (locs : List Loc) (hP : va_P (dC, dI) classes (mW ad cJ cZ c0 r30n w0 s0) H) (hD : va_D A (mW ad cJ cZ c0 r30n w0 s0)) (hS : va_S A s.heap H locs) (ls : Array Slot) (hl : lv_has ls 8 [(0, .ref (ad 0)), (1, .int (nI p1)), (2, .int (nI p2)), (3, .long (p3)), (5, .long (p4)), (7, .int (bI p5))]), W p l e (headSpec w_M_order ({ frames := 2, cells := 0, slots := 0, locals := 46 } : Room)).room s m ([.ref (ad 0), .int (nI p1), .int (nI p2), .long (p3), .long (p4), .int (bI p5)] : List Value).toArray below meth c H locs 0 0 (MQ below (va_Qv (fun _ : Unit => True) (mB (dC, dI) A (mW ad cJ cZ c0 (f_M_order r0 p1 p2 p3 p4 p5) w0 s0)) A) ([.ref (ad 0), .int (nI p1), .int (nI p2), .long (p3), .long (p4), .int (bI p5)] : List Value).toArray s 0 0 A) (F0 m 59 ls [.int (nI p2), .ref (ad 7)]) := by
    intro r30n hj H locs hP hD hS ls hl
    refine lv_iconst (v := 1) hx hb d_M_order_59 (by decide) ?_
    refine lv_goto (tgt := 64) hx hb d_M_order_60 (by decide) ?_
    refine K64 true r30n (hj.trans rfl) H locs ?_ ?_ hS ls (lv_sub hl [0, 1, 2, 3, 4, 5] rfl)
    · with_reducible exact hP
    · with_reducible exact hD
  have K30u : ∀ (r30n : (Nat → VV)) (hj : f_M_order r0 p1 p2 p3 p4 p5 = f_M_order_30u r0 p1 p2 p3 p4 p5 r30n) (H : Heap) (locs : List Loc) (hP : va_P (dC, dI) classes (mW ad cJ cZ c0 r30n w0 s0) H) (hD : va_D A (mW ad cJ cZ c0 r30n w0 s0)) (hS : va_S A s.heap H locs) (ls : Array Slot) (hl : lv_has ls 8 [(0, .ref (ad 0)), (1, .int (nI p1)), (2, .int (nI p2)), (3, .long (p3)), (5, .long (p4)), (7, .int (bI p5))]), W p l e (headSpec w_M_order ({ frames := 2, cells := 0, slots := 0, locals := 46 } : Room)).room s m ([.ref (ad 0), .int (nI p1), .int (nI p2), .long (p3), .long (p4), .int (bI p5)] : List Value).toArray below meth c H locs 0 0 (MQ below (va_Qv (fun _ : Unit => True) (mB (dC, dI) A (mW ad cJ cZ c0 (f_M_order r0 p1 p2 p3 p4 p5) w0 s0)) A) ([.ref (ad 0), .int (nI p1), .int (nI p2), .long (p3), .long (p4), .int (bI p5)] : List Value).toArray s 0 0 A) (F0 m 31 ls []) := by
    intro r30n hj H locs hP hD hS ls hl
    refine lv_aload_n hx hb d_M_order_31 rfl (lv_at hl 0 rfl) ?_
    refine va_get (D := (dC, dI)) (ci := 2) (v := .ref (ad 7)) (C := R_M) (T := F_M) (N := 10) hx hb hts (fun w h => List.mem_cons_of_mem _ (uw_M w h)) hown hK hP 0 rfl rfl 7 (by decide) (hG (.fieldLink R_M 28 "ValueSieveModel" "empty" "[Z") gx16) (fun _ h9 => h9) rfl d_M_order_32 ?_
    refine lv_iload_n hx hb d_M_order_35 rfl (lv_at hl 2 rfl) ?_
    refine lv_aload_n hx hb d_M_order_36 rfl (lv_at hl 0 rfl) ?_
    refine va_get (D := (dC, dI)) (ci := 2) (v := .ref (ad 7)) (C := R_M) (T := F_M) (N := 10) hx hb hts (fun w h => List.mem_cons_of_mem _ (uw_M w h)) hown hK hP 0 rfl rfl 7 (by decide) (hG (.fieldLink R_M 28 "ValueSieveModel" "empty" "[Z") gx16) (fun _ h9 => h9) rfl d_M_order_37 ?_
    refine lv_iload_n hx hb d_M_order_40 rfl (lv_at hl 2 rfl) ?_
    refine ml_7 (P := p2) hx hb hK hP rfl b2 d_M_order_41 ?_
    refine wz_ne (tgt := 59) hx hb d_M_order_42 (by decide) (fun e1_59 => ?_) (fun e1_59 => ?_)
    · refine K59 r30n (hj.trans (by unfold f_M_order_30u; first | with_reducible exact if_pos e1_59 | exact if_pos e1_59)) H locs ?_ ?_ hS ls (lv_sub hl [0, 1, 2, 3, 4, 5] rfl)
      · with_reducible exact hP
      · with_reducible exact hD
    · refine lv_iload hx hb d_M_order_45 (lv_at hl 5 rfl) ?_
      refine wz_eq (tgt := 63) hx hb d_M_order_47 (by decide) (fun e2_63 => ?_) (fun e2_63 => ?_)
      · refine K63 r30n (hj.trans (by unfold f_M_order_30u; first | with_reducible exact (if_neg e1_59).trans (if_neg e2_63) | exact (if_neg e1_59).trans (if_neg e2_63))) H locs ?_ ?_ hS ls (lv_sub hl [0, 1, 2, 3, 4, 5] rfl)
        · with_reducible exact hP
        · with_reducible exact hD
      · refine lv_lload hx hb d_M_order_50 (lv_at hl 4 rfl) ?_
        refine lv_ldc2 (v := -1) hx hb hown (hG (.constantLong R_M 49 (-1)) gx42) d_M_order_52 ?_
        refine wl_ne (tgt := 63) hx hb d_M_order_55 d_M_order_56 (by decide) (fun e3_63 => ?_) (fun e3_63 => ?_)
        · refine K63 r30n (hj.trans (by unfold f_M_order_30u; first | with_reducible exact (if_neg e1_59).trans ((if_pos e2_63).trans (if_neg e3_63)) | exact (if_neg e1_59).trans ((if_pos e2_63).trans (if_neg e3_63)))) H locs ?_ ?_ hS ls (lv_sub hl [0, 1, 2, 3, 4, 5] rfl)
          · with_reducible exact hP
          · with_reducible exact hD
        · refine K59 r30n (hj.trans (by unfold f_M_order_30u; first | with_reducible exact (if_neg e1_59).trans ((if_pos e2_63).trans (if_pos e3_63)) | exact (if_neg e1_59).trans ((if_pos e2_63).trans (if_pos e3_63)))) H locs ?_ ?_ hS ls (lv_sub hl [0, 1, 2, 3, 4, 5] rfl)
          · with_reducible exact hP
          · with_reducible exact hD
  have K30 : ∀ (s30_0 : Bool) (hj : f_M_order r0 p1 p2 p3 p4 p5 = f_M_order_30 r0 p1 p2 p3 p4 p5 s30_0) (H : Heap) (locs : List Loc) (hP : va_P (dC, dI) classes (mW ad cJ cZ c0 r0 w0 s0) H) (hD : va_D A (mW ad cJ cZ c0 r0 w0 s0)) (hS : va_S A s.heap H locs) (ls : Array Slot) (hl : lv_has ls 8 [(0, .ref (ad 0)), (1, .int (nI p1)), (2, .int (nI p2)), (3, .long (p3)), (5, .long (p4)), (7, .int (bI p5))]), W p l e (headSpec w_M_order ({ frames := 2, cells := 0, slots := 0, locals := 46 } : Room)).room s m ([.ref (ad 0), .int (nI p1), .int (nI p2), .long (p3), .long (p4), .int (bI p5)] : List Value).toArray below meth c H locs 0 0 (MQ below (va_Qv (fun _ : Unit => True) (mB (dC, dI) A (mW ad cJ cZ c0 (f_M_order r0 p1 p2 p3 p4 p5) w0 s0)) A) ([.ref (ad 0), .int (nI p1), .int (nI p2), .long (p3), .long (p4), .int (bI p5)] : List Value).toArray s 0 0 A) (F0 m 30 ls [.int (bI s30_0), .int (nI p1), .ref (ad 7)]) := by
    intro s30_0 hj H locs hP hD hS ls hl
    refine ms_7 (P := p1) (x := s30_0) hx hb hK hP hD hS rfl b1 d_M_order_30 (fun H locs hP hD hS => ?_)
    obtain ⟨r30n, er30n⟩ : ∃ z, z = u7 r0 p1 s30_0 := ⟨_, rfl⟩
    rw [← er30n] at hP hD
    refine K30u r30n (Eq.trans (hj.trans rfl) (congrArg (fun r30n => f_M_order_30u r0 p1 p2 p3 p4 p5 r30n) er30n.symm)) H locs ?_ ?_ hS ls (lv_sub hl [0, 1, 2, 3, 4, 5] rfl)
    · with_reducible exact hP
    · with_reducible exact hD
  have K29 : ∀ (hj : f_M_order r0 p1 p2 p3 p4 p5 = f_M_order_29 r0 p1 p2 p3 p4 p5) (H : Heap) (locs : List Loc) (hP : va_P (dC, dI) classes (mW ad cJ cZ c0 r0 w0 s0) H) (hD : va_D A (mW ad cJ cZ c0 r0 w0 s0)) (hS : va_S A s.heap H locs) (ls : Array Slot) (hl : lv_has ls 8 [(0, .ref (ad 0)), (1, .int (nI p1)), (2, .int (nI p2)), (3, .long (p3)), (5, .long (p4)), (7, .int (bI p5))]), W p l e (headSpec w_M_order ({ frames := 2, cells := 0, slots := 0, locals := 46 } : Room)).room s m ([.ref (ad 0), .int (nI p1), .int (nI p2), .long (p3), .long (p4), .int (bI p5)] : List Value).toArray below meth c H locs 0 0 (MQ below (va_Qv (fun _ : Unit => True) (mB (dC, dI) A (mW ad cJ cZ c0 (f_M_order r0 p1 p2 p3 p4 p5) w0 s0)) A) ([.ref (ad 0), .int (nI p1), .int (nI p2), .long (p3), .long (p4), .int (bI p5)] : List Value).toArray s 0 0 A) (F0 m 29 ls [.int (nI p1), .ref (ad 7)]) := by
    intro hj H locs hP hD hS ls hl
    refine lv_iconst (v := 0) hx hb d_M_order_29 (by decide) ?_
    refine K30 false (hj.trans rfl) H locs ?_ ?_ hS ls (lv_sub hl [0, 1, 2, 3, 4, 5] rfl)
    · with_reducible exact hP
    · with_reducible exact hD
  have K25 : ∀ (hj : f_M_order r0 p1 p2 p3 p4 p5 = f_M_order_25 r0 p1 p2 p3 p4 p5) (H : Heap) (locs : List Loc) (hP : va_P (dC, dI) classes (mW ad cJ cZ c0 r0 w0 s0) H) (hD : va_D A (mW ad cJ cZ c0 r0 w0 s0)) (hS : va_S A s.heap H locs) (ls : Array Slot) (hl : lv_has ls 8 [(0, .ref (ad 0)), (1, .int (nI p1)), (2, .int (nI p2)), (3, .long (p3)), (5, .long (p4)), (7, .int (bI p5))]), W p l e (headSpec w_M_order ({ frames := 2, cells := 0, slots := 0, locals := 46 } : Room)).room s m ([.ref (ad 0), .int (nI p1), .int (nI p2), .long (p3), .long (p4), .int (bI p5)] : List Value).toArray below meth c H locs 0 0 (MQ below (va_Qv (fun _ : Unit => True) (mB (dC, dI) A (mW ad cJ cZ c0 (f_M_order r0 p1 p2 p3 p4 p5) w0 s0)) A) ([.ref (ad 0), .int (nI p1), .int (nI p2), .long (p3), .long (p4), .int (bI p5)] : List Value).toArray s 0 0 A) (F0 m 25 ls [.int (nI p1), .ref (ad 7)]) := by
    intro hj H locs hP hD hS ls hl
    refine lv_iconst (v := 1) hx hb d_M_order_25 (by decide) ?_
    refine lv_goto (tgt := 30) hx hb d_M_order_26 (by decide) ?_
    refine K30 true (hj.trans rfl) H locs ?_ ?_ hS ls (lv_sub hl [0, 1, 2, 3, 4, 5] rfl)
    · with_reducible exact hP
    · with_reducible exact hD
  refine lv_aload_n hx hb d_M_order_0 rfl (lv_at hl 0 rfl) ?_
  refine va_get (D := (dC, dI)) (ci := 2) (v := .ref (ad 7)) (C := R_M) (T := F_M) (N := 10) hx hb hts (fun w h => List.mem_cons_of_mem _ (uw_M w h)) hown hK hP 0 rfl rfl 7 (by decide) (hG (.fieldLink R_M 28 "ValueSieveModel" "empty" "[Z") gx16) (fun _ h9 => h9) rfl d_M_order_1 ?_
  refine lv_iload_n hx hb d_M_order_4 rfl (lv_at hl 1 rfl) ?_
  refine lv_aload_n hx hb d_M_order_5 rfl (lv_at hl 0 rfl) ?_
  refine va_get (D := (dC, dI)) (ci := 2) (v := .ref (ad 7)) (C := R_M) (T := F_M) (N := 10) hx hb hts (fun w h => List.mem_cons_of_mem _ (uw_M w h)) hown hK hP 0 rfl rfl 7 (by decide) (hG (.fieldLink R_M 28 "ValueSieveModel" "empty" "[Z") gx16) (fun _ h9 => h9) rfl d_M_order_6 ?_
  refine lv_iload_n hx hb d_M_order_9 rfl (lv_at hl 1 rfl) ?_
  refine ml_7 (P := p1) hx hb hK hP rfl b1 d_M_order_10 ?_
  refine wz_ne (tgt := 25) hx hb d_M_order_11 (by decide) (fun e1_25 => ?_) (fun e1_25 => ?_)
  · refine K25 (by unfold f_M_order; first | with_reducible exact if_pos e1_25 | exact if_pos e1_25) s.heap [] ?_ ?_ hS ls (lv_sub hl [0, 1, 2, 3, 4, 5] rfl)
    · with_reducible exact hP
    · with_reducible exact hD
  · refine lv_iload hx hb d_M_order_14 (lv_at hl 5 rfl) ?_
    refine wz_eq (tgt := 29) hx hb d_M_order_16 (by decide) (fun e2_29 => ?_) (fun e2_29 => ?_)
    · refine K29 (by unfold f_M_order; first | with_reducible exact (if_neg e1_25).trans (if_neg e2_29) | exact (if_neg e1_25).trans (if_neg e2_29)) s.heap [] ?_ ?_ hS ls (lv_sub hl [0, 1, 2, 3, 4, 5] rfl)
      · with_reducible exact hP
      · with_reducible exact hD
    · refine lv_lload_n hx hb d_M_order_19 rfl (lv_at hl 3 rfl) ?_
      refine lv_lconst (v := 0) hx hb d_M_order_20 (by decide) ?_
      refine wl_ne (tgt := 29) hx hb d_M_order_21 d_M_order_22 (by decide) (fun e3_29 => ?_) (fun e3_29 => ?_)
      · refine K29 (by unfold f_M_order; first | with_reducible exact (if_neg e1_25).trans ((if_pos e2_29).trans (if_neg e3_29)) | exact (if_neg e1_25).trans ((if_pos e2_29).trans (if_neg e3_29))) s.heap [] ?_ ?_ hS ls (lv_sub hl [0, 1, 2, 3, 4, 5] rfl)
        · with_reducible exact hP
        · with_reducible exact hD
      · refine K25 (by unfold f_M_order; first | with_reducible exact (if_neg e1_25).trans ((if_pos e2_29).trans (if_pos e3_29)) | exact (if_neg e1_25).trans ((if_pos e2_29).trans (if_pos e3_29))) s.heap [] ?_ ?_ hS ls (lv_sub hl [0, 1, 2, 3, 4, 5] rfl)
        · with_reducible exact hP
        · with_reducible exact hD
-- orderLongs
theorem d_M_orderLongs_0 : decode b_M_orderLongs 0 = .ok (.aload_n 0, 1) := by decide +kernel
theorem d_M_orderLongs_1 : decode b_M_orderLongs 1 = .ok (.getfield 28, 3) := by decide +kernel
theorem d_M_orderLongs_4 : decode b_M_orderLongs 4 = .ok (.iload_n 1, 1) := by decide +kernel
theorem d_M_orderLongs_5 : decode b_M_orderLongs 5 = .ok (.aload_n 0, 1) := by decide +kernel
theorem d_M_orderLongs_6 : decode b_M_orderLongs 6 = .ok (.getfield 28, 3) := by decide +kernel
theorem d_M_orderLongs_9 : decode b_M_orderLongs 9 = .ok (.iload_n 1, 1) := by decide +kernel
theorem d_M_orderLongs_10 : decode b_M_orderLongs 10 = .ok (.baload, 1) := by decide +kernel
theorem d_M_orderLongs_11 : decode b_M_orderLongs 11 = .ok (.ifCond .ne 16, 3) := by decide +kernel
theorem d_M_orderLongs_14 : decode b_M_orderLongs 14 = .ok (.iload 7, 2) := by decide +kernel
theorem d_M_orderLongs_16 : decode b_M_orderLongs 16 = .ok (.ifCond .eq 15, 3) := by decide +kernel
theorem d_M_orderLongs_19 : decode b_M_orderLongs 19 = .ok (.lload_n 3, 1) := by decide +kernel
theorem d_M_orderLongs_20 : decode b_M_orderLongs 20 = .ok (.ldc2_w 54, 3) := by decide +kernel
theorem d_M_orderLongs_23 : decode b_M_orderLongs 23 = .ok (.lcmp, 1) := by decide +kernel
theorem d_M_orderLongs_24 : decode b_M_orderLongs 24 = .ok (.ifCond .ne 7, 3) := by decide +kernel
theorem d_M_orderLongs_27 : decode b_M_orderLongs 27 = .ok (.iconst 1, 1) := by decide +kernel
theorem d_M_orderLongs_28 : decode b_M_orderLongs 28 = .ok (.goto 4, 3) := by decide +kernel
theorem d_M_orderLongs_31 : decode b_M_orderLongs 31 = .ok (.iconst 0, 1) := by decide +kernel
theorem d_M_orderLongs_32 : decode b_M_orderLongs 32 = .ok (.bastore, 1) := by decide +kernel
theorem d_M_orderLongs_33 : decode b_M_orderLongs 33 = .ok (.aload_n 0, 1) := by decide +kernel
theorem d_M_orderLongs_34 : decode b_M_orderLongs 34 = .ok (.getfield 28, 3) := by decide +kernel
theorem d_M_orderLongs_37 : decode b_M_orderLongs 37 = .ok (.iload_n 2, 1) := by decide +kernel
theorem d_M_orderLongs_38 : decode b_M_orderLongs 38 = .ok (.aload_n 0, 1) := by decide +kernel
theorem d_M_orderLongs_39 : decode b_M_orderLongs 39 = .ok (.getfield 28, 3) := by decide +kernel
theorem d_M_orderLongs_42 : decode b_M_orderLongs 42 = .ok (.iload_n 2, 1) := by decide +kernel
theorem d_M_orderLongs_43 : decode b_M_orderLongs 43 = .ok (.baload, 1) := by decide +kernel
theorem d_M_orderLongs_44 : decode b_M_orderLongs 44 = .ok (.ifCond .ne 17, 3) := by decide +kernel
theorem d_M_orderLongs_47 : decode b_M_orderLongs 47 = .ok (.iload 7, 2) := by decide +kernel
theorem d_M_orderLongs_49 : decode b_M_orderLongs 49 = .ok (.ifCond .eq 16, 3) := by decide +kernel
theorem d_M_orderLongs_52 : decode b_M_orderLongs 52 = .ok (.lload 5, 2) := by decide +kernel
theorem d_M_orderLongs_54 : decode b_M_orderLongs 54 = .ok (.ldc2_w 56, 3) := by decide +kernel
theorem d_M_orderLongs_57 : decode b_M_orderLongs 57 = .ok (.lcmp, 1) := by decide +kernel
theorem d_M_orderLongs_58 : decode b_M_orderLongs 58 = .ok (.ifCond .ne 7, 3) := by decide +kernel
theorem d_M_orderLongs_61 : decode b_M_orderLongs 61 = .ok (.iconst 1, 1) := by decide +kernel
theorem d_M_orderLongs_62 : decode b_M_orderLongs 62 = .ok (.goto 4, 3) := by decide +kernel
theorem d_M_orderLongs_65 : decode b_M_orderLongs 65 = .ok (.iconst 0, 1) := by decide +kernel
theorem d_M_orderLongs_66 : decode b_M_orderLongs 66 = .ok (.bastore, 1) := by decide +kernel
theorem d_M_orderLongs_67 : decode b_M_orderLongs 67 = .ok (.iload 7, 2) := by decide +kernel
theorem d_M_orderLongs_69 : decode b_M_orderLongs 69 = .ok (.ifCond .eq 17, 3) := by decide +kernel
theorem d_M_orderLongs_72 : decode b_M_orderLongs 72 = .ok (.lload_n 3, 1) := by decide +kernel
theorem d_M_orderLongs_73 : decode b_M_orderLongs 73 = .ok (.ldc2_w 54, 3) := by decide +kernel
theorem d_M_orderLongs_76 : decode b_M_orderLongs 76 = .ok (.lcmp, 1) := by decide +kernel
theorem d_M_orderLongs_77 : decode b_M_orderLongs 77 = .ok (.ifCond .eq 9, 3) := by decide +kernel
theorem d_M_orderLongs_80 : decode b_M_orderLongs 80 = .ok (.lload_n 3, 1) := by decide +kernel
theorem d_M_orderLongs_81 : decode b_M_orderLongs 81 = .ok (.lconst 1, 1) := by decide +kernel
theorem d_M_orderLongs_82 : decode b_M_orderLongs 82 = .ok (.lsub, 1) := by decide +kernel
theorem d_M_orderLongs_83 : decode b_M_orderLongs 83 = .ok (.goto 4, 3) := by decide +kernel
theorem d_M_orderLongs_86 : decode b_M_orderLongs 86 = .ok (.lload_n 3, 1) := by decide +kernel
theorem d_M_orderLongs_87 : decode b_M_orderLongs 87 = .ok (.lstore 8, 2) := by decide +kernel
theorem d_M_orderLongs_89 : decode b_M_orderLongs 89 = .ok (.iload 7, 2) := by decide +kernel
theorem d_M_orderLongs_91 : decode b_M_orderLongs 91 = .ok (.ifCond .eq 19, 3) := by decide +kernel
theorem d_M_orderLongs_94 : decode b_M_orderLongs 94 = .ok (.lload 5, 2) := by decide +kernel
theorem d_M_orderLongs_96 : decode b_M_orderLongs 96 = .ok (.ldc2_w 56, 3) := by decide +kernel
theorem d_M_orderLongs_99 : decode b_M_orderLongs 99 = .ok (.lcmp, 1) := by decide +kernel
theorem d_M_orderLongs_100 : decode b_M_orderLongs 100 = .ok (.ifCond .eq 10, 3) := by decide +kernel
theorem d_M_orderLongs_103 : decode b_M_orderLongs 103 = .ok (.lload 5, 2) := by decide +kernel
theorem d_M_orderLongs_105 : decode b_M_orderLongs 105 = .ok (.lconst 1, 1) := by decide +kernel
theorem d_M_orderLongs_106 : decode b_M_orderLongs 106 = .ok (.ladd, 1) := by decide +kernel
theorem d_M_orderLongs_107 : decode b_M_orderLongs 107 = .ok (.goto 5, 3) := by decide +kernel
theorem d_M_orderLongs_110 : decode b_M_orderLongs 110 = .ok (.lload 5, 2) := by decide +kernel
theorem d_M_orderLongs_112 : decode b_M_orderLongs 112 = .ok (.lstore 10, 2) := by decide +kernel
theorem d_M_orderLongs_114 : decode b_M_orderLongs 114 = .ok (.aload_n 0, 1) := by decide +kernel
theorem d_M_orderLongs_115 : decode b_M_orderLongs 115 = .ok (.getfield 25, 3) := by decide +kernel
theorem d_M_orderLongs_118 : decode b_M_orderLongs 118 = .ok (.iload_n 1, 1) := by decide +kernel
theorem d_M_orderLongs_119 : decode b_M_orderLongs 119 = .ok (.aload_n 0, 1) := by decide +kernel
theorem d_M_orderLongs_120 : decode b_M_orderLongs 120 = .ok (.getfield 25, 3) := by decide +kernel
theorem d_M_orderLongs_123 : decode b_M_orderLongs 123 = .ok (.iload_n 1, 1) := by decide +kernel
theorem d_M_orderLongs_124 : decode b_M_orderLongs 124 = .ok (.laload, 1) := by decide +kernel
theorem d_M_orderLongs_125 : decode b_M_orderLongs 125 = .ok (.lload 8, 2) := by decide +kernel
theorem d_M_orderLongs_127 : decode b_M_orderLongs 127 = .ok (.lcmp, 1) := by decide +kernel
theorem d_M_orderLongs_128 : decode b_M_orderLongs 128 = .ok (.ifCond .ge 12, 3) := by decide +kernel
theorem d_M_orderLongs_131 : decode b_M_orderLongs 131 = .ok (.aload_n 0, 1) := by decide +kernel
theorem d_M_orderLongs_132 : decode b_M_orderLongs 132 = .ok (.getfield 25, 3) := by decide +kernel
theorem d_M_orderLongs_135 : decode b_M_orderLongs 135 = .ok (.iload_n 1, 1) := by decide +kernel
theorem d_M_orderLongs_136 : decode b_M_orderLongs 136 = .ok (.laload, 1) := by decide +kernel
theorem d_M_orderLongs_137 : decode b_M_orderLongs 137 = .ok (.goto 5, 3) := by decide +kernel
theorem d_M_orderLongs_140 : decode b_M_orderLongs 140 = .ok (.lload 8, 2) := by decide +kernel
theorem d_M_orderLongs_142 : decode b_M_orderLongs 142 = .ok (.lastore, 1) := by decide +kernel
theorem d_M_orderLongs_143 : decode b_M_orderLongs 143 = .ok (.aload_n 0, 1) := by decide +kernel
theorem d_M_orderLongs_144 : decode b_M_orderLongs 144 = .ok (.getfield 22, 3) := by decide +kernel
theorem d_M_orderLongs_147 : decode b_M_orderLongs 147 = .ok (.iload_n 2, 1) := by decide +kernel
theorem d_M_orderLongs_148 : decode b_M_orderLongs 148 = .ok (.aload_n 0, 1) := by decide +kernel
theorem d_M_orderLongs_149 : decode b_M_orderLongs 149 = .ok (.getfield 22, 3) := by decide +kernel
theorem d_M_orderLongs_152 : decode b_M_orderLongs 152 = .ok (.iload_n 2, 1) := by decide +kernel
theorem d_M_orderLongs_153 : decode b_M_orderLongs 153 = .ok (.laload, 1) := by decide +kernel
theorem d_M_orderLongs_154 : decode b_M_orderLongs 154 = .ok (.lload 10, 2) := by decide +kernel
theorem d_M_orderLongs_156 : decode b_M_orderLongs 156 = .ok (.lcmp, 1) := by decide +kernel
theorem d_M_orderLongs_157 : decode b_M_orderLongs 157 = .ok (.ifCond .le 12, 3) := by decide +kernel
theorem d_M_orderLongs_160 : decode b_M_orderLongs 160 = .ok (.aload_n 0, 1) := by decide +kernel
theorem d_M_orderLongs_161 : decode b_M_orderLongs 161 = .ok (.getfield 22, 3) := by decide +kernel
theorem d_M_orderLongs_164 : decode b_M_orderLongs 164 = .ok (.iload_n 2, 1) := by decide +kernel
theorem d_M_orderLongs_165 : decode b_M_orderLongs 165 = .ok (.laload, 1) := by decide +kernel
theorem d_M_orderLongs_166 : decode b_M_orderLongs 166 = .ok (.goto 5, 3) := by decide +kernel
theorem d_M_orderLongs_169 : decode b_M_orderLongs 169 = .ok (.lload 10, 2) := by decide +kernel
theorem d_M_orderLongs_171 : decode b_M_orderLongs 171 = .ok (.lastore, 1) := by decide +kernel
theorem d_M_orderLongs_172 : decode b_M_orderLongs 172 = .ok (.return_, 1) := by decide +kernel
def f_M_orderLongs_171u (r0 : (Nat → VV)) (p1 : Nat) (p2 : Nat) (p3 : Int64) (p4 : Int64) (p5 : Bool) (r171n : (Nat → VV)) : (Nat → VV) := r171n
def f_M_orderLongs_171 (r0 : (Nat → VV)) (p1 : Nat) (p2 : Nat) (p3 : Int64) (p4 : Int64) (p5 : Bool) (s171_0 : Int64) (r142n : (Nat → VV)) : (Nat → VV) := f_M_orderLongs_171u r0 p1 p2 p3 p4 p5 (u5 r142n p2 s171_0)
def f_M_orderLongs_142u (r0 : (Nat → VV)) (p1 : Nat) (p2 : Nat) (p3 : Int64) (p4 : Int64) (p5 : Bool) (s112_0 : Int64) (r142n : (Nat → VV)) : (Nat → VV) := (if s112_0 < ((r142n p2).2.2.2.2.1) then f_M_orderLongs_171 r0 p1 p2 p3 p4 p5 ((r142n p2).2.2.2.2.1) r142n else f_M_orderLongs_171 r0 p1 p2 p3 p4 p5 s112_0 r142n)
def f_M_orderLongs_142 (r0 : (Nat → VV)) (p1 : Nat) (p2 : Nat) (p3 : Int64) (p4 : Int64) (p5 : Bool) (s112_0 : Int64) (s142_0 : Int64) (r66n : (Nat → VV)) : (Nat → VV) := f_M_orderLongs_142u r0 p1 p2 p3 p4 p5 s112_0 (u6 r66n p1 s142_0)
def f_M_orderLongs_112 (r0 : (Nat → VV)) (p1 : Nat) (p2 : Nat) (p3 : Int64) (p4 : Int64) (p5 : Bool) (s87_0 : Int64) (s112_0 : Int64) (r66n : (Nat → VV)) : (Nat → VV) := (if ((r66n p1).2.2.2.2.2.1) < s87_0 then f_M_orderLongs_142 r0 p1 p2 p3 p4 p5 s112_0 ((r66n p1).2.2.2.2.2.1) r66n else f_M_orderLongs_142 r0 p1 p2 p3 p4 p5 s112_0 s87_0 r66n)
def f_M_orderLongs_110 (r0 : (Nat → VV)) (p1 : Nat) (p2 : Nat) (p3 : Int64) (p4 : Int64) (p5 : Bool) (s87_0 : Int64) (r66n : (Nat → VV)) : (Nat → VV) := f_M_orderLongs_112 r0 p1 p2 p3 p4 p5 s87_0 p4 r66n
def f_M_orderLongs_87 (r0 : (Nat → VV)) (p1 : Nat) (p2 : Nat) (p3 : Int64) (p4 : Int64) (p5 : Bool) (s87_0 : Int64) (r66n : (Nat → VV)) : (Nat → VV) := (if p5 = true then (if p4 = 9223372036854775807 then f_M_orderLongs_110 r0 p1 p2 p3 p4 p5 s87_0 r66n else f_M_orderLongs_112 r0 p1 p2 p3 p4 p5 s87_0 (p4 + (1 : Int64)) r66n) else f_M_orderLongs_110 r0 p1 p2 p3 p4 p5 s87_0 r66n)
def f_M_orderLongs_86 (r0 : (Nat → VV)) (p1 : Nat) (p2 : Nat) (p3 : Int64) (p4 : Int64) (p5 : Bool) (r66n : (Nat → VV)) : (Nat → VV) := f_M_orderLongs_87 r0 p1 p2 p3 p4 p5 p3 r66n
def f_M_orderLongs_66u (r0 : (Nat → VV)) (p1 : Nat) (p2 : Nat) (p3 : Int64) (p4 : Int64) (p5 : Bool) (r66n : (Nat → VV)) : (Nat → VV) := (if p5 = true then (if p3 = (-9223372036854775808) then f_M_orderLongs_86 r0 p1 p2 p3 p4 p5 r66n else f_M_orderLongs_87 r0 p1 p2 p3 p4 p5 (p3 - (1 : Int64)) r66n) else f_M_orderLongs_86 r0 p1 p2 p3 p4 p5 r66n)
def f_M_orderLongs_66 (r0 : (Nat → VV)) (p1 : Nat) (p2 : Nat) (p3 : Int64) (p4 : Int64) (p5 : Bool) (s66_0 : Bool) (r32n : (Nat → VV)) : (Nat → VV) := f_M_orderLongs_66u r0 p1 p2 p3 p4 p5 (u7 r32n p2 s66_0)
def f_M_orderLongs_65 (r0 : (Nat → VV)) (p1 : Nat) (p2 : Nat) (p3 : Int64) (p4 : Int64) (p5 : Bool) (r32n : (Nat → VV)) : (Nat → VV) := f_M_orderLongs_66 r0 p1 p2 p3 p4 p5 false r32n
def f_M_orderLongs_61 (r0 : (Nat → VV)) (p1 : Nat) (p2 : Nat) (p3 : Int64) (p4 : Int64) (p5 : Bool) (r32n : (Nat → VV)) : (Nat → VV) := f_M_orderLongs_66 r0 p1 p2 p3 p4 p5 true r32n
def f_M_orderLongs_32u (r0 : (Nat → VV)) (p1 : Nat) (p2 : Nat) (p3 : Int64) (p4 : Int64) (p5 : Bool) (r32n : (Nat → VV)) : (Nat → VV) := (if ((r32n p2).2.2.2.2.2.2) = true then f_M_orderLongs_61 r0 p1 p2 p3 p4 p5 r32n else (if p5 = true then (if p4 = 9223372036854775807 then f_M_orderLongs_61 r0 p1 p2 p3 p4 p5 r32n else f_M_orderLongs_65 r0 p1 p2 p3 p4 p5 r32n) else f_M_orderLongs_65 r0 p1 p2 p3 p4 p5 r32n))
def f_M_orderLongs_32 (r0 : (Nat → VV)) (p1 : Nat) (p2 : Nat) (p3 : Int64) (p4 : Int64) (p5 : Bool) (s32_0 : Bool) : (Nat → VV) := f_M_orderLongs_32u r0 p1 p2 p3 p4 p5 (u7 r0 p1 s32_0)
def f_M_orderLongs_31 (r0 : (Nat → VV)) (p1 : Nat) (p2 : Nat) (p3 : Int64) (p4 : Int64) (p5 : Bool) : (Nat → VV) := f_M_orderLongs_32 r0 p1 p2 p3 p4 p5 false
def f_M_orderLongs_27 (r0 : (Nat → VV)) (p1 : Nat) (p2 : Nat) (p3 : Int64) (p4 : Int64) (p5 : Bool) : (Nat → VV) := f_M_orderLongs_32 r0 p1 p2 p3 p4 p5 true
def f_M_orderLongs (r0 : (Nat → VV)) (p1 : Nat) (p2 : Nat) (p3 : Int64) (p4 : Int64) (p5 : Bool) : (Nat → VV) := (if ((r0 p1).2.2.2.2.2.2) = true then f_M_orderLongs_27 r0 p1 p2 p3 p4 p5 else (if p5 = true then (if p3 = (-9223372036854775808) then f_M_orderLongs_27 r0 p1 p2 p3 p4 p5 else f_M_orderLongs_31 r0 p1 p2 p3 p4 p5) else f_M_orderLongs_31 r0 p1 p2 p3 p4 p5))
set_option maxRecDepth 100000 in
set_option maxHeartbeats 4000000 in
theorem c_M_orderLongs (l : Launch) (dC : Nat → ClassId) (dI : Nat → Nat → Nat) (ad : Nat → Nat) (cJ cZ : ClassId) (sz : Nat) (c0 : Int32) (r0 : (Nat → VV)) (w0 : (Nat → Int64)) (s0 : Int32) (p1 : Nat) (p2 : Nat) (p3 : Int64) (p4 : Int64) (p5 : Bool) (b1 : p1 < 24) (b2 : p2 < 24) : Met l y_M_orderLongs w_M_orderLongs ({ frames := 0, cells := 0, slots := 0, locals := 0 } : Room) (va_Pc [.ref (ad 0), .int (nI p1), .int (nI p2), .long (p3), .long (p4), .int (bI p5)] (nP (dC, dI) (mT cJ cZ) (mW ad cJ cZ c0 r0 w0 s0) sz)) (va_Qv (fun _ : Unit => True) (mB (dC, dI) (va_A (mW ad cJ cZ c0 r0 w0 s0) sz) (mW ad cJ cZ c0 (f_M_orderLongs r0 p1 p2 p3 p4 p5) w0 s0)) (va_A (mW ad cJ cZ c0 r0 w0 s0) sz)) 0 0 (va_A (mW ad cJ cZ c0 r0 w0 s0) sz) := by
  refine Met.ofW (cc := b_M_orderLongs) (maxL := 12) (ret := none) (by decide) rfl ?_
  intro p e s m args below meth c s₁ B hml hv
  obtain ⟨rfl, hsz, hP, hK, hD0⟩ := hv
  have hx := B.exec
  have hb := B.bytes
  have hr := B.returns
  have hts := atoms_spec (ws := w_M_orderLongs) B.pre
  have hG : ∀ w ∈ gM, w.before _ s = true := fun w h => hts w (List.mem_cons_of_mem _ h)
  have hown : s.vm.findClass R_M = some m.cls := findClass_of_methodNamed B.named
  have hlocks := B.notSynchronized
  subst hsz
  have hD := hD0.self (sz := s.heap.size)
  generalize hAe : va_A (mW ad cJ cZ c0 r0 w0 s0) s.heap.size = A at hD ⊢
  have hA : ∀ q : Nat, s.heap.size ≤ q → A q := fun q h => by rw [← hAe]; exact Or.inr h
  have hS : va_S A s.heap s.heap [] := va_S.rf
  have hl := lv_entry ([.ref (ad 0), .int (nI p1), .int (nI p2), .long (p3), .long (p4), .int (bI p5)]) (n := 12) (Nat.le_of_ble_eq_true rfl)
  rw [lg_entry_eq]
  generalize (lg_sl ([.ref (ad 0), .int (nI p1), .int (nI p2), .long (p3), .long (p4), .int (bI p5)]) ++ List.replicate (12 - (lg_sl ([.ref (ad 0), .int (nI p1), .int (nI p2), .long (p3), .long (p4), .int (bI p5)])).length) Slot.unset).toArray = ls at hl ⊢
  have hl : lv_has ls 12 [(0, .ref (ad 0)), (1, .int (nI p1)), (2, .int (nI p2)), (3, .long (p3)), (5, .long (p4)), (7, .int (bI p5))] := hl
  have K171u : ∀ (r171n : (Nat → VV)) (hj : f_M_orderLongs r0 p1 p2 p3 p4 p5 = f_M_orderLongs_171u r0 p1 p2 p3 p4 p5 r171n) (H : Heap) (locs : List Loc) (hP : va_P (dC, dI) classes (mW ad cJ cZ c0 r171n w0 s0) H) (hD : va_D A (mW ad cJ cZ c0 r171n w0 s0)) (hS : va_S A s.heap H locs) (ls : Array Slot) (hl : lv_has ls 12 []), W p l e (headSpec w_M_orderLongs ({ frames := 0, cells := 0, slots := 0, locals := 0 } : Room)).room s m ([.ref (ad 0), .int (nI p1), .int (nI p2), .long (p3), .long (p4), .int (bI p5)] : List Value).toArray below meth c H locs 0 0 (MQ below (va_Qv (fun _ : Unit => True) (mB (dC, dI) A (mW ad cJ cZ c0 (f_M_orderLongs r0 p1 p2 p3 p4 p5) w0 s0)) A) ([.ref (ad 0), .int (nI p1), .int (nI p2), .long (p3), .long (p4), .int (bI p5)] : List Value).toArray s 0 0 A) (F0 m 172 ls []) := by
    intro r171n hj H locs hP hD hS ls hl
    have fe : f_M_orderLongs r0 p1 p2 p3 p4 p5 = r171n := hj.trans rfl
    exact W.vret hx hb hr (fun t ht hW => ⟨⟨(), rfl, trivial, by rw [ht, fe]; exact hP, by rw [fe]; exact hD⟩, hS.F ht⟩) hS.2.2 d_M_orderLongs_172
  have K171 : ∀ (s171_0 : Int64) (r142n : (Nat → VV)) (hj : f_M_orderLongs r0 p1 p2 p3 p4 p5 = f_M_orderLongs_171 r0 p1 p2 p3 p4 p5 s171_0 r142n) (H : Heap) (locs : List Loc) (hP : va_P (dC, dI) classes (mW ad cJ cZ c0 r142n w0 s0) H) (hD : va_D A (mW ad cJ cZ c0 r142n w0 s0)) (hS : va_S A s.heap H locs) (ls : Array Slot) (hl : lv_has ls 12 []), W p l e (headSpec w_M_orderLongs ({ frames := 0, cells := 0, slots := 0, locals := 0 } : Room)).room s m ([.ref (ad 0), .int (nI p1), .int (nI p2), .long (p3), .long (p4), .int (bI p5)] : List Value).toArray below meth c H locs 0 0 (MQ below (va_Qv (fun _ : Unit => True) (mB (dC, dI) A (mW ad cJ cZ c0 (f_M_orderLongs r0 p1 p2 p3 p4 p5) w0 s0)) A) ([.ref (ad 0), .int (nI p1), .int (nI p2), .long (p3), .long (p4), .int (bI p5)] : List Value).toArray s 0 0 A) (F0 m 171 ls [.long (s171_0), .int (nI p2), .ref (ad 5)]) := by
    intro s171_0 r142n hj H locs hP hD hS ls hl
    refine ms_5 (P := p2) (x := s171_0) hx hb hK hP hD hS rfl b2 d_M_orderLongs_171 (fun H locs hP hD hS => ?_)
    obtain ⟨r171n, er171n⟩ : ∃ z, z = u5 r142n p2 s171_0 := ⟨_, rfl⟩
    rw [← er171n] at hP hD
    refine K171u r171n (Eq.trans (hj.trans rfl) (congrArg (fun r171n => f_M_orderLongs_171u r0 p1 p2 p3 p4 p5 r171n) er171n.symm)) H locs ?_ ?_ hS ls (lv_sub hl [] rfl)
    · with_reducible exact hP
    · with_reducible exact hD
  have K142u : ∀ (s112_0 : Int64) (r142n : (Nat → VV)) (hj : f_M_orderLongs r0 p1 p2 p3 p4 p5 = f_M_orderLongs_142u r0 p1 p2 p3 p4 p5 s112_0 r142n) (H : Heap) (locs : List Loc) (hP : va_P (dC, dI) classes (mW ad cJ cZ c0 r142n w0 s0) H) (hD : va_D A (mW ad cJ cZ c0 r142n w0 s0)) (hS : va_S A s.heap H locs) (ls : Array Slot) (hl : lv_has ls 12 [(10, .long (s112_0)), (0, .ref (ad 0)), (2, .int (nI p2))]), W p l e (headSpec w_M_orderLongs ({ frames := 0, cells := 0, slots := 0, locals := 0 } : Room)).room s m ([.ref (ad 0), .int (nI p1), .int (nI p2), .long (p3), .long (p4), .int (bI p5)] : List Value).toArray below meth c H locs 0 0 (MQ below (va_Qv (fun _ : Unit => True) (mB (dC, dI) A (mW ad cJ cZ c0 (f_M_orderLongs r0 p1 p2 p3 p4 p5) w0 s0)) A) ([.ref (ad 0), .int (nI p1), .int (nI p2), .long (p3), .long (p4), .int (bI p5)] : List Value).toArray s 0 0 A) (F0 m 143 ls []) := by
    intro s112_0 r142n hj H locs hP hD hS ls hl
    refine lv_aload_n hx hb d_M_orderLongs_143 rfl (lv_at hl 1 rfl) ?_
    refine va_get (D := (dC, dI)) (ci := 2) (v := .ref (ad 5)) (C := R_M) (T := F_M) (N := 10) hx hb hts (fun w h => List.mem_cons_of_mem _ (uw_M w h)) hown hK hP 0 rfl rfl 5 (by decide) (hG (.fieldLink R_M 22 "ValueSieveModel" "least" "[J") gx14) (fun _ h9 => h9) rfl d_M_orderLongs_144 ?_
    refine lv_iload_n hx hb d_M_orderLongs_147 rfl (lv_at hl 2 rfl) ?_
    refine lv_aload_n hx hb d_M_orderLongs_148 rfl (lv_at hl 1 rfl) ?_
    refine va_get (D := (dC, dI)) (ci := 2) (v := .ref (ad 5)) (C := R_M) (T := F_M) (N := 10) hx hb hts (fun w h => List.mem_cons_of_mem _ (uw_M w h)) hown hK hP 0 rfl rfl 5 (by decide) (hG (.fieldLink R_M 22 "ValueSieveModel" "least" "[J") gx14) (fun _ h9 => h9) rfl d_M_orderLongs_149 ?_
    refine lv_iload_n hx hb d_M_orderLongs_152 rfl (lv_at hl 2 rfl) ?_
    refine ml_5 (P := p2) hx hb hK hP rfl b2 d_M_orderLongs_153 ?_
    refine lv_lload hx hb d_M_orderLongs_154 (lv_at hl 0 rfl) ?_
    refine wl_le (tgt := 169) hx hb d_M_orderLongs_156 d_M_orderLongs_157 (by decide) (fun e1_169 => ?_) (fun e1_169 => ?_)
    · refine lv_lload hx hb d_M_orderLongs_169 (lv_at hl 0 rfl) ?_
      refine K171 s112_0 r142n (hj.trans (by unfold f_M_orderLongs_142u; first | with_reducible exact if_neg e1_169 | exact if_neg e1_169)) H locs ?_ ?_ hS ls (lv_sub hl [] rfl)
      · with_reducible exact hP
      · with_reducible exact hD
    · refine lv_aload_n hx hb d_M_orderLongs_160 rfl (lv_at hl 1 rfl) ?_
      refine va_get (D := (dC, dI)) (ci := 2) (v := .ref (ad 5)) (C := R_M) (T := F_M) (N := 10) hx hb hts (fun w h => List.mem_cons_of_mem _ (uw_M w h)) hown hK hP 0 rfl rfl 5 (by decide) (hG (.fieldLink R_M 22 "ValueSieveModel" "least" "[J") gx14) (fun _ h9 => h9) rfl d_M_orderLongs_161 ?_
      refine lv_iload_n hx hb d_M_orderLongs_164 rfl (lv_at hl 2 rfl) ?_
      refine ml_5 (P := p2) hx hb hK hP rfl b2 d_M_orderLongs_165 ?_
      refine lv_goto (tgt := 171) hx hb d_M_orderLongs_166 (by decide) ?_
      refine K171 ((r142n p2).2.2.2.2.1) r142n (hj.trans (by unfold f_M_orderLongs_142u; first | with_reducible exact if_pos e1_169 | exact if_pos e1_169)) H locs ?_ ?_ hS ls (lv_sub hl [] rfl)
      · with_reducible exact hP
      · with_reducible exact hD
  have K142 : ∀ (s112_0 : Int64) (s142_0 : Int64) (r66n : (Nat → VV)) (hj : f_M_orderLongs r0 p1 p2 p3 p4 p5 = f_M_orderLongs_142 r0 p1 p2 p3 p4 p5 s112_0 s142_0 r66n) (H : Heap) (locs : List Loc) (hP : va_P (dC, dI) classes (mW ad cJ cZ c0 r66n w0 s0) H) (hD : va_D A (mW ad cJ cZ c0 r66n w0 s0)) (hS : va_S A s.heap H locs) (ls : Array Slot) (hl : lv_has ls 12 [(10, .long (s112_0)), (0, .ref (ad 0)), (2, .int (nI p2))]), W p l e (headSpec w_M_orderLongs ({ frames := 0, cells := 0, slots := 0, locals := 0 } : Room)).room s m ([.ref (ad 0), .int (nI p1), .int (nI p2), .long (p3), .long (p4), .int (bI p5)] : List Value).toArray below meth c H locs 0 0 (MQ below (va_Qv (fun _ : Unit => True) (mB (dC, dI) A (mW ad cJ cZ c0 (f_M_orderLongs r0 p1 p2 p3 p4 p5) w0 s0)) A) ([.ref (ad 0), .int (nI p1), .int (nI p2), .long (p3), .long (p4), .int (bI p5)] : List Value).toArray s 0 0 A) (F0 m 142 ls [.long (s142_0), .int (nI p1), .ref (ad 6)]) := by
    intro s112_0 s142_0 r66n hj H locs hP hD hS ls hl
    refine ms_6 (P := p1) (x := s142_0) hx hb hK hP hD hS rfl b1 d_M_orderLongs_142 (fun H locs hP hD hS => ?_)
    obtain ⟨r142n, er142n⟩ : ∃ z, z = u6 r66n p1 s142_0 := ⟨_, rfl⟩
    rw [← er142n] at hP hD
    refine K142u s112_0 r142n (Eq.trans (hj.trans rfl) (congrArg (fun r142n => f_M_orderLongs_142u r0 p1 p2 p3 p4 p5 s112_0 r142n) er142n.symm)) H locs ?_ ?_ hS ls (lv_sub hl [0, 1, 2] rfl)
    · with_reducible exact hP
    · with_reducible exact hD
  have K112 : ∀ (s87_0 : Int64) (s112_0 : Int64) (r66n : (Nat → VV)) (hj : f_M_orderLongs r0 p1 p2 p3 p4 p5 = f_M_orderLongs_112 r0 p1 p2 p3 p4 p5 s87_0 s112_0 r66n) (H : Heap) (locs : List Loc) (hP : va_P (dC, dI) classes (mW ad cJ cZ c0 r66n w0 s0) H) (hD : va_D A (mW ad cJ cZ c0 r66n w0 s0)) (hS : va_S A s.heap H locs) (ls : Array Slot) (hl : lv_has ls 12 [(8, .long (s87_0)), (0, .ref (ad 0)), (1, .int (nI p1)), (2, .int (nI p2))]), W p l e (headSpec w_M_orderLongs ({ frames := 0, cells := 0, slots := 0, locals := 0 } : Room)).room s m ([.ref (ad 0), .int (nI p1), .int (nI p2), .long (p3), .long (p4), .int (bI p5)] : List Value).toArray below meth c H locs 0 0 (MQ below (va_Qv (fun _ : Unit => True) (mB (dC, dI) A (mW ad cJ cZ c0 (f_M_orderLongs r0 p1 p2 p3 p4 p5) w0 s0)) A) ([.ref (ad 0), .int (nI p1), .int (nI p2), .long (p3), .long (p4), .int (bI p5)] : List Value).toArray s 0 0 A) (F0 m 112 ls [.long (s112_0)]) := by
    intro s87_0 s112_0 r66n hj H locs hP hD hS ls hl
    refine lv_lstore (lv' := [(10, .long (s112_0)), (8, .long (s87_0)), (0, .ref (ad 0)), (1, .int (nI p1)), (2, .int (nI p2))]) hx hb d_M_orderLongs_112 hl (by decide) rfl (fun ls hl => ?_)
    refine lv_aload_n hx hb d_M_orderLongs_114 rfl (lv_at hl 2 rfl) ?_
    refine va_get (D := (dC, dI)) (ci := 2) (v := .ref (ad 6)) (C := R_M) (T := F_M) (N := 10) hx hb hts (fun w h => List.mem_cons_of_mem _ (uw_M w h)) hown hK hP 0 rfl rfl 6 (by decide) (hG (.fieldLink R_M 25 "ValueSieveModel" "greatest" "[J") gx15) (fun _ h9 => h9) rfl d_M_orderLongs_115 ?_
    refine lv_iload_n hx hb d_M_orderLongs_118 rfl (lv_at hl 3 rfl) ?_
    refine lv_aload_n hx hb d_M_orderLongs_119 rfl (lv_at hl 2 rfl) ?_
    refine va_get (D := (dC, dI)) (ci := 2) (v := .ref (ad 6)) (C := R_M) (T := F_M) (N := 10) hx hb hts (fun w h => List.mem_cons_of_mem _ (uw_M w h)) hown hK hP 0 rfl rfl 6 (by decide) (hG (.fieldLink R_M 25 "ValueSieveModel" "greatest" "[J") gx15) (fun _ h9 => h9) rfl d_M_orderLongs_120 ?_
    refine lv_iload_n hx hb d_M_orderLongs_123 rfl (lv_at hl 3 rfl) ?_
    refine ml_6 (P := p1) hx hb hK hP rfl b1 d_M_orderLongs_124 ?_
    refine lv_lload hx hb d_M_orderLongs_125 (lv_at hl 1 rfl) ?_
    refine wl_ge (tgt := 140) hx hb d_M_orderLongs_127 d_M_orderLongs_128 (by decide) (fun e1_140 => ?_) (fun e1_140 => ?_)
    · refine lv_lload hx hb d_M_orderLongs_140 (lv_at hl 1 rfl) ?_
      refine K142 s112_0 s87_0 r66n (hj.trans (by unfold f_M_orderLongs_112; first | with_reducible exact if_neg e1_140 | exact if_neg e1_140)) H locs ?_ ?_ hS ls (lv_sub hl [0, 2, 4] rfl)
      · with_reducible exact hP
      · with_reducible exact hD
    · refine lv_aload_n hx hb d_M_orderLongs_131 rfl (lv_at hl 2 rfl) ?_
      refine va_get (D := (dC, dI)) (ci := 2) (v := .ref (ad 6)) (C := R_M) (T := F_M) (N := 10) hx hb hts (fun w h => List.mem_cons_of_mem _ (uw_M w h)) hown hK hP 0 rfl rfl 6 (by decide) (hG (.fieldLink R_M 25 "ValueSieveModel" "greatest" "[J") gx15) (fun _ h9 => h9) rfl d_M_orderLongs_132 ?_
      refine lv_iload_n hx hb d_M_orderLongs_135 rfl (lv_at hl 3 rfl) ?_
      refine ml_6 (P := p1) hx hb hK hP rfl b1 d_M_orderLongs_136 ?_
      refine lv_goto (tgt := 142) hx hb d_M_orderLongs_137 (by decide) ?_
      refine K142 s112_0 ((r66n p1).2.2.2.2.2.1) r66n (hj.trans (by unfold f_M_orderLongs_112; first | with_reducible exact if_pos e1_140 | exact if_pos e1_140)) H locs ?_ ?_ hS ls (lv_sub hl [0, 2, 4] rfl)
      · with_reducible exact hP
      · with_reducible exact hD
  have K110 : ∀ (s87_0 : Int64) (r66n : (Nat → VV)) (hj : f_M_orderLongs r0 p1 p2 p3 p4 p5 = f_M_orderLongs_110 r0 p1 p2 p3 p4 p5 s87_0 r66n) (H : Heap) (locs : List Loc) (hP : va_P (dC, dI) classes (mW ad cJ cZ c0 r66n w0 s0) H) (hD : va_D A (mW ad cJ cZ c0 r66n w0 s0)) (hS : va_S A s.heap H locs) (ls : Array Slot) (hl : lv_has ls 12 [(8, .long (s87_0)), (0, .ref (ad 0)), (1, .int (nI p1)), (2, .int (nI p2)), (5, .long (p4))]), W p l e (headSpec w_M_orderLongs ({ frames := 0, cells := 0, slots := 0, locals := 0 } : Room)).room s m ([.ref (ad 0), .int (nI p1), .int (nI p2), .long (p3), .long (p4), .int (bI p5)] : List Value).toArray below meth c H locs 0 0 (MQ below (va_Qv (fun _ : Unit => True) (mB (dC, dI) A (mW ad cJ cZ c0 (f_M_orderLongs r0 p1 p2 p3 p4 p5) w0 s0)) A) ([.ref (ad 0), .int (nI p1), .int (nI p2), .long (p3), .long (p4), .int (bI p5)] : List Value).toArray s 0 0 A) (F0 m 110 ls []) := by
    intro s87_0 r66n hj H locs hP hD hS ls hl
    refine lv_lload hx hb d_M_orderLongs_110 (lv_at hl 4 rfl) ?_
    refine K112 s87_0 p4 r66n (hj.trans rfl) H locs ?_ ?_ hS ls (lv_sub hl [0, 1, 2, 3] rfl)
    · with_reducible exact hP
    · with_reducible exact hD
  have K87 : ∀ (s87_0 : Int64) (r66n : (Nat → VV)) (hj : f_M_orderLongs r0 p1 p2 p3 p4 p5 = f_M_orderLongs_87 r0 p1 p2 p3 p4 p5 s87_0 r66n) (H : Heap) (locs : List Loc) (hP : va_P (dC, dI) classes (mW ad cJ cZ c0 r66n w0 s0) H) (hD : va_D A (mW ad cJ cZ c0 r66n w0 s0)) (hS : va_S A s.heap H locs) (ls : Array Slot) (hl : lv_has ls 12 [(0, .ref (ad 0)), (1, .int (nI p1)), (2, .int (nI p2)), (5, .long (p4)), (7, .int (bI p5))]), W p l e (headSpec w_M_orderLongs ({ frames := 0, cells := 0, slots := 0, locals := 0 } : Room)).room s m ([.ref (ad 0), .int (nI p1), .int (nI p2), .long (p3), .long (p4), .int (bI p5)] : List Value).toArray below meth c H locs 0 0 (MQ below (va_Qv (fun _ : Unit => True) (mB (dC, dI) A (mW ad cJ cZ c0 (f_M_orderLongs r0 p1 p2 p3 p4 p5) w0 s0)) A) ([.ref (ad 0), .int (nI p1), .int (nI p2), .long (p3), .long (p4), .int (bI p5)] : List Value).toArray s 0 0 A) (F0 m 87 ls [.long (s87_0)]) := by
    intro s87_0 r66n hj H locs hP hD hS ls hl
    refine lv_lstore (lv' := [(8, .long (s87_0)), (0, .ref (ad 0)), (1, .int (nI p1)), (2, .int (nI p2)), (5, .long (p4)), (7, .int (bI p5))]) hx hb d_M_orderLongs_87 hl (by decide) rfl (fun ls hl => ?_)
    refine lv_iload hx hb d_M_orderLongs_89 (lv_at hl 5 rfl) ?_
    refine wz_eq (tgt := 110) hx hb d_M_orderLongs_91 (by decide) (fun e1_110 => ?_) (fun e1_110 => ?_)
    · refine K110 s87_0 r66n (hj.trans (by unfold f_M_orderLongs_87; first | with_reducible exact if_neg e1_110 | exact if_neg e1_110)) H locs ?_ ?_ hS ls (lv_sub hl [0, 1, 2, 3, 4] rfl)
      · with_reducible exact hP
      · with_reducible exact hD
    · refine lv_lload hx hb d_M_orderLongs_94 (lv_at hl 4 rfl) ?_
      refine lv_ldc2 (v := 9223372036854775807) hx hb hown (hG (.constantLong R_M 56 (9223372036854775807)) gx44) d_M_orderLongs_96 ?_
      refine wl_eq (tgt := 110) hx hb d_M_orderLongs_99 d_M_orderLongs_100 (by decide) (fun e2_110 => ?_) (fun e2_110 => ?_)
      · refine K110 s87_0 r66n (hj.trans (by unfold f_M_orderLongs_87; first | with_reducible exact (if_pos e1_110).trans (if_pos e2_110) | exact (if_pos e1_110).trans (if_pos e2_110))) H locs ?_ ?_ hS ls (lv_sub hl [0, 1, 2, 3, 4] rfl)
        · with_reducible exact hP
        · with_reducible exact hD
      · refine lv_lload hx hb d_M_orderLongs_103 (lv_at hl 4 rfl) ?_
        refine lv_lconst (v := 1) hx hb d_M_orderLongs_105 (by decide) ?_
        refine lv_ladd hx hb d_M_orderLongs_106 ?_
        refine lv_goto (tgt := 112) hx hb d_M_orderLongs_107 (by decide) ?_
        refine K112 s87_0 (p4 + (1 : Int64)) r66n (hj.trans (by unfold f_M_orderLongs_87; first | with_reducible exact (if_pos e1_110).trans (if_neg e2_110) | exact (if_pos e1_110).trans (if_neg e2_110))) H locs ?_ ?_ hS ls (lv_sub hl [0, 1, 2, 3] rfl)
        · with_reducible exact hP
        · with_reducible exact hD
  have K86 : ∀ (r66n : (Nat → VV)) (hj : f_M_orderLongs r0 p1 p2 p3 p4 p5 = f_M_orderLongs_86 r0 p1 p2 p3 p4 p5 r66n) (H : Heap) (locs : List Loc) (hP : va_P (dC, dI) classes (mW ad cJ cZ c0 r66n w0 s0) H) (hD : va_D A (mW ad cJ cZ c0 r66n w0 s0)) (hS : va_S A s.heap H locs) (ls : Array Slot) (hl : lv_has ls 12 [(0, .ref (ad 0)), (1, .int (nI p1)), (2, .int (nI p2)), (3, .long (p3)), (5, .long (p4)), (7, .int (bI p5))]), W p l e (headSpec w_M_orderLongs ({ frames := 0, cells := 0, slots := 0, locals := 0 } : Room)).room s m ([.ref (ad 0), .int (nI p1), .int (nI p2), .long (p3), .long (p4), .int (bI p5)] : List Value).toArray below meth c H locs 0 0 (MQ below (va_Qv (fun _ : Unit => True) (mB (dC, dI) A (mW ad cJ cZ c0 (f_M_orderLongs r0 p1 p2 p3 p4 p5) w0 s0)) A) ([.ref (ad 0), .int (nI p1), .int (nI p2), .long (p3), .long (p4), .int (bI p5)] : List Value).toArray s 0 0 A) (F0 m 86 ls []) := by
    intro r66n hj H locs hP hD hS ls hl
    refine lv_lload_n hx hb d_M_orderLongs_86 rfl (lv_at hl 3 rfl) ?_
    refine K87 p3 r66n (hj.trans rfl) H locs ?_ ?_ hS ls (lv_sub hl [0, 1, 2, 4, 5] rfl)
    · with_reducible exact hP
    · with_reducible exact hD
  have K66u : ∀ (r66n : (Nat → VV)) (hj : f_M_orderLongs r0 p1 p2 p3 p4 p5 = f_M_orderLongs_66u r0 p1 p2 p3 p4 p5 r66n) (H : Heap) (locs : List Loc) (hP : va_P (dC, dI) classes (mW ad cJ cZ c0 r66n w0 s0) H) (hD : va_D A (mW ad cJ cZ c0 r66n w0 s0)) (hS : va_S A s.heap H locs) (ls : Array Slot) (hl : lv_has ls 12 [(0, .ref (ad 0)), (1, .int (nI p1)), (2, .int (nI p2)), (3, .long (p3)), (5, .long (p4)), (7, .int (bI p5))]), W p l e (headSpec w_M_orderLongs ({ frames := 0, cells := 0, slots := 0, locals := 0 } : Room)).room s m ([.ref (ad 0), .int (nI p1), .int (nI p2), .long (p3), .long (p4), .int (bI p5)] : List Value).toArray below meth c H locs 0 0 (MQ below (va_Qv (fun _ : Unit => True) (mB (dC, dI) A (mW ad cJ cZ c0 (f_M_orderLongs r0 p1 p2 p3 p4 p5) w0 s0)) A) ([.ref (ad 0), .int (nI p1), .int (nI p2), .long (p3), .long (p4), .int (bI p5)] : List Value).toArray s 0 0 A) (F0 m 67 ls []) := by
    intro r66n hj H locs hP hD hS ls hl
    refine lv_iload hx hb d_M_orderLongs_67 (lv_at hl 5 rfl) ?_
    refine wz_eq (tgt := 86) hx hb d_M_orderLongs_69 (by decide) (fun e1_86 => ?_) (fun e1_86 => ?_)
    · refine K86 r66n (hj.trans (by unfold f_M_orderLongs_66u; first | with_reducible exact if_neg e1_86 | exact if_neg e1_86)) H locs ?_ ?_ hS ls (lv_sub hl [0, 1, 2, 3, 4, 5] rfl)
      · with_reducible exact hP
      · with_reducible exact hD
    · refine lv_lload_n hx hb d_M_orderLongs_72 rfl (lv_at hl 3 rfl) ?_
      refine lv_ldc2 (v := -9223372036854775808) hx hb hown (hG (.constantLong R_M 54 (-9223372036854775808)) gx43) d_M_orderLongs_73 ?_
      refine wl_eq (tgt := 86) hx hb d_M_orderLongs_76 d_M_orderLongs_77 (by decide) (fun e2_86 => ?_) (fun e2_86 => ?_)
      · refine K86 r66n (hj.trans (by unfold f_M_orderLongs_66u; first | with_reducible exact (if_pos e1_86).trans (if_pos e2_86) | exact (if_pos e1_86).trans (if_pos e2_86))) H locs ?_ ?_ hS ls (lv_sub hl [0, 1, 2, 3, 4, 5] rfl)
        · with_reducible exact hP
        · with_reducible exact hD
      · refine lv_lload_n hx hb d_M_orderLongs_80 rfl (lv_at hl 3 rfl) ?_
        refine lv_lconst (v := 1) hx hb d_M_orderLongs_81 (by decide) ?_
        refine lv_lsub hx hb d_M_orderLongs_82 ?_
        refine lv_goto (tgt := 87) hx hb d_M_orderLongs_83 (by decide) ?_
        refine K87 (p3 - (1 : Int64)) r66n (hj.trans (by unfold f_M_orderLongs_66u; first | with_reducible exact (if_pos e1_86).trans (if_neg e2_86) | exact (if_pos e1_86).trans (if_neg e2_86))) H locs ?_ ?_ hS ls (lv_sub hl [0, 1, 2, 4, 5] rfl)
        · with_reducible exact hP
        · with_reducible exact hD
  have K66 : ∀ (s66_0 : Bool) (r32n : (Nat → VV)) (hj : f_M_orderLongs r0 p1 p2 p3 p4 p5 = f_M_orderLongs_66 r0 p1 p2 p3 p4 p5 s66_0 r32n) (H : Heap) (locs : List Loc) (hP : va_P (dC, dI) classes (mW ad cJ cZ c0 r32n w0 s0) H) (hD : va_D A (mW ad cJ cZ c0 r32n w0 s0)) (hS : va_S A s.heap H locs) (ls : Array Slot) (hl : lv_has ls 12 [(0, .ref (ad 0)), (1, .int (nI p1)), (2, .int (nI p2)), (3, .long (p3)), (5, .long (p4)), (7, .int (bI p5))]), W p l e (headSpec w_M_orderLongs ({ frames := 0, cells := 0, slots := 0, locals := 0 } : Room)).room s m ([.ref (ad 0), .int (nI p1), .int (nI p2), .long (p3), .long (p4), .int (bI p5)] : List Value).toArray below meth c H locs 0 0 (MQ below (va_Qv (fun _ : Unit => True) (mB (dC, dI) A (mW ad cJ cZ c0 (f_M_orderLongs r0 p1 p2 p3 p4 p5) w0 s0)) A) ([.ref (ad 0), .int (nI p1), .int (nI p2), .long (p3), .long (p4), .int (bI p5)] : List Value).toArray s 0 0 A) (F0 m 66 ls [.int (bI s66_0), .int (nI p2), .ref (ad 7)]) := by
    intro s66_0 r32n hj H locs hP hD hS ls hl
    refine ms_7 (P := p2) (x := s66_0) hx hb hK hP hD hS rfl b2 d_M_orderLongs_66 (fun H locs hP hD hS => ?_)
    obtain ⟨r66n, er66n⟩ : ∃ z, z = u7 r32n p2 s66_0 := ⟨_, rfl⟩
    rw [← er66n] at hP hD
    refine K66u r66n (Eq.trans (hj.trans rfl) (congrArg (fun r66n => f_M_orderLongs_66u r0 p1 p2 p3 p4 p5 r66n) er66n.symm)) H locs ?_ ?_ hS ls (lv_sub hl [0, 1, 2, 3, 4, 5] rfl)
    · with_reducible exact hP
    · with_reducible exact hD
  have K65 : ∀ (r32n : (Nat → VV)) (hj : f_M_orderLongs r0 p1 p2 p3 p4 p5 = f_M_orderLongs_65 r0 p1 p2 p3 p4 p5 r32n) (H : Heap) (locs : List Loc) (hP : va_P (dC, dI) classes (mW ad cJ cZ c0 r32n w0 s0) H) (hD : va_D A (mW ad cJ cZ c0 r32n w0 s0)) (hS : va_S A s.heap H locs) (ls : Array Slot) (hl : lv_has ls 12 [(0, .ref (ad 0)), (1, .int (nI p1)), (2, .int (nI p2)), (3, .long (p3)), (5, .long (p4)), (7, .int (bI p5))]), W p l e (headSpec w_M_orderLongs ({ frames := 0, cells := 0, slots := 0, locals := 0 } : Room)).room s m ([.ref (ad 0), .int (nI p1), .int (nI p2), .long (p3), .long (p4), .int (bI p5)] : List Value).toArray below meth c H locs 0 0 (MQ below (va_Qv (fun _ : Unit => True) (mB (dC, dI) A (mW ad cJ cZ c0 (f_M_orderLongs r0 p1 p2 p3 p4 p5) w0 s0)) A) ([.ref (ad 0), .int (nI p1), .int (nI p2), .long (p3), .long (p4), .int (bI p5)] : List Value).toArray s 0 0 A) (F0 m 65 ls [.int (nI p2), .ref (ad 7)]) := by
    intro r32n hj H locs hP hD hS ls hl
    refine lv_iconst (v := 0) hx hb d_M_orderLongs_65 (by decide) ?_
    refine K66 false r32n (hj.trans rfl) H locs ?_ ?_ hS ls (lv_sub hl [0, 1, 2, 3, 4, 5] rfl)
    · with_reducible exact hP
    · with_reducible exact hD
  have K61 : ∀ (r32n : (Nat → VV)) (hj : f_M_orderLongs r0 p1 p2 p3 p4 p5 = f_M_orderLongs_61 r0 p1 p2 p3 p4 p5 r32n) (H : Heap) (locs : List Loc) (hP : va_P (dC, dI) classes (mW ad cJ cZ c0 r32n w0 s0) H) (hD : va_D A (mW ad cJ cZ c0 r32n w0 s0)) (hS : va_S A s.heap H locs) (ls : Array Slot) (hl : lv_has ls 12 [(0, .ref (ad 0)), (1, .int (nI p1)), (2, .int (nI p2)), (3, .long (p3)), (5, .long (p4)), (7, .int (bI p5))]), W p l e (headSpec w_M_orderLongs ({ frames := 0, cells := 0, slots := 0, locals := 0 } : Room)).room s m ([.ref (ad 0), .int (nI p1), .int (nI p2), .long (p3), .long (p4), .int (bI p5)] : List Value).toArray below meth c H locs 0 0 (MQ below (va_Qv (fun _ : Unit => True) (mB (dC, dI) A (mW ad cJ cZ c0 (f_M_orderLongs r0 p1 p2 p3 p4 p5) w0 s0)) A) ([.ref (ad 0), .int (nI p1), .int (nI p2), .long (p3), .long (p4), .int (bI p5)] : List Value).toArray s 0 0 A) (F0 m 61 ls [.int (nI p2), .ref (ad 7)]) := by
    intro r32n hj H locs hP hD hS ls hl
    refine lv_iconst (v := 1) hx hb d_M_orderLongs_61 (by decide) ?_
    refine lv_goto (tgt := 66) hx hb d_M_orderLongs_62 (by decide) ?_
    refine K66 true r32n (hj.trans rfl) H locs ?_ ?_ hS ls (lv_sub hl [0, 1, 2, 3, 4, 5] rfl)
    · with_reducible exact hP
    · with_reducible exact hD
  have K32u : ∀ (r32n : (Nat → VV)) (hj : f_M_orderLongs r0 p1 p2 p3 p4 p5 = f_M_orderLongs_32u r0 p1 p2 p3 p4 p5 r32n) (H : Heap) (locs : List Loc) (hP : va_P (dC, dI) classes (mW ad cJ cZ c0 r32n w0 s0) H) (hD : va_D A (mW ad cJ cZ c0 r32n w0 s0)) (hS : va_S A s.heap H locs) (ls : Array Slot) (hl : lv_has ls 12 [(0, .ref (ad 0)), (1, .int (nI p1)), (2, .int (nI p2)), (3, .long (p3)), (5, .long (p4)), (7, .int (bI p5))]), W p l e (headSpec w_M_orderLongs ({ frames := 0, cells := 0, slots := 0, locals := 0 } : Room)).room s m ([.ref (ad 0), .int (nI p1), .int (nI p2), .long (p3), .long (p4), .int (bI p5)] : List Value).toArray below meth c H locs 0 0 (MQ below (va_Qv (fun _ : Unit => True) (mB (dC, dI) A (mW ad cJ cZ c0 (f_M_orderLongs r0 p1 p2 p3 p4 p5) w0 s0)) A) ([.ref (ad 0), .int (nI p1), .int (nI p2), .long (p3), .long (p4), .int (bI p5)] : List Value).toArray s 0 0 A) (F0 m 33 ls []) := by
    intro r32n hj H locs hP hD hS ls hl
    refine lv_aload_n hx hb d_M_orderLongs_33 rfl (lv_at hl 0 rfl) ?_
    refine va_get (D := (dC, dI)) (ci := 2) (v := .ref (ad 7)) (C := R_M) (T := F_M) (N := 10) hx hb hts (fun w h => List.mem_cons_of_mem _ (uw_M w h)) hown hK hP 0 rfl rfl 7 (by decide) (hG (.fieldLink R_M 28 "ValueSieveModel" "empty" "[Z") gx16) (fun _ h9 => h9) rfl d_M_orderLongs_34 ?_
    refine lv_iload_n hx hb d_M_orderLongs_37 rfl (lv_at hl 2 rfl) ?_
    refine lv_aload_n hx hb d_M_orderLongs_38 rfl (lv_at hl 0 rfl) ?_
    refine va_get (D := (dC, dI)) (ci := 2) (v := .ref (ad 7)) (C := R_M) (T := F_M) (N := 10) hx hb hts (fun w h => List.mem_cons_of_mem _ (uw_M w h)) hown hK hP 0 rfl rfl 7 (by decide) (hG (.fieldLink R_M 28 "ValueSieveModel" "empty" "[Z") gx16) (fun _ h9 => h9) rfl d_M_orderLongs_39 ?_
    refine lv_iload_n hx hb d_M_orderLongs_42 rfl (lv_at hl 2 rfl) ?_
    refine ml_7 (P := p2) hx hb hK hP rfl b2 d_M_orderLongs_43 ?_
    refine wz_ne (tgt := 61) hx hb d_M_orderLongs_44 (by decide) (fun e1_61 => ?_) (fun e1_61 => ?_)
    · refine K61 r32n (hj.trans (by unfold f_M_orderLongs_32u; first | with_reducible exact if_pos e1_61 | exact if_pos e1_61)) H locs ?_ ?_ hS ls (lv_sub hl [0, 1, 2, 3, 4, 5] rfl)
      · with_reducible exact hP
      · with_reducible exact hD
    · refine lv_iload hx hb d_M_orderLongs_47 (lv_at hl 5 rfl) ?_
      refine wz_eq (tgt := 65) hx hb d_M_orderLongs_49 (by decide) (fun e2_65 => ?_) (fun e2_65 => ?_)
      · refine K65 r32n (hj.trans (by unfold f_M_orderLongs_32u; first | with_reducible exact (if_neg e1_61).trans (if_neg e2_65) | exact (if_neg e1_61).trans (if_neg e2_65))) H locs ?_ ?_ hS ls (lv_sub hl [0, 1, 2, 3, 4, 5] rfl)
        · with_reducible exact hP
        · with_reducible exact hD
      · refine lv_lload hx hb d_M_orderLongs_52 (lv_at hl 4 rfl) ?_
        refine lv_ldc2 (v := 9223372036854775807) hx hb hown (hG (.constantLong R_M 56 (9223372036854775807)) gx44) d_M_orderLongs_54 ?_
        refine wl_ne (tgt := 65) hx hb d_M_orderLongs_57 d_M_orderLongs_58 (by decide) (fun e3_65 => ?_) (fun e3_65 => ?_)
        · refine K65 r32n (hj.trans (by unfold f_M_orderLongs_32u; first | with_reducible exact (if_neg e1_61).trans ((if_pos e2_65).trans (if_neg e3_65)) | exact (if_neg e1_61).trans ((if_pos e2_65).trans (if_neg e3_65)))) H locs ?_ ?_ hS ls (lv_sub hl [0, 1, 2, 3, 4, 5] rfl)
          · with_reducible exact hP
          · with_reducible exact hD
        · refine K61 r32n (hj.trans (by unfold f_M_orderLongs_32u; first | with_reducible exact (if_neg e1_61).trans ((if_pos e2_65).trans (if_pos e3_65)) | exact (if_neg e1_61).trans ((if_pos e2_65).trans (if_pos e3_65)))) H locs ?_ ?_ hS ls (lv_sub hl [0, 1, 2, 3, 4, 5] rfl)
          · with_reducible exact hP
          · with_reducible exact hD
  have K32 : ∀ (s32_0 : Bool) (hj : f_M_orderLongs r0 p1 p2 p3 p4 p5 = f_M_orderLongs_32 r0 p1 p2 p3 p4 p5 s32_0) (H : Heap) (locs : List Loc) (hP : va_P (dC, dI) classes (mW ad cJ cZ c0 r0 w0 s0) H) (hD : va_D A (mW ad cJ cZ c0 r0 w0 s0)) (hS : va_S A s.heap H locs) (ls : Array Slot) (hl : lv_has ls 12 [(0, .ref (ad 0)), (1, .int (nI p1)), (2, .int (nI p2)), (3, .long (p3)), (5, .long (p4)), (7, .int (bI p5))]), W p l e (headSpec w_M_orderLongs ({ frames := 0, cells := 0, slots := 0, locals := 0 } : Room)).room s m ([.ref (ad 0), .int (nI p1), .int (nI p2), .long (p3), .long (p4), .int (bI p5)] : List Value).toArray below meth c H locs 0 0 (MQ below (va_Qv (fun _ : Unit => True) (mB (dC, dI) A (mW ad cJ cZ c0 (f_M_orderLongs r0 p1 p2 p3 p4 p5) w0 s0)) A) ([.ref (ad 0), .int (nI p1), .int (nI p2), .long (p3), .long (p4), .int (bI p5)] : List Value).toArray s 0 0 A) (F0 m 32 ls [.int (bI s32_0), .int (nI p1), .ref (ad 7)]) := by
    intro s32_0 hj H locs hP hD hS ls hl
    refine ms_7 (P := p1) (x := s32_0) hx hb hK hP hD hS rfl b1 d_M_orderLongs_32 (fun H locs hP hD hS => ?_)
    obtain ⟨r32n, er32n⟩ : ∃ z, z = u7 r0 p1 s32_0 := ⟨_, rfl⟩
    rw [← er32n] at hP hD
    refine K32u r32n (Eq.trans (hj.trans rfl) (congrArg (fun r32n => f_M_orderLongs_32u r0 p1 p2 p3 p4 p5 r32n) er32n.symm)) H locs ?_ ?_ hS ls (lv_sub hl [0, 1, 2, 3, 4, 5] rfl)
    · with_reducible exact hP
    · with_reducible exact hD
  have K31 : ∀ (hj : f_M_orderLongs r0 p1 p2 p3 p4 p5 = f_M_orderLongs_31 r0 p1 p2 p3 p4 p5) (H : Heap) (locs : List Loc) (hP : va_P (dC, dI) classes (mW ad cJ cZ c0 r0 w0 s0) H) (hD : va_D A (mW ad cJ cZ c0 r0 w0 s0)) (hS : va_S A s.heap H locs) (ls : Array Slot) (hl : lv_has ls 12 [(0, .ref (ad 0)), (1, .int (nI p1)), (2, .int (nI p2)), (3, .long (p3)), (5, .long (p4)), (7, .int (bI p5))]), W p l e (headSpec w_M_orderLongs ({ frames := 0, cells := 0, slots := 0, locals := 0 } : Room)).room s m ([.ref (ad 0), .int (nI p1), .int (nI p2), .long (p3), .long (p4), .int (bI p5)] : List Value).toArray below meth c H locs 0 0 (MQ below (va_Qv (fun _ : Unit => True) (mB (dC, dI) A (mW ad cJ cZ c0 (f_M_orderLongs r0 p1 p2 p3 p4 p5) w0 s0)) A) ([.ref (ad 0), .int (nI p1), .int (nI p2), .long (p3), .long (p4), .int (bI p5)] : List Value).toArray s 0 0 A) (F0 m 31 ls [.int (nI p1), .ref (ad 7)]) := by
    intro hj H locs hP hD hS ls hl
    refine lv_iconst (v := 0) hx hb d_M_orderLongs_31 (by decide) ?_
    refine K32 false (hj.trans rfl) H locs ?_ ?_ hS ls (lv_sub hl [0, 1, 2, 3, 4, 5] rfl)
    · with_reducible exact hP
    · with_reducible exact hD
  have K27 : ∀ (hj : f_M_orderLongs r0 p1 p2 p3 p4 p5 = f_M_orderLongs_27 r0 p1 p2 p3 p4 p5) (H : Heap) (locs : List Loc) (hP : va_P (dC, dI) classes (mW ad cJ cZ c0 r0 w0 s0) H) (hD : va_D A (mW ad cJ cZ c0 r0 w0 s0)) (hS : va_S A s.heap H locs) (ls : Array Slot) (hl : lv_has ls 12 [(0, .ref (ad 0)), (1, .int (nI p1)), (2, .int (nI p2)), (3, .long (p3)), (5, .long (p4)), (7, .int (bI p5))]), W p l e (headSpec w_M_orderLongs ({ frames := 0, cells := 0, slots := 0, locals := 0 } : Room)).room s m ([.ref (ad 0), .int (nI p1), .int (nI p2), .long (p3), .long (p4), .int (bI p5)] : List Value).toArray below meth c H locs 0 0 (MQ below (va_Qv (fun _ : Unit => True) (mB (dC, dI) A (mW ad cJ cZ c0 (f_M_orderLongs r0 p1 p2 p3 p4 p5) w0 s0)) A) ([.ref (ad 0), .int (nI p1), .int (nI p2), .long (p3), .long (p4), .int (bI p5)] : List Value).toArray s 0 0 A) (F0 m 27 ls [.int (nI p1), .ref (ad 7)]) := by
    intro hj H locs hP hD hS ls hl
    refine lv_iconst (v := 1) hx hb d_M_orderLongs_27 (by decide) ?_
    refine lv_goto (tgt := 32) hx hb d_M_orderLongs_28 (by decide) ?_
    refine K32 true (hj.trans rfl) H locs ?_ ?_ hS ls (lv_sub hl [0, 1, 2, 3, 4, 5] rfl)
    · with_reducible exact hP
    · with_reducible exact hD
  refine lv_aload_n hx hb d_M_orderLongs_0 rfl (lv_at hl 0 rfl) ?_
  refine va_get (D := (dC, dI)) (ci := 2) (v := .ref (ad 7)) (C := R_M) (T := F_M) (N := 10) hx hb hts (fun w h => List.mem_cons_of_mem _ (uw_M w h)) hown hK hP 0 rfl rfl 7 (by decide) (hG (.fieldLink R_M 28 "ValueSieveModel" "empty" "[Z") gx16) (fun _ h9 => h9) rfl d_M_orderLongs_1 ?_
  refine lv_iload_n hx hb d_M_orderLongs_4 rfl (lv_at hl 1 rfl) ?_
  refine lv_aload_n hx hb d_M_orderLongs_5 rfl (lv_at hl 0 rfl) ?_
  refine va_get (D := (dC, dI)) (ci := 2) (v := .ref (ad 7)) (C := R_M) (T := F_M) (N := 10) hx hb hts (fun w h => List.mem_cons_of_mem _ (uw_M w h)) hown hK hP 0 rfl rfl 7 (by decide) (hG (.fieldLink R_M 28 "ValueSieveModel" "empty" "[Z") gx16) (fun _ h9 => h9) rfl d_M_orderLongs_6 ?_
  refine lv_iload_n hx hb d_M_orderLongs_9 rfl (lv_at hl 1 rfl) ?_
  refine ml_7 (P := p1) hx hb hK hP rfl b1 d_M_orderLongs_10 ?_
  refine wz_ne (tgt := 27) hx hb d_M_orderLongs_11 (by decide) (fun e1_27 => ?_) (fun e1_27 => ?_)
  · refine K27 (by unfold f_M_orderLongs; first | with_reducible exact if_pos e1_27 | exact if_pos e1_27) s.heap [] ?_ ?_ hS ls (lv_sub hl [0, 1, 2, 3, 4, 5] rfl)
    · with_reducible exact hP
    · with_reducible exact hD
  · refine lv_iload hx hb d_M_orderLongs_14 (lv_at hl 5 rfl) ?_
    refine wz_eq (tgt := 31) hx hb d_M_orderLongs_16 (by decide) (fun e2_31 => ?_) (fun e2_31 => ?_)
    · refine K31 (by unfold f_M_orderLongs; first | with_reducible exact (if_neg e1_27).trans (if_neg e2_31) | exact (if_neg e1_27).trans (if_neg e2_31)) s.heap [] ?_ ?_ hS ls (lv_sub hl [0, 1, 2, 3, 4, 5] rfl)
      · with_reducible exact hP
      · with_reducible exact hD
    · refine lv_lload_n hx hb d_M_orderLongs_19 rfl (lv_at hl 3 rfl) ?_
      refine lv_ldc2 (v := -9223372036854775808) hx hb hown (hG (.constantLong R_M 54 (-9223372036854775808)) gx43) d_M_orderLongs_20 ?_
      refine wl_ne (tgt := 31) hx hb d_M_orderLongs_23 d_M_orderLongs_24 (by decide) (fun e3_31 => ?_) (fun e3_31 => ?_)
      · refine K31 (by unfold f_M_orderLongs; first | with_reducible exact (if_neg e1_27).trans ((if_pos e2_31).trans (if_neg e3_31)) | exact (if_neg e1_27).trans ((if_pos e2_31).trans (if_neg e3_31))) s.heap [] ?_ ?_ hS ls (lv_sub hl [0, 1, 2, 3, 4, 5] rfl)
        · with_reducible exact hP
        · with_reducible exact hD
      · refine K27 (by unfold f_M_orderLongs; first | with_reducible exact (if_neg e1_27).trans ((if_pos e2_31).trans (if_pos e3_31)) | exact (if_neg e1_27).trans ((if_pos e2_31).trans (if_pos e3_31))) s.heap [] ?_ ?_ hS ls (lv_sub hl [0, 1, 2, 3, 4, 5] rfl)
        · with_reducible exact hP
        · with_reducible exact hD
-- force
theorem d_M_force_0 : decode b_M_force 0 = .ok (.aload_n 0, 1) := by decide +kernel
theorem d_M_force_1 : decode b_M_force 1 = .ok (.getfield 28, 3) := by decide +kernel
theorem d_M_force_4 : decode b_M_force 4 = .ok (.iload_n 1, 1) := by decide +kernel
theorem d_M_force_5 : decode b_M_force 5 = .ok (.aload_n 0, 1) := by decide +kernel
theorem d_M_force_6 : decode b_M_force 6 = .ok (.getfield 28, 3) := by decide +kernel
theorem d_M_force_9 : decode b_M_force 9 = .ok (.iload_n 1, 1) := by decide +kernel
theorem d_M_force_10 : decode b_M_force 10 = .ok (.baload, 1) := by decide +kernel
theorem d_M_force_11 : decode b_M_force 11 = .ok (.ifCond .ne 41, 3) := by decide +kernel
theorem d_M_force_14 : decode b_M_force 14 = .ok (.aload_n 0, 1) := by decide +kernel
theorem d_M_force_15 : decode b_M_force 15 = .ok (.getfield 7, 3) := by decide +kernel
theorem d_M_force_18 : decode b_M_force 18 = .ok (.iload_n 1, 1) := by decide +kernel
theorem d_M_force_19 : decode b_M_force 19 = .ok (.laload, 1) := by decide +kernel
theorem d_M_force_20 : decode b_M_force 20 = .ok (.lload 4, 2) := by decide +kernel
theorem d_M_force_22 : decode b_M_force 22 = .ok (.land, 1) := by decide +kernel
theorem d_M_force_23 : decode b_M_force 23 = .ok (.lconst 0, 1) := by decide +kernel
theorem d_M_force_24 : decode b_M_force 24 = .ok (.lcmp, 1) := by decide +kernel
theorem d_M_force_25 : decode b_M_force 25 = .ok (.ifCond .ne 27, 3) := by decide +kernel
theorem d_M_force_28 : decode b_M_force 28 = .ok (.aload_n 0, 1) := by decide +kernel
theorem d_M_force_29 : decode b_M_force 29 = .ok (.getfield 7, 3) := by decide +kernel
theorem d_M_force_32 : decode b_M_force 32 = .ok (.iload_n 1, 1) := by decide +kernel
theorem d_M_force_33 : decode b_M_force 33 = .ok (.laload, 1) := by decide +kernel
theorem d_M_force_34 : decode b_M_force 34 = .ok (.aload_n 0, 1) := by decide +kernel
theorem d_M_force_35 : decode b_M_force 35 = .ok (.getfield 13, 3) := by decide +kernel
theorem d_M_force_38 : decode b_M_force 38 = .ok (.iload_n 1, 1) := by decide +kernel
theorem d_M_force_39 : decode b_M_force 39 = .ok (.laload, 1) := by decide +kernel
theorem d_M_force_40 : decode b_M_force 40 = .ok (.lor, 1) := by decide +kernel
theorem d_M_force_41 : decode b_M_force 41 = .ok (.ldc2_w 49, 3) := by decide +kernel
theorem d_M_force_44 : decode b_M_force 44 = .ok (.lxor, 1) := by decide +kernel
theorem d_M_force_45 : decode b_M_force 45 = .ok (.lload_n 2, 1) := by decide +kernel
theorem d_M_force_46 : decode b_M_force 46 = .ok (.land, 1) := by decide +kernel
theorem d_M_force_47 : decode b_M_force 47 = .ok (.lconst 0, 1) := by decide +kernel
theorem d_M_force_48 : decode b_M_force 48 = .ok (.lcmp, 1) := by decide +kernel
theorem d_M_force_49 : decode b_M_force 49 = .ok (.ifCond .eq 7, 3) := by decide +kernel
theorem d_M_force_52 : decode b_M_force 52 = .ok (.iconst 1, 1) := by decide +kernel
theorem d_M_force_53 : decode b_M_force 53 = .ok (.goto 4, 3) := by decide +kernel
theorem d_M_force_56 : decode b_M_force 56 = .ok (.iconst 0, 1) := by decide +kernel
theorem d_M_force_57 : decode b_M_force 57 = .ok (.bastore, 1) := by decide +kernel
theorem d_M_force_58 : decode b_M_force 58 = .ok (.aload_n 0, 1) := by decide +kernel
theorem d_M_force_59 : decode b_M_force 59 = .ok (.getfield 7, 3) := by decide +kernel
theorem d_M_force_62 : decode b_M_force 62 = .ok (.iload_n 1, 1) := by decide +kernel
theorem d_M_force_63 : decode b_M_force 63 = .ok (.aload_n 0, 1) := by decide +kernel
theorem d_M_force_64 : decode b_M_force 64 = .ok (.getfield 7, 3) := by decide +kernel
theorem d_M_force_67 : decode b_M_force 67 = .ok (.iload_n 1, 1) := by decide +kernel
theorem d_M_force_68 : decode b_M_force 68 = .ok (.laload, 1) := by decide +kernel
theorem d_M_force_69 : decode b_M_force 69 = .ok (.lload_n 2, 1) := by decide +kernel
theorem d_M_force_70 : decode b_M_force 70 = .ok (.lor, 1) := by decide +kernel
theorem d_M_force_71 : decode b_M_force 71 = .ok (.lastore, 1) := by decide +kernel
theorem d_M_force_72 : decode b_M_force 72 = .ok (.aload_n 0, 1) := by decide +kernel
theorem d_M_force_73 : decode b_M_force 73 = .ok (.getfield 13, 3) := by decide +kernel
theorem d_M_force_76 : decode b_M_force 76 = .ok (.iload_n 1, 1) := by decide +kernel
theorem d_M_force_77 : decode b_M_force 77 = .ok (.aload_n 0, 1) := by decide +kernel
theorem d_M_force_78 : decode b_M_force 78 = .ok (.getfield 13, 3) := by decide +kernel
theorem d_M_force_81 : decode b_M_force 81 = .ok (.iload_n 1, 1) := by decide +kernel
theorem d_M_force_82 : decode b_M_force 82 = .ok (.laload, 1) := by decide +kernel
theorem d_M_force_83 : decode b_M_force 83 = .ok (.lload_n 2, 1) := by decide +kernel
theorem d_M_force_84 : decode b_M_force 84 = .ok (.lload 4, 2) := by decide +kernel
theorem d_M_force_86 : decode b_M_force 86 = .ok (.lor, 1) := by decide +kernel
theorem d_M_force_87 : decode b_M_force 87 = .ok (.ldc2_w 49, 3) := by decide +kernel
theorem d_M_force_90 : decode b_M_force 90 = .ok (.lxor, 1) := by decide +kernel
theorem d_M_force_91 : decode b_M_force 91 = .ok (.land, 1) := by decide +kernel
theorem d_M_force_92 : decode b_M_force 92 = .ok (.lastore, 1) := by decide +kernel
theorem d_M_force_93 : decode b_M_force 93 = .ok (.return_, 1) := by decide +kernel
def f_M_force_92u (r0 : (Nat → VV)) (p1 : Nat) (p2 : Int64) (p3 : Int64) (r92n : (Nat → VV)) : (Nat → VV) := r92n
def f_M_force_71u (r0 : (Nat → VV)) (p1 : Nat) (p2 : Int64) (p3 : Int64) (r71n : (Nat → VV)) : (Nat → VV) := f_M_force_92u r0 p1 p2 p3 (u2 r71n p1 (((r71n p1).2.1) &&& ((p2 ||| p3) ^^^ (-1 : Int64))))
def f_M_force_57u (r0 : (Nat → VV)) (p1 : Nat) (p2 : Int64) (p3 : Int64) (r57n : (Nat → VV)) : (Nat → VV) := f_M_force_71u r0 p1 p2 p3 (u1 r57n p1 (((r57n p1).1) ||| p2))
def f_M_force_57 (r0 : (Nat → VV)) (p1 : Nat) (p2 : Int64) (p3 : Int64) (s57_0 : Bool) : (Nat → VV) := f_M_force_57u r0 p1 p2 p3 (u7 r0 p1 s57_0)
def f_M_force_52 (r0 : (Nat → VV)) (p1 : Nat) (p2 : Int64) (p3 : Int64) : (Nat → VV) := f_M_force_57 r0 p1 p2 p3 true
def f_M_force (r0 : (Nat → VV)) (p1 : Nat) (p2 : Int64) (p3 : Int64) : (Nat → VV) := (if ((r0 p1).2.2.2.2.2.2) = true then f_M_force_52 r0 p1 p2 p3 else (if (((r0 p1).1) &&& p3) = 0 then (if (((((r0 p1).1) ||| ((r0 p1).2.1)) ^^^ (-1 : Int64)) &&& p2) = 0 then f_M_force_57 r0 p1 p2 p3 false else f_M_force_52 r0 p1 p2 p3) else f_M_force_52 r0 p1 p2 p3))
set_option maxRecDepth 100000 in
set_option maxHeartbeats 4000000 in
theorem c_M_force (l : Launch) (dC : Nat → ClassId) (dI : Nat → Nat → Nat) (ad : Nat → Nat) (cJ cZ : ClassId) (sz : Nat) (c0 : Int32) (r0 : (Nat → VV)) (w0 : (Nat → Int64)) (s0 : Int32) (p1 : Nat) (p2 : Int64) (p3 : Int64) (b1 : p1 < 24) : Met l y_M_force w_M_force ({ frames := 0, cells := 0, slots := 0, locals := 0 } : Room) (va_Pc [.ref (ad 0), .int (nI p1), .long (p2), .long (p3)] (nP (dC, dI) (mT cJ cZ) (mW ad cJ cZ c0 r0 w0 s0) sz)) (va_Qv (fun _ : Unit => True) (mB (dC, dI) (va_A (mW ad cJ cZ c0 r0 w0 s0) sz) (mW ad cJ cZ c0 (f_M_force r0 p1 p2 p3) w0 s0)) (va_A (mW ad cJ cZ c0 r0 w0 s0) sz)) 0 0 (va_A (mW ad cJ cZ c0 r0 w0 s0) sz) := by
  refine Met.ofW (cc := b_M_force) (maxL := 6) (ret := none) (by decide) rfl ?_
  intro p e s m args below meth c s₁ B hml hv
  obtain ⟨rfl, hsz, hP, hK, hD0⟩ := hv
  have hx := B.exec
  have hb := B.bytes
  have hr := B.returns
  have hts := atoms_spec (ws := w_M_force) B.pre
  have hG : ∀ w ∈ gM, w.before _ s = true := fun w h => hts w (List.mem_cons_of_mem _ h)
  have hown : s.vm.findClass R_M = some m.cls := findClass_of_methodNamed B.named
  have hlocks := B.notSynchronized
  subst hsz
  have hD := hD0.self (sz := s.heap.size)
  generalize hAe : va_A (mW ad cJ cZ c0 r0 w0 s0) s.heap.size = A at hD ⊢
  have hA : ∀ q : Nat, s.heap.size ≤ q → A q := fun q h => by rw [← hAe]; exact Or.inr h
  have hS : va_S A s.heap s.heap [] := va_S.rf
  have hl := lv_entry ([.ref (ad 0), .int (nI p1), .long (p2), .long (p3)]) (n := 6) (Nat.le_of_ble_eq_true rfl)
  rw [lg_entry_eq]
  generalize (lg_sl ([.ref (ad 0), .int (nI p1), .long (p2), .long (p3)]) ++ List.replicate (6 - (lg_sl ([.ref (ad 0), .int (nI p1), .long (p2), .long (p3)])).length) Slot.unset).toArray = ls at hl ⊢
  have hl : lv_has ls 6 [(0, .ref (ad 0)), (1, .int (nI p1)), (2, .long (p2)), (4, .long (p3))] := hl
  have K92u : ∀ (r92n : (Nat → VV)) (hj : f_M_force r0 p1 p2 p3 = f_M_force_92u r0 p1 p2 p3 r92n) (H : Heap) (locs : List Loc) (hP : va_P (dC, dI) classes (mW ad cJ cZ c0 r92n w0 s0) H) (hD : va_D A (mW ad cJ cZ c0 r92n w0 s0)) (hS : va_S A s.heap H locs) (ls : Array Slot) (hl : lv_has ls 6 []), W p l e (headSpec w_M_force ({ frames := 0, cells := 0, slots := 0, locals := 0 } : Room)).room s m ([.ref (ad 0), .int (nI p1), .long (p2), .long (p3)] : List Value).toArray below meth c H locs 0 0 (MQ below (va_Qv (fun _ : Unit => True) (mB (dC, dI) A (mW ad cJ cZ c0 (f_M_force r0 p1 p2 p3) w0 s0)) A) ([.ref (ad 0), .int (nI p1), .long (p2), .long (p3)] : List Value).toArray s 0 0 A) (F0 m 93 ls []) := by
    intro r92n hj H locs hP hD hS ls hl
    have fe : f_M_force r0 p1 p2 p3 = r92n := hj.trans rfl
    exact W.vret hx hb hr (fun t ht hW => ⟨⟨(), rfl, trivial, by rw [ht, fe]; exact hP, by rw [fe]; exact hD⟩, hS.F ht⟩) hS.2.2 d_M_force_93
  have K71u : ∀ (r71n : (Nat → VV)) (hj : f_M_force r0 p1 p2 p3 = f_M_force_71u r0 p1 p2 p3 r71n) (H : Heap) (locs : List Loc) (hP : va_P (dC, dI) classes (mW ad cJ cZ c0 r71n w0 s0) H) (hD : va_D A (mW ad cJ cZ c0 r71n w0 s0)) (hS : va_S A s.heap H locs) (ls : Array Slot) (hl : lv_has ls 6 [(0, .ref (ad 0)), (1, .int (nI p1)), (2, .long (p2)), (4, .long (p3))]), W p l e (headSpec w_M_force ({ frames := 0, cells := 0, slots := 0, locals := 0 } : Room)).room s m ([.ref (ad 0), .int (nI p1), .long (p2), .long (p3)] : List Value).toArray below meth c H locs 0 0 (MQ below (va_Qv (fun _ : Unit => True) (mB (dC, dI) A (mW ad cJ cZ c0 (f_M_force r0 p1 p2 p3) w0 s0)) A) ([.ref (ad 0), .int (nI p1), .long (p2), .long (p3)] : List Value).toArray s 0 0 A) (F0 m 72 ls []) := by
    intro r71n hj H locs hP hD hS ls hl
    refine lv_aload_n hx hb d_M_force_72 rfl (lv_at hl 0 rfl) ?_
    refine va_get (D := (dC, dI)) (ci := 2) (v := .ref (ad 2)) (C := R_M) (T := F_M) (N := 10) hx hb hts (fun w h => List.mem_cons_of_mem _ (uw_M w h)) hown hK hP 0 rfl rfl 2 (by decide) (hG (.fieldLink R_M 13 "ValueSieveModel" "open" "[J") gx11) (fun _ h9 => h9) rfl d_M_force_73 ?_
    refine lv_iload_n hx hb d_M_force_76 rfl (lv_at hl 1 rfl) ?_
    refine lv_aload_n hx hb d_M_force_77 rfl (lv_at hl 0 rfl) ?_
    refine va_get (D := (dC, dI)) (ci := 2) (v := .ref (ad 2)) (C := R_M) (T := F_M) (N := 10) hx hb hts (fun w h => List.mem_cons_of_mem _ (uw_M w h)) hown hK hP 0 rfl rfl 2 (by decide) (hG (.fieldLink R_M 13 "ValueSieveModel" "open" "[J") gx11) (fun _ h9 => h9) rfl d_M_force_78 ?_
    refine lv_iload_n hx hb d_M_force_81 rfl (lv_at hl 1 rfl) ?_
    refine ml_2 (P := p1) hx hb hK hP rfl b1 d_M_force_82 ?_
    refine lv_lload_n hx hb d_M_force_83 rfl (lv_at hl 2 rfl) ?_
    refine lv_lload hx hb d_M_force_84 (lv_at hl 3 rfl) ?_
    refine lv_lor hx hb d_M_force_86 ?_
    refine lv_ldc2 (v := -1) hx hb hown (hG (.constantLong R_M 49 (-1)) gx42) d_M_force_87 ?_
    refine lv_lxor hx hb d_M_force_90 ?_
    refine lv_land hx hb d_M_force_91 ?_
    refine ms_2 (P := p1) (x := ((r71n p1).2.1) &&& ((p2 ||| p3) ^^^ (-1 : Int64))) hx hb hK hP hD hS rfl b1 d_M_force_92 (fun H locs hP hD hS => ?_)
    obtain ⟨r92n, er92n⟩ : ∃ z, z = u2 r71n p1 (((r71n p1).2.1) &&& ((p2 ||| p3) ^^^ (-1 : Int64))) := ⟨_, rfl⟩
    rw [← er92n] at hP hD
    refine K92u r92n (Eq.trans (hj.trans rfl) (congrArg (fun r92n => f_M_force_92u r0 p1 p2 p3 r92n) er92n.symm)) H locs ?_ ?_ hS ls (lv_sub hl [] rfl)
    · with_reducible exact hP
    · with_reducible exact hD
  have K57u : ∀ (r57n : (Nat → VV)) (hj : f_M_force r0 p1 p2 p3 = f_M_force_57u r0 p1 p2 p3 r57n) (H : Heap) (locs : List Loc) (hP : va_P (dC, dI) classes (mW ad cJ cZ c0 r57n w0 s0) H) (hD : va_D A (mW ad cJ cZ c0 r57n w0 s0)) (hS : va_S A s.heap H locs) (ls : Array Slot) (hl : lv_has ls 6 [(0, .ref (ad 0)), (1, .int (nI p1)), (2, .long (p2)), (4, .long (p3))]), W p l e (headSpec w_M_force ({ frames := 0, cells := 0, slots := 0, locals := 0 } : Room)).room s m ([.ref (ad 0), .int (nI p1), .long (p2), .long (p3)] : List Value).toArray below meth c H locs 0 0 (MQ below (va_Qv (fun _ : Unit => True) (mB (dC, dI) A (mW ad cJ cZ c0 (f_M_force r0 p1 p2 p3) w0 s0)) A) ([.ref (ad 0), .int (nI p1), .long (p2), .long (p3)] : List Value).toArray s 0 0 A) (F0 m 58 ls []) := by
    intro r57n hj H locs hP hD hS ls hl
    refine lv_aload_n hx hb d_M_force_58 rfl (lv_at hl 0 rfl) ?_
    refine va_get (D := (dC, dI)) (ci := 2) (v := .ref (ad 1)) (C := R_M) (T := F_M) (N := 10) hx hb hts (fun w h => List.mem_cons_of_mem _ (uw_M w h)) hown hK hP 0 rfl rfl 1 (by decide) (hG (.fieldLink R_M 7 "ValueSieveModel" "bits" "[J") gx10) (fun _ h9 => h9) rfl d_M_force_59 ?_
    refine lv_iload_n hx hb d_M_force_62 rfl (lv_at hl 1 rfl) ?_
    refine lv_aload_n hx hb d_M_force_63 rfl (lv_at hl 0 rfl) ?_
    refine va_get (D := (dC, dI)) (ci := 2) (v := .ref (ad 1)) (C := R_M) (T := F_M) (N := 10) hx hb hts (fun w h => List.mem_cons_of_mem _ (uw_M w h)) hown hK hP 0 rfl rfl 1 (by decide) (hG (.fieldLink R_M 7 "ValueSieveModel" "bits" "[J") gx10) (fun _ h9 => h9) rfl d_M_force_64 ?_
    refine lv_iload_n hx hb d_M_force_67 rfl (lv_at hl 1 rfl) ?_
    refine ml_1 (P := p1) hx hb hK hP rfl b1 d_M_force_68 ?_
    refine lv_lload_n hx hb d_M_force_69 rfl (lv_at hl 2 rfl) ?_
    refine lv_lor hx hb d_M_force_70 ?_
    refine ms_1 (P := p1) (x := ((r57n p1).1) ||| p2) hx hb hK hP hD hS rfl b1 d_M_force_71 (fun H locs hP hD hS => ?_)
    obtain ⟨r71n, er71n⟩ : ∃ z, z = u1 r57n p1 (((r57n p1).1) ||| p2) := ⟨_, rfl⟩
    rw [← er71n] at hP hD
    refine K71u r71n (Eq.trans (hj.trans rfl) (congrArg (fun r71n => f_M_force_71u r0 p1 p2 p3 r71n) er71n.symm)) H locs ?_ ?_ hS ls (lv_sub hl [0, 1, 2, 3] rfl)
    · with_reducible exact hP
    · with_reducible exact hD
  have K57 : ∀ (s57_0 : Bool) (hj : f_M_force r0 p1 p2 p3 = f_M_force_57 r0 p1 p2 p3 s57_0) (H : Heap) (locs : List Loc) (hP : va_P (dC, dI) classes (mW ad cJ cZ c0 r0 w0 s0) H) (hD : va_D A (mW ad cJ cZ c0 r0 w0 s0)) (hS : va_S A s.heap H locs) (ls : Array Slot) (hl : lv_has ls 6 [(0, .ref (ad 0)), (1, .int (nI p1)), (2, .long (p2)), (4, .long (p3))]), W p l e (headSpec w_M_force ({ frames := 0, cells := 0, slots := 0, locals := 0 } : Room)).room s m ([.ref (ad 0), .int (nI p1), .long (p2), .long (p3)] : List Value).toArray below meth c H locs 0 0 (MQ below (va_Qv (fun _ : Unit => True) (mB (dC, dI) A (mW ad cJ cZ c0 (f_M_force r0 p1 p2 p3) w0 s0)) A) ([.ref (ad 0), .int (nI p1), .long (p2), .long (p3)] : List Value).toArray s 0 0 A) (F0 m 57 ls [.int (bI s57_0), .int (nI p1), .ref (ad 7)]) := by
    intro s57_0 hj H locs hP hD hS ls hl
    refine ms_7 (P := p1) (x := s57_0) hx hb hK hP hD hS rfl b1 d_M_force_57 (fun H locs hP hD hS => ?_)
    obtain ⟨r57n, er57n⟩ : ∃ z, z = u7 r0 p1 s57_0 := ⟨_, rfl⟩
    rw [← er57n] at hP hD
    refine K57u r57n (Eq.trans (hj.trans rfl) (congrArg (fun r57n => f_M_force_57u r0 p1 p2 p3 r57n) er57n.symm)) H locs ?_ ?_ hS ls (lv_sub hl [0, 1, 2, 3] rfl)
    · with_reducible exact hP
    · with_reducible exact hD
  have K52 : ∀ (hj : f_M_force r0 p1 p2 p3 = f_M_force_52 r0 p1 p2 p3) (H : Heap) (locs : List Loc) (hP : va_P (dC, dI) classes (mW ad cJ cZ c0 r0 w0 s0) H) (hD : va_D A (mW ad cJ cZ c0 r0 w0 s0)) (hS : va_S A s.heap H locs) (ls : Array Slot) (hl : lv_has ls 6 [(0, .ref (ad 0)), (1, .int (nI p1)), (2, .long (p2)), (4, .long (p3))]), W p l e (headSpec w_M_force ({ frames := 0, cells := 0, slots := 0, locals := 0 } : Room)).room s m ([.ref (ad 0), .int (nI p1), .long (p2), .long (p3)] : List Value).toArray below meth c H locs 0 0 (MQ below (va_Qv (fun _ : Unit => True) (mB (dC, dI) A (mW ad cJ cZ c0 (f_M_force r0 p1 p2 p3) w0 s0)) A) ([.ref (ad 0), .int (nI p1), .long (p2), .long (p3)] : List Value).toArray s 0 0 A) (F0 m 52 ls [.int (nI p1), .ref (ad 7)]) := by
    intro hj H locs hP hD hS ls hl
    refine lv_iconst (v := 1) hx hb d_M_force_52 (by decide) ?_
    refine lv_goto (tgt := 57) hx hb d_M_force_53 (by decide) ?_
    refine K57 true (hj.trans rfl) H locs ?_ ?_ hS ls (lv_sub hl [0, 1, 2, 3] rfl)
    · with_reducible exact hP
    · with_reducible exact hD
  refine lv_aload_n hx hb d_M_force_0 rfl (lv_at hl 0 rfl) ?_
  refine va_get (D := (dC, dI)) (ci := 2) (v := .ref (ad 7)) (C := R_M) (T := F_M) (N := 10) hx hb hts (fun w h => List.mem_cons_of_mem _ (uw_M w h)) hown hK hP 0 rfl rfl 7 (by decide) (hG (.fieldLink R_M 28 "ValueSieveModel" "empty" "[Z") gx16) (fun _ h9 => h9) rfl d_M_force_1 ?_
  refine lv_iload_n hx hb d_M_force_4 rfl (lv_at hl 1 rfl) ?_
  refine lv_aload_n hx hb d_M_force_5 rfl (lv_at hl 0 rfl) ?_
  refine va_get (D := (dC, dI)) (ci := 2) (v := .ref (ad 7)) (C := R_M) (T := F_M) (N := 10) hx hb hts (fun w h => List.mem_cons_of_mem _ (uw_M w h)) hown hK hP 0 rfl rfl 7 (by decide) (hG (.fieldLink R_M 28 "ValueSieveModel" "empty" "[Z") gx16) (fun _ h9 => h9) rfl d_M_force_6 ?_
  refine lv_iload_n hx hb d_M_force_9 rfl (lv_at hl 1 rfl) ?_
  refine ml_7 (P := p1) hx hb hK hP rfl b1 d_M_force_10 ?_
  refine wz_ne (tgt := 52) hx hb d_M_force_11 (by decide) (fun e1_52 => ?_) (fun e1_52 => ?_)
  · refine K52 (by unfold f_M_force; first | with_reducible exact if_pos e1_52 | exact if_pos e1_52) s.heap [] ?_ ?_ hS ls (lv_sub hl [0, 1, 2, 3] rfl)
    · with_reducible exact hP
    · with_reducible exact hD
  · refine lv_aload_n hx hb d_M_force_14 rfl (lv_at hl 0 rfl) ?_
    refine va_get (D := (dC, dI)) (ci := 2) (v := .ref (ad 1)) (C := R_M) (T := F_M) (N := 10) hx hb hts (fun w h => List.mem_cons_of_mem _ (uw_M w h)) hown hK hP 0 rfl rfl 1 (by decide) (hG (.fieldLink R_M 7 "ValueSieveModel" "bits" "[J") gx10) (fun _ h9 => h9) rfl d_M_force_15 ?_
    refine lv_iload_n hx hb d_M_force_18 rfl (lv_at hl 1 rfl) ?_
    refine ml_1 (P := p1) hx hb hK hP rfl b1 d_M_force_19 ?_
    refine lv_lload hx hb d_M_force_20 (lv_at hl 3 rfl) ?_
    refine lv_land hx hb d_M_force_22 ?_
    refine lv_lconst (v := 0) hx hb d_M_force_23 (by decide) ?_
    refine wl_ne (tgt := 52) hx hb d_M_force_24 d_M_force_25 (by decide) (fun e2_52 => ?_) (fun e2_52 => ?_)
    · refine K52 (by unfold f_M_force; first | with_reducible exact (if_neg e1_52).trans (if_neg e2_52) | exact (if_neg e1_52).trans (if_neg e2_52)) s.heap [] ?_ ?_ hS ls (lv_sub hl [0, 1, 2, 3] rfl)
      · with_reducible exact hP
      · with_reducible exact hD
    · refine lv_aload_n hx hb d_M_force_28 rfl (lv_at hl 0 rfl) ?_
      refine va_get (D := (dC, dI)) (ci := 2) (v := .ref (ad 1)) (C := R_M) (T := F_M) (N := 10) hx hb hts (fun w h => List.mem_cons_of_mem _ (uw_M w h)) hown hK hP 0 rfl rfl 1 (by decide) (hG (.fieldLink R_M 7 "ValueSieveModel" "bits" "[J") gx10) (fun _ h9 => h9) rfl d_M_force_29 ?_
      refine lv_iload_n hx hb d_M_force_32 rfl (lv_at hl 1 rfl) ?_
      refine ml_1 (P := p1) hx hb hK hP rfl b1 d_M_force_33 ?_
      refine lv_aload_n hx hb d_M_force_34 rfl (lv_at hl 0 rfl) ?_
      refine va_get (D := (dC, dI)) (ci := 2) (v := .ref (ad 2)) (C := R_M) (T := F_M) (N := 10) hx hb hts (fun w h => List.mem_cons_of_mem _ (uw_M w h)) hown hK hP 0 rfl rfl 2 (by decide) (hG (.fieldLink R_M 13 "ValueSieveModel" "open" "[J") gx11) (fun _ h9 => h9) rfl d_M_force_35 ?_
      refine lv_iload_n hx hb d_M_force_38 rfl (lv_at hl 1 rfl) ?_
      refine ml_2 (P := p1) hx hb hK hP rfl b1 d_M_force_39 ?_
      refine lv_lor hx hb d_M_force_40 ?_
      refine lv_ldc2 (v := -1) hx hb hown (hG (.constantLong R_M 49 (-1)) gx42) d_M_force_41 ?_
      refine lv_lxor hx hb d_M_force_44 ?_
      refine lv_lload_n hx hb d_M_force_45 rfl (lv_at hl 2 rfl) ?_
      refine lv_land hx hb d_M_force_46 ?_
      refine lv_lconst (v := 0) hx hb d_M_force_47 (by decide) ?_
      refine wl_eq (tgt := 56) hx hb d_M_force_48 d_M_force_49 (by decide) (fun e3_56 => ?_) (fun e3_56 => ?_)
      · refine lv_iconst (v := 0) hx hb d_M_force_56 (by decide) ?_
        refine K57 false (by unfold f_M_force; first | with_reducible exact (if_neg e1_52).trans ((if_pos e2_52).trans (if_pos e3_56)) | exact (if_neg e1_52).trans ((if_pos e2_52).trans (if_pos e3_56))) s.heap [] ?_ ?_ hS ls (lv_sub hl [0, 1, 2, 3] rfl)
        · with_reducible exact hP
        · with_reducible exact hD
      · refine K52 (by unfold f_M_force; first | with_reducible exact (if_neg e1_52).trans ((if_pos e2_52).trans (if_neg e3_56)) | exact (if_neg e1_52).trans ((if_pos e2_52).trans (if_neg e3_56))) s.heap [] ?_ ?_ hS ls (lv_sub hl [0, 1, 2, 3] rfl)
        · with_reducible exact hP
        · with_reducible exact hD
