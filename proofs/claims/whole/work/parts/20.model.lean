-- operate
theorem d_M_operate_0 : decode b_M_operate 0 = .ok (.aload_n 0, 1) := by decide +kernel
theorem d_M_operate_1 : decode b_M_operate 1 = .ok (.iload_n 3, 1) := by decide +kernel
theorem d_M_operate_2 : decode b_M_operate 2 = .ok (.iload 4, 2) := by decide +kernel
theorem d_M_operate_4 : decode b_M_operate 4 = .ok (.iload 5, 2) := by decide +kernel
theorem d_M_operate_6 : decode b_M_operate 6 = .ok (.invokevirtual 98, 3) := by decide +kernel
theorem d_M_operate_9 : decode b_M_operate 9 = .ok (.ifCond .eq 4, 3) := by decide +kernel
theorem d_M_operate_12 : decode b_M_operate 12 = .ok (.return_, 1) := by decide +kernel
theorem d_M_operate_13 : decode b_M_operate 13 = .ok (.aload_n 0, 1) := by decide +kernel
theorem d_M_operate_14 : decode b_M_operate 14 = .ok (.iload_n 1, 1) := by decide +kernel
theorem d_M_operate_15 : decode b_M_operate 15 = .ok (.ifCond .lt 25, 3) := by decide +kernel
theorem d_M_operate_18 : decode b_M_operate 18 = .ok (.iload_n 1, 1) := by decide +kernel
theorem d_M_operate_19 : decode b_M_operate 19 = .ok (.bipush 12, 2) := by decide +kernel
theorem d_M_operate_21 : decode b_M_operate 21 = .ok (.if_icmp .ge 19, 3) := by decide +kernel
theorem d_M_operate_24 : decode b_M_operate 24 = .ok (.iload_n 2, 1) := by decide +kernel
theorem d_M_operate_25 : decode b_M_operate 25 = .ok (.bipush 64, 2) := by decide +kernel
theorem d_M_operate_27 : decode b_M_operate 27 = .ok (.if_icmp .eq 9, 3) := by decide +kernel
theorem d_M_operate_30 : decode b_M_operate 30 = .ok (.iload_n 2, 1) := by decide +kernel
theorem d_M_operate_31 : decode b_M_operate 31 = .ok (.bipush 32, 2) := by decide +kernel
theorem d_M_operate_33 : decode b_M_operate 33 = .ok (.if_icmp .ne 7, 3) := by decide +kernel
theorem d_M_operate_36 : decode b_M_operate 36 = .ok (.iconst 0, 1) := by decide +kernel
theorem d_M_operate_37 : decode b_M_operate 37 = .ok (.goto 4, 3) := by decide +kernel
theorem d_M_operate_40 : decode b_M_operate 40 = .ok (.iconst 2, 1) := by decide +kernel
theorem d_M_operate_41 : decode b_M_operate 41 = .ok (.putfield 35, 3) := by decide +kernel
theorem d_M_operate_44 : decode b_M_operate 44 = .ok (.aload_n 0, 1) := by decide +kernel
theorem d_M_operate_45 : decode b_M_operate 45 = .ok (.getfield 35, 3) := by decide +kernel
theorem d_M_operate_48 : decode b_M_operate 48 = .ok (.ifCond .le 4, 3) := by decide +kernel
theorem d_M_operate_51 : decode b_M_operate 51 = .ok (.return_, 1) := by decide +kernel
theorem d_M_operate_52 : decode b_M_operate 52 = .ok (.iload_n 2, 1) := by decide +kernel
theorem d_M_operate_53 : decode b_M_operate 53 = .ok (.bipush 64, 2) := by decide +kernel
theorem d_M_operate_55 : decode b_M_operate 55 = .ok (.if_icmp .ne 54, 3) := by decide +kernel
theorem d_M_operate_58 : decode b_M_operate 58 = .ok (.aload_n 0, 1) := by decide +kernel
theorem d_M_operate_59 : decode b_M_operate 59 = .ok (.iload 4, 2) := by decide +kernel
theorem d_M_operate_61 : decode b_M_operate 61 = .ok (.bipush 16, 2) := by decide +kernel
theorem d_M_operate_63 : decode b_M_operate 63 = .ok (.invokevirtual 90, 3) := by decide +kernel
theorem d_M_operate_66 : decode b_M_operate 66 = .ok (.aload_n 0, 1) := by decide +kernel
theorem d_M_operate_67 : decode b_M_operate 67 = .ok (.iload 5, 2) := by decide +kernel
theorem d_M_operate_69 : decode b_M_operate 69 = .ok (.bipush 17, 2) := by decide +kernel
theorem d_M_operate_71 : decode b_M_operate 71 = .ok (.invokevirtual 90, 3) := by decide +kernel
theorem d_M_operate_74 : decode b_M_operate 74 = .ok (.aload_n 0, 1) := by decide +kernel
theorem d_M_operate_75 : decode b_M_operate 75 = .ok (.iload_n 1, 1) := by decide +kernel
theorem d_M_operate_76 : decode b_M_operate 76 = .ok (.bipush 63, 2) := by decide +kernel
theorem d_M_operate_78 : decode b_M_operate 78 = .ok (.invokevirtual 199, 3) := by decide +kernel
theorem d_M_operate_81 : decode b_M_operate 81 = .ok (.aload_n 0, 1) := by decide +kernel
theorem d_M_operate_82 : decode b_M_operate 82 = .ok (.iload_n 3, 1) := by decide +kernel
theorem d_M_operate_83 : decode b_M_operate 83 = .ok (.bipush 18, 2) := by decide +kernel
theorem d_M_operate_85 : decode b_M_operate 85 = .ok (.iload_n 1, 1) := by decide +kernel
theorem d_M_operate_86 : decode b_M_operate 86 = .ok (.aload_n 0, 1) := by decide +kernel
theorem d_M_operate_87 : decode b_M_operate 87 = .ok (.getfield 32, 3) := by decide +kernel
theorem d_M_operate_90 : decode b_M_operate 90 = .ok (.iload 4, 2) := by decide +kernel
theorem d_M_operate_92 : decode b_M_operate 92 = .ok (.laload, 1) := by decide +kernel
theorem d_M_operate_93 : decode b_M_operate 93 = .ok (.aload_n 0, 1) := by decide +kernel
theorem d_M_operate_94 : decode b_M_operate 94 = .ok (.getfield 32, 3) := by decide +kernel
theorem d_M_operate_97 : decode b_M_operate 97 = .ok (.iload 5, 2) := by decide +kernel
theorem d_M_operate_99 : decode b_M_operate 99 = .ok (.laload, 1) := by decide +kernel
theorem d_M_operate_100 : decode b_M_operate 100 = .ok (.bipush 63, 2) := by decide +kernel
theorem d_M_operate_102 : decode b_M_operate 102 = .ok (.invokestatic 202, 3) := by decide +kernel
theorem d_M_operate_105 : decode b_M_operate 105 = .ok (.invokevirtual 105, 3) := by decide +kernel
theorem d_M_operate_108 : decode b_M_operate 108 = .ok (.return_, 1) := by decide +kernel
theorem d_M_operate_109 : decode b_M_operate 109 = .ok (.iload_n 1, 1) := by decide +kernel
theorem d_M_operate_110 : decode b_M_operate 110 = .ok (.bipush 10, 2) := by decide +kernel
theorem d_M_operate_112 : decode b_M_operate 112 = .ok (.if_icmp .ne 16, 3) := by decide +kernel
theorem d_M_operate_115 : decode b_M_operate 115 = .ok (.aload_n 0, 1) := by decide +kernel
theorem d_M_operate_116 : decode b_M_operate 116 = .ok (.iload 4, 2) := by decide +kernel
theorem d_M_operate_118 : decode b_M_operate 118 = .ok (.bipush 16, 2) := by decide +kernel
theorem d_M_operate_120 : decode b_M_operate 120 = .ok (.bipush 32, 2) := by decide +kernel
theorem d_M_operate_122 : decode b_M_operate 122 = .ok (.invokevirtual 130, 3) := by decide +kernel
theorem d_M_operate_125 : decode b_M_operate 125 = .ok (.goto 13, 3) := by decide +kernel
theorem d_M_operate_128 : decode b_M_operate 128 = .ok (.aload_n 0, 1) := by decide +kernel
theorem d_M_operate_129 : decode b_M_operate 129 = .ok (.iload 4, 2) := by decide +kernel
theorem d_M_operate_131 : decode b_M_operate 131 = .ok (.bipush 16, 2) := by decide +kernel
theorem d_M_operate_133 : decode b_M_operate 133 = .ok (.bipush 32, 2) := by decide +kernel
theorem d_M_operate_135 : decode b_M_operate 135 = .ok (.invokevirtual 120, 3) := by decide +kernel
theorem d_M_operate_138 : decode b_M_operate 138 = .ok (.aload_n 0, 1) := by decide +kernel
theorem d_M_operate_139 : decode b_M_operate 139 = .ok (.iload 5, 2) := by decide +kernel
theorem d_M_operate_141 : decode b_M_operate 141 = .ok (.bipush 17, 2) := by decide +kernel
theorem d_M_operate_143 : decode b_M_operate 143 = .ok (.bipush 32, 2) := by decide +kernel
theorem d_M_operate_145 : decode b_M_operate 145 = .ok (.invokevirtual 120, 3) := by decide +kernel
theorem d_M_operate_148 : decode b_M_operate 148 = .ok (.aload_n 0, 1) := by decide +kernel
theorem d_M_operate_149 : decode b_M_operate 149 = .ok (.iload_n 1, 1) := by decide +kernel
theorem d_M_operate_150 : decode b_M_operate 150 = .ok (.bipush 31, 2) := by decide +kernel
theorem d_M_operate_152 : decode b_M_operate 152 = .ok (.invokevirtual 199, 3) := by decide +kernel
theorem d_M_operate_155 : decode b_M_operate 155 = .ok (.aload_n 0, 1) := by decide +kernel
theorem d_M_operate_156 : decode b_M_operate 156 = .ok (.bipush 18, 2) := by decide +kernel
theorem d_M_operate_158 : decode b_M_operate 158 = .ok (.bipush 16, 2) := by decide +kernel
theorem d_M_operate_160 : decode b_M_operate 160 = .ok (.invokevirtual 90, 3) := by decide +kernel
theorem d_M_operate_163 : decode b_M_operate 163 = .ok (.aload_n 0, 1) := by decide +kernel
theorem d_M_operate_164 : decode b_M_operate 164 = .ok (.bipush 16, 2) := by decide +kernel
theorem d_M_operate_166 : decode b_M_operate 166 = .ok (.bipush 18, 2) := by decide +kernel
theorem d_M_operate_168 : decode b_M_operate 168 = .ok (.bipush 32, 2) := by decide +kernel
theorem d_M_operate_170 : decode b_M_operate 170 = .ok (.invokevirtual 120, 3) := by decide +kernel
theorem d_M_operate_173 : decode b_M_operate 173 = .ok (.iload_n 1, 1) := by decide +kernel
theorem d_M_operate_174 : decode b_M_operate 174 = .ok (.bipush 10, 2) := by decide +kernel
theorem d_M_operate_176 : decode b_M_operate 176 = .ok (.if_icmp .ne 15, 3) := by decide +kernel
theorem d_M_operate_179 : decode b_M_operate 179 = .ok (.aload_n 0, 1) := by decide +kernel
theorem d_M_operate_180 : decode b_M_operate 180 = .ok (.getfield 32, 3) := by decide +kernel
theorem d_M_operate_183 : decode b_M_operate 183 = .ok (.iload 4, 2) := by decide +kernel
theorem d_M_operate_185 : decode b_M_operate 185 = .ok (.laload, 1) := by decide +kernel
theorem d_M_operate_186 : decode b_M_operate 186 = .ok (.l2i, 1) := by decide +kernel
theorem d_M_operate_187 : decode b_M_operate 187 = .ok (.i2l, 1) := by decide +kernel
theorem d_M_operate_188 : decode b_M_operate 188 = .ok (.goto 14, 3) := by decide +kernel
theorem d_M_operate_191 : decode b_M_operate 191 = .ok (.aload_n 0, 1) := by decide +kernel
theorem d_M_operate_192 : decode b_M_operate 192 = .ok (.getfield 32, 3) := by decide +kernel
theorem d_M_operate_195 : decode b_M_operate 195 = .ok (.iload 4, 2) := by decide +kernel
theorem d_M_operate_197 : decode b_M_operate 197 = .ok (.laload, 1) := by decide +kernel
theorem d_M_operate_198 : decode b_M_operate 198 = .ok (.ldc2_w 206, 3) := by decide +kernel
theorem d_M_operate_201 : decode b_M_operate 201 = .ok (.land, 1) := by decide +kernel
theorem d_M_operate_202 : decode b_M_operate 202 = .ok (.lstore 6, 2) := by decide +kernel
theorem d_M_operate_204 : decode b_M_operate 204 = .ok (.aload_n 0, 1) := by decide +kernel
theorem d_M_operate_205 : decode b_M_operate 205 = .ok (.iload_n 3, 1) := by decide +kernel
theorem d_M_operate_206 : decode b_M_operate 206 = .ok (.bipush 18, 2) := by decide +kernel
theorem d_M_operate_208 : decode b_M_operate 208 = .ok (.iload_n 1, 1) := by decide +kernel
theorem d_M_operate_209 : decode b_M_operate 209 = .ok (.lload 6, 2) := by decide +kernel
theorem d_M_operate_211 : decode b_M_operate 211 = .ok (.aload_n 0, 1) := by decide +kernel
theorem d_M_operate_212 : decode b_M_operate 212 = .ok (.getfield 32, 3) := by decide +kernel
theorem d_M_operate_215 : decode b_M_operate 215 = .ok (.iload 5, 2) := by decide +kernel
theorem d_M_operate_217 : decode b_M_operate 217 = .ok (.laload, 1) := by decide +kernel
theorem d_M_operate_218 : decode b_M_operate 218 = .ok (.ldc2_w 206, 3) := by decide +kernel
theorem d_M_operate_221 : decode b_M_operate 221 = .ok (.land, 1) := by decide +kernel
theorem d_M_operate_222 : decode b_M_operate 222 = .ok (.bipush 31, 2) := by decide +kernel
theorem d_M_operate_224 : decode b_M_operate 224 = .ok (.invokestatic 202, 3) := by decide +kernel
theorem d_M_operate_227 : decode b_M_operate 227 = .ok (.ldc2_w 206, 3) := by decide +kernel
theorem d_M_operate_230 : decode b_M_operate 230 = .ok (.land, 1) := by decide +kernel
theorem d_M_operate_231 : decode b_M_operate 231 = .ok (.invokevirtual 105, 3) := by decide +kernel
theorem d_M_operate_234 : decode b_M_operate 234 = .ok (.return_, 1) := by decide +kernel
def f_M_operate_231g (r0 : (Nat → VV)) (w0 : (Nat → Int64)) (s0 : Int32) (p1 : Int32) (p2 : Int32) (p3 : Int32) (p4 : Int32) (p5 : Int32) (s41_0 : Int32) (g231 : (Nat → VV) × (Nat → Int64) × Int32) : Int32 × (Nat → VV) × (Nat → Int64) × Int32 := (s41_0, g231.1, g231.2.1, g231.2.2)
def f_M_operate_202 (r0 : (Nat → VV)) (w0 : (Nat → Int64)) (s0 : Int32) (p1 : Int32) (p2 : Int32) (p3 : Int32) (p4 : Int32) (p5 : Int32) (s202_0 : Int64) (s41_0 : Int32) (g170 : (Nat → VV)) : Int32 × (Nat → VV) × (Nat → Int64) × Int32 := f_M_operate_231g r0 w0 s0 p1 p2 p3 p4 p5 s41_0 (f_M_put g170 w0 s0 p3.toNatClampNeg 18 ((f_M_reckon p1 s202_0 ((w0 p5.toNatClampNeg) &&& (4294967295 : Int64)) 31) &&& (4294967295 : Int64)))
def f_M_operate_170g (r0 : (Nat → VV)) (w0 : (Nat → Int64)) (s0 : Int32) (p1 : Int32) (p2 : Int32) (p3 : Int32) (p4 : Int32) (p5 : Int32) (s41_0 : Int32) (g170 : (Nat → VV)) : Int32 × (Nat → VV) × (Nat → Int64) × Int32 := (if p1 = 10 then f_M_operate_202 r0 w0 s0 p1 p2 p3 p4 p5 (((w0 p4.toNatClampNeg).toInt32).toInt64) s41_0 g170 else f_M_operate_202 r0 w0 s0 p1 p2 p3 p4 p5 ((w0 p4.toNatClampNeg) &&& (4294967295 : Int64)) s41_0 g170)
def f_M_operate_160g (r0 : (Nat → VV)) (w0 : (Nat → Int64)) (s0 : Int32) (p1 : Int32) (p2 : Int32) (p3 : Int32) (p4 : Int32) (p5 : Int32) (s41_0 : Int32) (g160 : (Nat → VV)) : Int32 × (Nat → VV) × (Nat → Int64) × Int32 := f_M_operate_170g r0 w0 s0 p1 p2 p3 p4 p5 s41_0 (f_M_cutRow g160 16 18 32)
def f_M_operate_152g (r0 : (Nat → VV)) (w0 : (Nat → Int64)) (s0 : Int32) (p1 : Int32) (p2 : Int32) (p3 : Int32) (p4 : Int32) (p5 : Int32) (s41_0 : Int32) (g152 : (Nat → VV)) : Int32 × (Nat → VV) × (Nat → Int64) × Int32 := f_M_operate_160g r0 w0 s0 p1 p2 p3 p4 p5 s41_0 (f_M_copy g152 18 16)
def f_M_operate_145g (r0 : (Nat → VV)) (w0 : (Nat → Int64)) (s0 : Int32) (p1 : Int32) (p2 : Int32) (p3 : Int32) (p4 : Int32) (p5 : Int32) (s41_0 : Int32) (g145 : (Nat → VV)) : Int32 × (Nat → VV) × (Nat → Int64) × Int32 := f_M_operate_152g r0 w0 s0 p1 p2 p3 p4 p5 s41_0 (f_M_apply g145 p1 31)
def f_M_operate_138 (r0 : (Nat → VV)) (w0 : (Nat → Int64)) (s0 : Int32) (p1 : Int32) (p2 : Int32) (p3 : Int32) (p4 : Int32) (p5 : Int32) (s41_0 : Int32) (r138 : (Nat → VV)) : Int32 × (Nat → VV) × (Nat → Int64) × Int32 := f_M_operate_145g r0 w0 s0 p1 p2 p3 p4 p5 s41_0 (f_M_cutRow r138 p5.toNatClampNeg 17 32)
def f_M_operate_135g (r0 : (Nat → VV)) (w0 : (Nat → Int64)) (s0 : Int32) (p1 : Int32) (p2 : Int32) (p3 : Int32) (p4 : Int32) (p5 : Int32) (s41_0 : Int32) (g135 : (Nat → VV)) : Int32 × (Nat → VV) × (Nat → Int64) × Int32 := f_M_operate_138 r0 w0 s0 p1 p2 p3 p4 p5 s41_0 g135
def f_M_operate_122g (r0 : (Nat → VV)) (w0 : (Nat → Int64)) (s0 : Int32) (p1 : Int32) (p2 : Int32) (p3 : Int32) (p4 : Int32) (p5 : Int32) (s41_0 : Int32) (g122 : (Nat → VV)) : Int32 × (Nat → VV) × (Nat → Int64) × Int32 := f_M_operate_138 r0 w0 s0 p1 p2 p3 p4 p5 s41_0 g122
def f_M_operate_105g (r0 : (Nat → VV)) (w0 : (Nat → Int64)) (s0 : Int32) (p1 : Int32) (p2 : Int32) (p3 : Int32) (p4 : Int32) (p5 : Int32) (s41_0 : Int32) (g105 : (Nat → VV) × (Nat → Int64) × Int32) : Int32 × (Nat → VV) × (Nat → Int64) × Int32 := (s41_0, g105.1, g105.2.1, g105.2.2)
def f_M_operate_78g (r0 : (Nat → VV)) (w0 : (Nat → Int64)) (s0 : Int32) (p1 : Int32) (p2 : Int32) (p3 : Int32) (p4 : Int32) (p5 : Int32) (s41_0 : Int32) (g78 : (Nat → VV)) : Int32 × (Nat → VV) × (Nat → Int64) × Int32 := f_M_operate_105g r0 w0 s0 p1 p2 p3 p4 p5 s41_0 (f_M_put g78 w0 s0 p3.toNatClampNeg 18 (f_M_reckon p1 (w0 p4.toNatClampNeg) (w0 p5.toNatClampNeg) 63))
def f_M_operate_71g (r0 : (Nat → VV)) (w0 : (Nat → Int64)) (s0 : Int32) (p1 : Int32) (p2 : Int32) (p3 : Int32) (p4 : Int32) (p5 : Int32) (s41_0 : Int32) (g71 : (Nat → VV)) : Int32 × (Nat → VV) × (Nat → Int64) × Int32 := f_M_operate_78g r0 w0 s0 p1 p2 p3 p4 p5 s41_0 (f_M_apply g71 p1 63)
def f_M_operate_63g (r0 : (Nat → VV)) (w0 : (Nat → Int64)) (s0 : Int32) (p1 : Int32) (p2 : Int32) (p3 : Int32) (p4 : Int32) (p5 : Int32) (s41_0 : Int32) (g63 : (Nat → VV)) : Int32 × (Nat → VV) × (Nat → Int64) × Int32 := f_M_operate_71g r0 w0 s0 p1 p2 p3 p4 p5 s41_0 (f_M_copy g63 p5.toNatClampNeg 17)
def f_M_operate_41 (r0 : (Nat → VV)) (w0 : (Nat → Int64)) (s0 : Int32) (p1 : Int32) (p2 : Int32) (p3 : Int32) (p4 : Int32) (p5 : Int32) (s41_0 : Int32) (c41 : Int32) : Int32 × (Nat → VV) × (Nat → Int64) × Int32 := (if s41_0 ≤ 0 then (if p2 = 64 then f_M_operate_63g r0 w0 s0 p1 p2 p3 p4 p5 s41_0 (f_M_copy r0 p4.toNatClampNeg 16) else (if p1 = 10 then f_M_operate_122g r0 w0 s0 p1 p2 p3 p4 p5 s41_0 (f_M_extendRow r0 p4.toNatClampNeg 16 32) else f_M_operate_135g r0 w0 s0 p1 p2 p3 p4 p5 s41_0 (f_M_cutRow r0 p4.toNatClampNeg 16 32))) else (s41_0, r0, w0, s0))
def f_M_operate_40 (r0 : (Nat → VV)) (w0 : (Nat → Int64)) (s0 : Int32) (p1 : Int32) (p2 : Int32) (p3 : Int32) (p4 : Int32) (p5 : Int32) (c40 : Int32) : Int32 × (Nat → VV) × (Nat → Int64) × Int32 := f_M_operate_41 r0 w0 s0 p1 p2 p3 p4 p5 2 c40
def f_M_operate_36 (r0 : (Nat → VV)) (w0 : (Nat → Int64)) (s0 : Int32) (p1 : Int32) (p2 : Int32) (p3 : Int32) (p4 : Int32) (p5 : Int32) (c36 : Int32) : Int32 × (Nat → VV) × (Nat → Int64) × Int32 := f_M_operate_41 r0 w0 s0 p1 p2 p3 p4 p5 0 c36
def f_M_operate_6g (r0 : (Nat → VV)) (w0 : (Nat → Int64)) (s0 : Int32) (p1 : Int32) (p2 : Int32) (p3 : Int32) (p4 : Int32) (p5 : Int32) (g6 : Bool × Int32) : Int32 × (Nat → VV) × (Nat → Int64) × Int32 := (if g6.1 = true then (g6.2, r0, w0, s0) else (if p1 < 0 then f_M_operate_40 r0 w0 s0 p1 p2 p3 p4 p5 g6.2 else (if 12 ≤ p1 then f_M_operate_40 r0 w0 s0 p1 p2 p3 p4 p5 g6.2 else (if p2 = 64 then f_M_operate_36 r0 w0 s0 p1 p2 p3 p4 p5 g6.2 else (if p2 = 32 then f_M_operate_36 r0 w0 s0 p1 p2 p3 p4 p5 g6.2 else f_M_operate_40 r0 w0 s0 p1 p2 p3 p4 p5 g6.2)))))
def f_M_operate (r0 : (Nat → VV)) (w0 : (Nat → Int64)) (s0 : Int32) (p1 : Int32) (p2 : Int32) (p3 : Int32) (p4 : Int32) (p5 : Int32) : Int32 × (Nat → VV) × (Nat → Int64) × Int32 := f_M_operate_6g r0 w0 s0 p1 p2 p3 p4 p5 (f_M_noPlace p3 p4 p5)
set_option maxRecDepth 100000 in
set_option maxHeartbeats 4000000 in
theorem c_M_operate (l : Launch) (dC : Nat → ClassId) (dI : Nat → Nat → Nat) (ad : Nat → Nat) (cJ cZ : ClassId) (sz : Nat) (c0 : Int32) (r0 : (Nat → VV)) (w0 : (Nat → Int64)) (s0 : Int32) (p1 : Int32) (p2 : Int32) (p3 : Int32) (p4 : Int32) (p5 : Int32) : Met l y_M_operate w_M_operate ({ frames := 8, cells := 0, slots := 0, locals := 241 } : Room) (va_Pc [.ref (ad 0), .int (p1), .int (p2), .int (p3), .int (p4), .int (p5)] (nP (dC, dI) (mT cJ cZ) (mW ad cJ cZ c0 r0 w0 s0) sz)) (va_Qv (fun _ : Unit => True) (mB (dC, dI) (va_A (mW ad cJ cZ c0 r0 w0 s0) sz) (mW ad cJ cZ (f_M_operate r0 w0 s0 p1 p2 p3 p4 p5).1 (f_M_operate r0 w0 s0 p1 p2 p3 p4 p5).2.1 (f_M_operate r0 w0 s0 p1 p2 p3 p4 p5).2.2.1 (f_M_operate r0 w0 s0 p1 p2 p3 p4 p5).2.2.2)) (va_A (mW ad cJ cZ c0 r0 w0 s0) sz)) 0 0 (va_A (mW ad cJ cZ c0 r0 w0 s0) sz) := by
  refine Met.ofW (cc := b_M_operate) (maxL := 8) (ret := none) (by decide) rfl ?_
  intro p e s m args below meth c s₁ B hml hv
  obtain ⟨rfl, hsz, hP, hK, hD0⟩ := hv
  have hx := B.exec
  have hb := B.bytes
  have hr := B.returns
  have hts := atoms_spec (ws := w_M_operate) B.pre
  have hG : ∀ w ∈ gM, w.before _ s = true := fun w h => hts w (List.mem_cons_of_mem _ h)
  have hown : s.vm.findClass R_M = some m.cls := findClass_of_methodNamed B.named
  have hlocks := B.notSynchronized
  subst hsz
  have hD := hD0.self (sz := s.heap.size)
  generalize hAe : va_A (mW ad cJ cZ c0 r0 w0 s0) s.heap.size = A at hD ⊢
  have hA : ∀ q : Nat, s.heap.size ≤ q → A q := fun q h => by rw [← hAe]; exact Or.inr h
  have hS : va_S A s.heap s.heap [] := va_S.rf
  have hl := lv_entry ([.ref (ad 0), .int (p1), .int (p2), .int (p3), .int (p4), .int (p5)]) (n := 8) (Nat.le_of_ble_eq_true rfl)
  rw [lg_entry_eq]
  generalize (lg_sl ([.ref (ad 0), .int (p1), .int (p2), .int (p3), .int (p4), .int (p5)]) ++ List.replicate (8 - (lg_sl ([.ref (ad 0), .int (p1), .int (p2), .int (p3), .int (p4), .int (p5)])).length) Slot.unset).toArray = ls at hl ⊢
  have hl : lv_has ls 8 [(0, .ref (ad 0)), (1, .int (p1)), (2, .int (p2)), (3, .int (p3)), (4, .int (p4)), (5, .int (p5))] := hl
  have K231g : ∀ (s41_0 : Int32) (g231 : (Nat → VV) × (Nat → Int64) × Int32) (hj : f_M_operate r0 w0 s0 p1 p2 p3 p4 p5 = f_M_operate_231g r0 w0 s0 p1 p2 p3 p4 p5 s41_0 g231) (hf0 : p3 = nI p3.toNatClampNeg) (hf1 : p3.toNatClampNeg < 16) (hf2 : p4 = nI p4.toNatClampNeg) (hf3 : p4.toNatClampNeg < 16) (hf4 : p5 = nI p5.toNatClampNeg) (hf5 : p5.toNatClampNeg < 16) (H : Heap) (locs : List Loc) (hP : va_P (dC, dI) classes (mW ad cJ cZ s41_0 g231.1 g231.2.1 g231.2.2) H) (hD : va_D A (mW ad cJ cZ s41_0 g231.1 g231.2.1 g231.2.2)) (hS : va_S A s.heap H locs) (ls : Array Slot) (hl : lv_has ls 8 []), W p l e (headSpec w_M_operate ({ frames := 8, cells := 0, slots := 0, locals := 241 } : Room)).room s m ([.ref (ad 0), .int (p1), .int (p2), .int (p3), .int (p4), .int (p5)] : List Value).toArray below meth c H locs 0 0 (MQ below (va_Qv (fun _ : Unit => True) (mB (dC, dI) A (mW ad cJ cZ (f_M_operate r0 w0 s0 p1 p2 p3 p4 p5).1 (f_M_operate r0 w0 s0 p1 p2 p3 p4 p5).2.1 (f_M_operate r0 w0 s0 p1 p2 p3 p4 p5).2.2.1 (f_M_operate r0 w0 s0 p1 p2 p3 p4 p5).2.2.2)) A) ([.ref (ad 0), .int (p1), .int (p2), .int (p3), .int (p4), .int (p5)] : List Value).toArray s 0 0 A) (F0 m 234 ls []) := by
    intro s41_0 g231 hj hf0 hf1 hf2 hf3 hf4 hf5 H locs hP hD hS ls hl
    have fe : f_M_operate r0 w0 s0 p1 p2 p3 p4 p5 = (s41_0, g231.1, g231.2.1, g231.2.2) := hj.trans rfl
    exact W.vret hx hb hr (fun t ht hW => ⟨⟨(), rfl, trivial, by rw [ht, fe]; exact hP, by rw [fe]; exact hD⟩, hS.F ht⟩) hS.2.2 d_M_operate_234
  have K202 : ∀ (s202_0 : Int64) (s41_0 : Int32) (g170 : (Nat → VV)) (hj : f_M_operate r0 w0 s0 p1 p2 p3 p4 p5 = f_M_operate_202 r0 w0 s0 p1 p2 p3 p4 p5 s202_0 s41_0 g170) (hf0 : p3 = nI p3.toNatClampNeg) (hf1 : p3.toNatClampNeg < 16) (hf2 : p4 = nI p4.toNatClampNeg) (hf3 : p4.toNatClampNeg < 16) (hf4 : p5 = nI p5.toNatClampNeg) (hf5 : p5.toNatClampNeg < 16) (H : Heap) (locs : List Loc) (hP : va_P (dC, dI) classes (mW ad cJ cZ s41_0 g170 w0 s0) H) (hD : va_D A (mW ad cJ cZ s41_0 g170 w0 s0)) (hS : va_S A s.heap H locs) (ls : Array Slot) (hl : lv_has ls 8 [(0, .ref (ad 0)), (1, .int (p1)), (3, .int (p3)), (5, .int (p5))]), W p l e (headSpec w_M_operate ({ frames := 8, cells := 0, slots := 0, locals := 241 } : Room)).room s m ([.ref (ad 0), .int (p1), .int (p2), .int (p3), .int (p4), .int (p5)] : List Value).toArray below meth c H locs 0 0 (MQ below (va_Qv (fun _ : Unit => True) (mB (dC, dI) A (mW ad cJ cZ (f_M_operate r0 w0 s0 p1 p2 p3 p4 p5).1 (f_M_operate r0 w0 s0 p1 p2 p3 p4 p5).2.1 (f_M_operate r0 w0 s0 p1 p2 p3 p4 p5).2.2.1 (f_M_operate r0 w0 s0 p1 p2 p3 p4 p5).2.2.2)) A) ([.ref (ad 0), .int (p1), .int (p2), .int (p3), .int (p4), .int (p5)] : List Value).toArray s 0 0 A) (F0 m 202 ls [.long (s202_0)]) := by
    intro s202_0 s41_0 g170 hj hf0 hf1 hf2 hf3 hf4 hf5 H locs hP hD hS ls hl
    refine lv_lstore (lv' := [(6, .long (s202_0)), (0, .ref (ad 0)), (1, .int (p1)), (3, .int (p3)), (5, .int (p5))]) hx hb d_M_operate_202 hl (by decide) rfl (fun ls hl => ?_)
    refine lv_aload_n hx hb d_M_operate_204 rfl (lv_at hl 1 rfl) ?_
    refine lv_iload_n hx hb d_M_operate_205 rfl (lv_at hl 3 rfl) ?_
    refine top_i hf0 ?_
    refine lv_bipush (v := 18) hx hb d_M_operate_206 (by decide) ?_
    refine lv_iload_n hx hb d_M_operate_208 rfl (lv_at hl 2 rfl) ?_
    refine lv_lload hx hb d_M_operate_209 (lv_at hl 0 rfl) ?_
    refine lv_aload_n hx hb d_M_operate_211 rfl (lv_at hl 1 rfl) ?_
    refine va_get (D := (dC, dI)) (ci := 2) (v := .ref (ad 8)) (C := R_M) (T := F_M) (N := 10) hx hb hts (fun w h => List.mem_cons_of_mem _ (uw_M w h)) hown hK hP 0 rfl rfl 8 (by decide) (hG (.fieldLink R_M 32 "ValueSieveModel" "witness" "[J") gx17) (fun _ h9 => h9) rfl d_M_operate_212 ?_
    refine lv_iload hx hb d_M_operate_215 (lv_at hl 4 rfl) ?_
    refine top_i hf4 ?_
    refine ml_8 (P := p5.toNatClampNeg) hx hb hK hP rfl hf5 d_M_operate_217 ?_
    refine lv_ldc2 (v := 4294967295) hx hb hown (hG (.constantLong R_M 206 (4294967295)) gx197) d_M_operate_218 ?_
    refine lv_land hx hb d_M_operate_221 ?_
    refine lv_bipush (v := 31) hx hb d_M_operate_222 (by decide) ?_
    refine rc_l (W.runS (As := [.int (p1), .long (s202_0), .long ((w0 p5.toNatClampNeg) &&& (4294967295 : Int64)), .int (31)]) (rest := [.int (18), .int (nI p3.toNatClampNeg), .ref (ad 0)]) ⟨hx, hb, hml, hown, hts⟩ (c_M_reckon l p1 s202_0 ((w0 p5.toNatClampNeg) &&& (4294967295 : Int64)) 31) (va_cwS 4 hts (gxS gx191 gx192 gx0 gx193) rfl rfl rfl (by decide +kernel) ⟨(Nat.le_of_ble_eq_true rfl), (Nat.le_of_ble_eq_true rfl)⟩) ⟨bl0, fun U hU hW => ⟨rfl, trivial⟩⟩ rfl rfl hl.1 rfl (lv_room (Nat.le_of_ble_eq_true rfl)) d_M_operate_224 ⟨Nat.zero_le _, Nat.zero_le _⟩) ?_
    refine lv_ldc2 (v := 4294967295) hx hb hown (hG (.constantLong R_M 206 (4294967295)) gx197) d_M_operate_227 ?_
    refine lv_land hx hb d_M_operate_230 ?_
    refine mm_v (F := f_M_put g170 w0 s0 p3.toNatClampNeg 18 ((f_M_reckon p1 s202_0 ((w0 p5.toNatClampNeg) &&& (4294967295 : Int64)) 31) &&& (4294967295 : Int64))) (w1 := fun g231 => (mW ad cJ cZ s41_0 g231.1 g231.2.1 g231.2.2)) (va_runV (As := [.int (nI p3.toNatClampNeg), .int (18), .long ((f_M_reckon p1 s202_0 ((w0 p5.toNatClampNeg) &&& (4294967295 : Int64)) 31) &&& (4294967295 : Int64))]) (rest := []) ⟨hx, hb, hml, hown, hts⟩ (c_M_put l dC dI ad cJ cZ H.size s41_0 g170 w0 s0 p3.toNatClampNeg 18 ((f_M_reckon p1 s202_0 ((w0 p5.toNatClampNeg) &&& (4294967295 : Int64)) 31) &&& (4294967295 : Int64)) hf1 (by decide)) (cwV 3 hts (gxV gx45 gx46 gx278 gx0 gx47) rfl rfl rfl (by decide +kernel) ⟨(Nat.le_of_ble_eq_true rfl), (Nat.le_of_ble_eq_true rfl)⟩) ⟨blp, va_recv hK hP (ci := 2) (q0 := 0) rfl rfl, fun U hU hW => ⟨rfl, by rw [hU], by rw [hU]; exact hP, va_K.moved hW.alike hK, hD.weaken (fun _ _ _ _ => trivial)⟩⟩ rfl rfl hl.1 rfl (lv_room (Nat.le_of_ble_eq_true rfl)) d_M_operate_231 ⟨Nat.zero_le _, Nat.zero_le _⟩) hD hS hA (fun g231 eg231 H locs hP hD hS => ?_)
    refine K231g s41_0 g231 (Eq.trans (hj.trans rfl) (congrArg (fun g231 => f_M_operate_231g r0 w0 s0 p1 p2 p3 p4 p5 s41_0 g231) eg231)) hf0 hf1 hf2 hf3 hf4 hf5 H locs ?_ ?_ hS ls (lv_sub hl [] rfl)
    · with_reducible exact hP
    · with_reducible exact hD
  have K170g : ∀ (s41_0 : Int32) (g170 : (Nat → VV)) (hj : f_M_operate r0 w0 s0 p1 p2 p3 p4 p5 = f_M_operate_170g r0 w0 s0 p1 p2 p3 p4 p5 s41_0 g170) (hf0 : p3 = nI p3.toNatClampNeg) (hf1 : p3.toNatClampNeg < 16) (hf2 : p4 = nI p4.toNatClampNeg) (hf3 : p4.toNatClampNeg < 16) (hf4 : p5 = nI p5.toNatClampNeg) (hf5 : p5.toNatClampNeg < 16) (H : Heap) (locs : List Loc) (hP : va_P (dC, dI) classes (mW ad cJ cZ s41_0 g170 w0 s0) H) (hD : va_D A (mW ad cJ cZ s41_0 g170 w0 s0)) (hS : va_S A s.heap H locs) (ls : Array Slot) (hl : lv_has ls 8 [(0, .ref (ad 0)), (1, .int (p1)), (3, .int (p3)), (4, .int (p4)), (5, .int (p5))]), W p l e (headSpec w_M_operate ({ frames := 8, cells := 0, slots := 0, locals := 241 } : Room)).room s m ([.ref (ad 0), .int (p1), .int (p2), .int (p3), .int (p4), .int (p5)] : List Value).toArray below meth c H locs 0 0 (MQ below (va_Qv (fun _ : Unit => True) (mB (dC, dI) A (mW ad cJ cZ (f_M_operate r0 w0 s0 p1 p2 p3 p4 p5).1 (f_M_operate r0 w0 s0 p1 p2 p3 p4 p5).2.1 (f_M_operate r0 w0 s0 p1 p2 p3 p4 p5).2.2.1 (f_M_operate r0 w0 s0 p1 p2 p3 p4 p5).2.2.2)) A) ([.ref (ad 0), .int (p1), .int (p2), .int (p3), .int (p4), .int (p5)] : List Value).toArray s 0 0 A) (F0 m 173 ls []) := by
    intro s41_0 g170 hj hf0 hf1 hf2 hf3 hf4 hf5 H locs hP hD hS ls hl
    refine lv_iload_n hx hb d_M_operate_173 rfl (lv_at hl 1 rfl) ?_
    refine lv_bipush (v := 10) hx hb d_M_operate_174 (by decide) ?_
    refine lv_icmp_ne (tgt := 191) hx hb d_M_operate_176 (by decide) (fun e1_191 => ?_) (fun e1_191 => ?_)
    · refine lv_aload_n hx hb d_M_operate_191 rfl (lv_at hl 0 rfl) ?_
      refine va_get (D := (dC, dI)) (ci := 2) (v := .ref (ad 8)) (C := R_M) (T := F_M) (N := 10) hx hb hts (fun w h => List.mem_cons_of_mem _ (uw_M w h)) hown hK hP 0 rfl rfl 8 (by decide) (hG (.fieldLink R_M 32 "ValueSieveModel" "witness" "[J") gx17) (fun _ h9 => h9) rfl d_M_operate_192 ?_
      refine lv_iload hx hb d_M_operate_195 (lv_at hl 3 rfl) ?_
      refine top_i hf2 ?_
      refine ml_8 (P := p4.toNatClampNeg) hx hb hK hP rfl hf3 d_M_operate_197 ?_
      refine lv_ldc2 (v := 4294967295) hx hb hown (hG (.constantLong R_M 206 (4294967295)) gx197) d_M_operate_198 ?_
      refine lv_land hx hb d_M_operate_201 ?_
      refine K202 ((w0 p4.toNatClampNeg) &&& (4294967295 : Int64)) s41_0 g170 (hj.trans (by unfold f_M_operate_170g; first | with_reducible exact if_neg e1_191 | exact if_neg e1_191)) hf0 hf1 hf2 hf3 hf4 hf5 H locs ?_ ?_ hS ls (lv_sub hl [0, 1, 2, 4] rfl)
      · with_reducible exact hP
      · with_reducible exact hD
    · refine lv_aload_n hx hb d_M_operate_179 rfl (lv_at hl 0 rfl) ?_
      refine va_get (D := (dC, dI)) (ci := 2) (v := .ref (ad 8)) (C := R_M) (T := F_M) (N := 10) hx hb hts (fun w h => List.mem_cons_of_mem _ (uw_M w h)) hown hK hP 0 rfl rfl 8 (by decide) (hG (.fieldLink R_M 32 "ValueSieveModel" "witness" "[J") gx17) (fun _ h9 => h9) rfl d_M_operate_180 ?_
      refine lv_iload hx hb d_M_operate_183 (lv_at hl 3 rfl) ?_
      refine top_i hf2 ?_
      refine ml_8 (P := p4.toNatClampNeg) hx hb hK hP rfl hf3 d_M_operate_185 ?_
      refine lv_l2i (v := (w0 p4.toNatClampNeg).toInt32) hx hb d_M_operate_186 rfl ?_
      refine lv_i2l (v := ((w0 p4.toNatClampNeg).toInt32).toInt64) hx hb d_M_operate_187 rfl ?_
      refine lv_goto (tgt := 202) hx hb d_M_operate_188 (by decide) ?_
      refine K202 (((w0 p4.toNatClampNeg).toInt32).toInt64) s41_0 g170 (hj.trans (by unfold f_M_operate_170g; first | with_reducible exact if_pos e1_191 | exact if_pos e1_191)) hf0 hf1 hf2 hf3 hf4 hf5 H locs ?_ ?_ hS ls (lv_sub hl [0, 1, 2, 4] rfl)
      · with_reducible exact hP
      · with_reducible exact hD
  have K160g : ∀ (s41_0 : Int32) (g160 : (Nat → VV)) (hj : f_M_operate r0 w0 s0 p1 p2 p3 p4 p5 = f_M_operate_160g r0 w0 s0 p1 p2 p3 p4 p5 s41_0 g160) (hf0 : p3 = nI p3.toNatClampNeg) (hf1 : p3.toNatClampNeg < 16) (hf2 : p4 = nI p4.toNatClampNeg) (hf3 : p4.toNatClampNeg < 16) (hf4 : p5 = nI p5.toNatClampNeg) (hf5 : p5.toNatClampNeg < 16) (H : Heap) (locs : List Loc) (hP : va_P (dC, dI) classes (mW ad cJ cZ s41_0 g160 w0 s0) H) (hD : va_D A (mW ad cJ cZ s41_0 g160 w0 s0)) (hS : va_S A s.heap H locs) (ls : Array Slot) (hl : lv_has ls 8 [(0, .ref (ad 0)), (1, .int (p1)), (3, .int (p3)), (4, .int (p4)), (5, .int (p5))]), W p l e (headSpec w_M_operate ({ frames := 8, cells := 0, slots := 0, locals := 241 } : Room)).room s m ([.ref (ad 0), .int (p1), .int (p2), .int (p3), .int (p4), .int (p5)] : List Value).toArray below meth c H locs 0 0 (MQ below (va_Qv (fun _ : Unit => True) (mB (dC, dI) A (mW ad cJ cZ (f_M_operate r0 w0 s0 p1 p2 p3 p4 p5).1 (f_M_operate r0 w0 s0 p1 p2 p3 p4 p5).2.1 (f_M_operate r0 w0 s0 p1 p2 p3 p4 p5).2.2.1 (f_M_operate r0 w0 s0 p1 p2 p3 p4 p5).2.2.2)) A) ([.ref (ad 0), .int (p1), .int (p2), .int (p3), .int (p4), .int (p5)] : List Value).toArray s 0 0 A) (F0 m 163 ls []) := by
    intro s41_0 g160 hj hf0 hf1 hf2 hf3 hf4 hf5 H locs hP hD hS ls hl
    refine lv_aload_n hx hb d_M_operate_163 rfl (lv_at hl 0 rfl) ?_
    refine lv_bipush (v := 16) hx hb d_M_operate_164 (by decide) ?_
    refine lv_bipush (v := 18) hx hb d_M_operate_166 (by decide) ?_
    refine lv_bipush (v := 32) hx hb d_M_operate_168 (by decide) ?_
    refine mm_v (F := f_M_cutRow g160 16 18 32) (w1 := fun g170 => (mW ad cJ cZ s41_0 g170 w0 s0)) (va_runV (As := [.int (16), .int (18), .int (32)]) (rest := []) ⟨hx, hb, hml, hown, hts⟩ (c_M_cutRow l dC dI ad cJ cZ H.size s41_0 g160 w0 s0 16 18 32 (by decide) (by decide)) (cwV 3 hts (gxV gx99 gx100 gx279 gx0 gx101) rfl rfl rfl (by decide +kernel) ⟨(Nat.le_of_ble_eq_true rfl), (Nat.le_of_ble_eq_true rfl)⟩) ⟨blp, va_recv hK hP (ci := 2) (q0 := 0) rfl rfl, fun U hU hW => ⟨rfl, by rw [hU], by rw [hU]; exact hP, va_K.moved hW.alike hK, hD.weaken (fun _ _ _ _ => trivial)⟩⟩ rfl rfl hl.1 rfl (lv_room (Nat.le_of_ble_eq_true rfl)) d_M_operate_170 ⟨Nat.zero_le _, Nat.zero_le _⟩) hD hS hA (fun g170 eg170 H locs hP hD hS => ?_)
    refine K170g s41_0 g170 (Eq.trans (hj.trans rfl) (congrArg (fun g170 => f_M_operate_170g r0 w0 s0 p1 p2 p3 p4 p5 s41_0 g170) eg170)) hf0 hf1 hf2 hf3 hf4 hf5 H locs ?_ ?_ hS ls (lv_sub hl [0, 1, 2, 3, 4] rfl)
    · with_reducible exact hP
    · with_reducible exact hD
  have K152g : ∀ (s41_0 : Int32) (g152 : (Nat → VV)) (hj : f_M_operate r0 w0 s0 p1 p2 p3 p4 p5 = f_M_operate_152g r0 w0 s0 p1 p2 p3 p4 p5 s41_0 g152) (hf0 : p3 = nI p3.toNatClampNeg) (hf1 : p3.toNatClampNeg < 16) (hf2 : p4 = nI p4.toNatClampNeg) (hf3 : p4.toNatClampNeg < 16) (hf4 : p5 = nI p5.toNatClampNeg) (hf5 : p5.toNatClampNeg < 16) (H : Heap) (locs : List Loc) (hP : va_P (dC, dI) classes (mW ad cJ cZ s41_0 g152 w0 s0) H) (hD : va_D A (mW ad cJ cZ s41_0 g152 w0 s0)) (hS : va_S A s.heap H locs) (ls : Array Slot) (hl : lv_has ls 8 [(0, .ref (ad 0)), (1, .int (p1)), (3, .int (p3)), (4, .int (p4)), (5, .int (p5))]), W p l e (headSpec w_M_operate ({ frames := 8, cells := 0, slots := 0, locals := 241 } : Room)).room s m ([.ref (ad 0), .int (p1), .int (p2), .int (p3), .int (p4), .int (p5)] : List Value).toArray below meth c H locs 0 0 (MQ below (va_Qv (fun _ : Unit => True) (mB (dC, dI) A (mW ad cJ cZ (f_M_operate r0 w0 s0 p1 p2 p3 p4 p5).1 (f_M_operate r0 w0 s0 p1 p2 p3 p4 p5).2.1 (f_M_operate r0 w0 s0 p1 p2 p3 p4 p5).2.2.1 (f_M_operate r0 w0 s0 p1 p2 p3 p4 p5).2.2.2)) A) ([.ref (ad 0), .int (p1), .int (p2), .int (p3), .int (p4), .int (p5)] : List Value).toArray s 0 0 A) (F0 m 155 ls []) := by
    intro s41_0 g152 hj hf0 hf1 hf2 hf3 hf4 hf5 H locs hP hD hS ls hl
    refine lv_aload_n hx hb d_M_operate_155 rfl (lv_at hl 0 rfl) ?_
    refine lv_bipush (v := 18) hx hb d_M_operate_156 (by decide) ?_
    refine lv_bipush (v := 16) hx hb d_M_operate_158 (by decide) ?_
    refine mm_v (F := f_M_copy g152 18 16) (w1 := fun g160 => (mW ad cJ cZ s41_0 g160 w0 s0)) (va_runV (As := [.int (18), .int (16)]) (rest := []) ⟨hx, hb, hml, hown, hts⟩ (c_M_copy l dC dI ad cJ cZ H.size s41_0 g152 w0 s0 18 16 (by decide) (by decide)) (cwV 2 hts (gxV gx48 gx49 gx268 gx0 gx50) rfl rfl rfl (by decide +kernel) ⟨(Nat.le_of_ble_eq_true rfl), (Nat.le_of_ble_eq_true rfl)⟩) ⟨blp, va_recv hK hP (ci := 2) (q0 := 0) rfl rfl, fun U hU hW => ⟨rfl, by rw [hU], by rw [hU]; exact hP, va_K.moved hW.alike hK, hD.weaken (fun _ _ _ _ => trivial)⟩⟩ rfl rfl hl.1 rfl (lv_room (Nat.le_of_ble_eq_true rfl)) d_M_operate_160 ⟨Nat.zero_le _, Nat.zero_le _⟩) hD hS hA (fun g160 eg160 H locs hP hD hS => ?_)
    refine K160g s41_0 g160 (Eq.trans (hj.trans rfl) (congrArg (fun g160 => f_M_operate_160g r0 w0 s0 p1 p2 p3 p4 p5 s41_0 g160) eg160)) hf0 hf1 hf2 hf3 hf4 hf5 H locs ?_ ?_ hS ls (lv_sub hl [0, 1, 2, 3, 4] rfl)
    · with_reducible exact hP
    · with_reducible exact hD
  have K145g : ∀ (s41_0 : Int32) (g145 : (Nat → VV)) (hj : f_M_operate r0 w0 s0 p1 p2 p3 p4 p5 = f_M_operate_145g r0 w0 s0 p1 p2 p3 p4 p5 s41_0 g145) (hf0 : p3 = nI p3.toNatClampNeg) (hf1 : p3.toNatClampNeg < 16) (hf2 : p4 = nI p4.toNatClampNeg) (hf3 : p4.toNatClampNeg < 16) (hf4 : p5 = nI p5.toNatClampNeg) (hf5 : p5.toNatClampNeg < 16) (H : Heap) (locs : List Loc) (hP : va_P (dC, dI) classes (mW ad cJ cZ s41_0 g145 w0 s0) H) (hD : va_D A (mW ad cJ cZ s41_0 g145 w0 s0)) (hS : va_S A s.heap H locs) (ls : Array Slot) (hl : lv_has ls 8 [(0, .ref (ad 0)), (1, .int (p1)), (3, .int (p3)), (4, .int (p4)), (5, .int (p5))]), W p l e (headSpec w_M_operate ({ frames := 8, cells := 0, slots := 0, locals := 241 } : Room)).room s m ([.ref (ad 0), .int (p1), .int (p2), .int (p3), .int (p4), .int (p5)] : List Value).toArray below meth c H locs 0 0 (MQ below (va_Qv (fun _ : Unit => True) (mB (dC, dI) A (mW ad cJ cZ (f_M_operate r0 w0 s0 p1 p2 p3 p4 p5).1 (f_M_operate r0 w0 s0 p1 p2 p3 p4 p5).2.1 (f_M_operate r0 w0 s0 p1 p2 p3 p4 p5).2.2.1 (f_M_operate r0 w0 s0 p1 p2 p3 p4 p5).2.2.2)) A) ([.ref (ad 0), .int (p1), .int (p2), .int (p3), .int (p4), .int (p5)] : List Value).toArray s 0 0 A) (F0 m 148 ls []) := by
    intro s41_0 g145 hj hf0 hf1 hf2 hf3 hf4 hf5 H locs hP hD hS ls hl
    refine lv_aload_n hx hb d_M_operate_148 rfl (lv_at hl 0 rfl) ?_
    refine lv_iload_n hx hb d_M_operate_149 rfl (lv_at hl 1 rfl) ?_
    refine lv_bipush (v := 31) hx hb d_M_operate_150 (by decide) ?_
    refine mm_v (F := f_M_apply g145 p1 31) (w1 := fun g152 => (mW ad cJ cZ s41_0 g152 w0 s0)) (va_runV (As := [.int (p1), .int (31)]) (rest := []) ⟨hx, hb, hml, hown, hts⟩ (c_M_apply l dC dI ad cJ cZ H.size s41_0 g145 w0 s0 p1 31) (cwV 2 hts (gxV gx124 gx125 gx297 gx0 gx126) rfl rfl rfl (by decide +kernel) ⟨(Nat.le_of_ble_eq_true rfl), (Nat.le_of_ble_eq_true rfl)⟩) ⟨blp, va_recv hK hP (ci := 2) (q0 := 0) rfl rfl, fun U hU hW => ⟨rfl, by rw [hU], by rw [hU]; exact hP, va_K.moved hW.alike hK, hD.weaken (fun _ _ _ _ => trivial)⟩⟩ rfl rfl hl.1 rfl (lv_room (Nat.le_of_ble_eq_true rfl)) d_M_operate_152 ⟨Nat.zero_le _, Nat.zero_le _⟩) hD hS hA (fun g152 eg152 H locs hP hD hS => ?_)
    refine K152g s41_0 g152 (Eq.trans (hj.trans rfl) (congrArg (fun g152 => f_M_operate_152g r0 w0 s0 p1 p2 p3 p4 p5 s41_0 g152) eg152)) hf0 hf1 hf2 hf3 hf4 hf5 H locs ?_ ?_ hS ls (lv_sub hl [0, 1, 2, 3, 4] rfl)
    · with_reducible exact hP
    · with_reducible exact hD
  have K138 : ∀ (s41_0 : Int32) (r138 : (Nat → VV)) (hj : f_M_operate r0 w0 s0 p1 p2 p3 p4 p5 = f_M_operate_138 r0 w0 s0 p1 p2 p3 p4 p5 s41_0 r138) (hf0 : p3 = nI p3.toNatClampNeg) (hf1 : p3.toNatClampNeg < 16) (hf2 : p4 = nI p4.toNatClampNeg) (hf3 : p4.toNatClampNeg < 16) (hf4 : p5 = nI p5.toNatClampNeg) (hf5 : p5.toNatClampNeg < 16) (H : Heap) (locs : List Loc) (hP : va_P (dC, dI) classes (mW ad cJ cZ s41_0 r138 w0 s0) H) (hD : va_D A (mW ad cJ cZ s41_0 r138 w0 s0)) (hS : va_S A s.heap H locs) (ls : Array Slot) (hl : lv_has ls 8 [(0, .ref (ad 0)), (1, .int (p1)), (3, .int (p3)), (4, .int (p4)), (5, .int (p5))]), W p l e (headSpec w_M_operate ({ frames := 8, cells := 0, slots := 0, locals := 241 } : Room)).room s m ([.ref (ad 0), .int (p1), .int (p2), .int (p3), .int (p4), .int (p5)] : List Value).toArray below meth c H locs 0 0 (MQ below (va_Qv (fun _ : Unit => True) (mB (dC, dI) A (mW ad cJ cZ (f_M_operate r0 w0 s0 p1 p2 p3 p4 p5).1 (f_M_operate r0 w0 s0 p1 p2 p3 p4 p5).2.1 (f_M_operate r0 w0 s0 p1 p2 p3 p4 p5).2.2.1 (f_M_operate r0 w0 s0 p1 p2 p3 p4 p5).2.2.2)) A) ([.ref (ad 0), .int (p1), .int (p2), .int (p3), .int (p4), .int (p5)] : List Value).toArray s 0 0 A) (F0 m 138 ls []) := by
    intro s41_0 r138 hj hf0 hf1 hf2 hf3 hf4 hf5 H locs hP hD hS ls hl
    refine lv_aload_n hx hb d_M_operate_138 rfl (lv_at hl 0 rfl) ?_
    refine lv_iload hx hb d_M_operate_139 (lv_at hl 4 rfl) ?_
    refine top_i hf4 ?_
    refine lv_bipush (v := 17) hx hb d_M_operate_141 (by decide) ?_
    refine lv_bipush (v := 32) hx hb d_M_operate_143 (by decide) ?_
    refine mm_v (F := f_M_cutRow r138 p5.toNatClampNeg 17 32) (w1 := fun g145 => (mW ad cJ cZ s41_0 g145 w0 s0)) (va_runV (As := [.int (nI p5.toNatClampNeg), .int (17), .int (32)]) (rest := []) ⟨hx, hb, hml, hown, hts⟩ (c_M_cutRow l dC dI ad cJ cZ H.size s41_0 r138 w0 s0 p5.toNatClampNeg 17 32 (Nat.lt_of_lt_of_le hf5 (by decide)) (by decide)) (cwV 3 hts (gxV gx99 gx100 gx279 gx0 gx101) rfl rfl rfl (by decide +kernel) ⟨(Nat.le_of_ble_eq_true rfl), (Nat.le_of_ble_eq_true rfl)⟩) ⟨blp, va_recv hK hP (ci := 2) (q0 := 0) rfl rfl, fun U hU hW => ⟨rfl, by rw [hU], by rw [hU]; exact hP, va_K.moved hW.alike hK, hD.weaken (fun _ _ _ _ => trivial)⟩⟩ rfl rfl hl.1 rfl (lv_room (Nat.le_of_ble_eq_true rfl)) d_M_operate_145 ⟨Nat.zero_le _, Nat.zero_le _⟩) hD hS hA (fun g145 eg145 H locs hP hD hS => ?_)
    refine K145g s41_0 g145 (Eq.trans (hj.trans rfl) (congrArg (fun g145 => f_M_operate_145g r0 w0 s0 p1 p2 p3 p4 p5 s41_0 g145) eg145)) hf0 hf1 hf2 hf3 hf4 hf5 H locs ?_ ?_ hS ls (lv_sub hl [0, 1, 2, 3, 4] rfl)
    · with_reducible exact hP
    · with_reducible exact hD
  have K135g : ∀ (s41_0 : Int32) (g135 : (Nat → VV)) (hj : f_M_operate r0 w0 s0 p1 p2 p3 p4 p5 = f_M_operate_135g r0 w0 s0 p1 p2 p3 p4 p5 s41_0 g135) (hf0 : p3 = nI p3.toNatClampNeg) (hf1 : p3.toNatClampNeg < 16) (hf2 : p4 = nI p4.toNatClampNeg) (hf3 : p4.toNatClampNeg < 16) (hf4 : p5 = nI p5.toNatClampNeg) (hf5 : p5.toNatClampNeg < 16) (H : Heap) (locs : List Loc) (hP : va_P (dC, dI) classes (mW ad cJ cZ s41_0 g135 w0 s0) H) (hD : va_D A (mW ad cJ cZ s41_0 g135 w0 s0)) (hS : va_S A s.heap H locs) (ls : Array Slot) (hl : lv_has ls 8 [(0, .ref (ad 0)), (1, .int (p1)), (3, .int (p3)), (4, .int (p4)), (5, .int (p5))]), W p l e (headSpec w_M_operate ({ frames := 8, cells := 0, slots := 0, locals := 241 } : Room)).room s m ([.ref (ad 0), .int (p1), .int (p2), .int (p3), .int (p4), .int (p5)] : List Value).toArray below meth c H locs 0 0 (MQ below (va_Qv (fun _ : Unit => True) (mB (dC, dI) A (mW ad cJ cZ (f_M_operate r0 w0 s0 p1 p2 p3 p4 p5).1 (f_M_operate r0 w0 s0 p1 p2 p3 p4 p5).2.1 (f_M_operate r0 w0 s0 p1 p2 p3 p4 p5).2.2.1 (f_M_operate r0 w0 s0 p1 p2 p3 p4 p5).2.2.2)) A) ([.ref (ad 0), .int (p1), .int (p2), .int (p3), .int (p4), .int (p5)] : List Value).toArray s 0 0 A) (F0 m 138 ls []) := by
    intro s41_0 g135 hj hf0 hf1 hf2 hf3 hf4 hf5 H locs hP hD hS ls hl
    refine K138 s41_0 g135 (hj.trans rfl) hf0 hf1 hf2 hf3 hf4 hf5 H locs ?_ ?_ hS ls (lv_sub hl [0, 1, 2, 3, 4] rfl)
    · with_reducible exact hP
    · with_reducible exact hD
  have K122g : ∀ (s41_0 : Int32) (g122 : (Nat → VV)) (hj : f_M_operate r0 w0 s0 p1 p2 p3 p4 p5 = f_M_operate_122g r0 w0 s0 p1 p2 p3 p4 p5 s41_0 g122) (hf0 : p3 = nI p3.toNatClampNeg) (hf1 : p3.toNatClampNeg < 16) (hf2 : p4 = nI p4.toNatClampNeg) (hf3 : p4.toNatClampNeg < 16) (hf4 : p5 = nI p5.toNatClampNeg) (hf5 : p5.toNatClampNeg < 16) (H : Heap) (locs : List Loc) (hP : va_P (dC, dI) classes (mW ad cJ cZ s41_0 g122 w0 s0) H) (hD : va_D A (mW ad cJ cZ s41_0 g122 w0 s0)) (hS : va_S A s.heap H locs) (ls : Array Slot) (hl : lv_has ls 8 [(0, .ref (ad 0)), (1, .int (p1)), (3, .int (p3)), (4, .int (p4)), (5, .int (p5))]), W p l e (headSpec w_M_operate ({ frames := 8, cells := 0, slots := 0, locals := 241 } : Room)).room s m ([.ref (ad 0), .int (p1), .int (p2), .int (p3), .int (p4), .int (p5)] : List Value).toArray below meth c H locs 0 0 (MQ below (va_Qv (fun _ : Unit => True) (mB (dC, dI) A (mW ad cJ cZ (f_M_operate r0 w0 s0 p1 p2 p3 p4 p5).1 (f_M_operate r0 w0 s0 p1 p2 p3 p4 p5).2.1 (f_M_operate r0 w0 s0 p1 p2 p3 p4 p5).2.2.1 (f_M_operate r0 w0 s0 p1 p2 p3 p4 p5).2.2.2)) A) ([.ref (ad 0), .int (p1), .int (p2), .int (p3), .int (p4), .int (p5)] : List Value).toArray s 0 0 A) (F0 m 125 ls []) := by
    intro s41_0 g122 hj hf0 hf1 hf2 hf3 hf4 hf5 H locs hP hD hS ls hl
    refine lv_goto (tgt := 138) hx hb d_M_operate_125 (by decide) ?_
    refine K138 s41_0 g122 (hj.trans rfl) hf0 hf1 hf2 hf3 hf4 hf5 H locs ?_ ?_ hS ls (lv_sub hl [0, 1, 2, 3, 4] rfl)
    · with_reducible exact hP
    · with_reducible exact hD
  have K105g : ∀ (s41_0 : Int32) (g105 : (Nat → VV) × (Nat → Int64) × Int32) (hj : f_M_operate r0 w0 s0 p1 p2 p3 p4 p5 = f_M_operate_105g r0 w0 s0 p1 p2 p3 p4 p5 s41_0 g105) (hf0 : p3 = nI p3.toNatClampNeg) (hf1 : p3.toNatClampNeg < 16) (hf2 : p4 = nI p4.toNatClampNeg) (hf3 : p4.toNatClampNeg < 16) (hf4 : p5 = nI p5.toNatClampNeg) (hf5 : p5.toNatClampNeg < 16) (H : Heap) (locs : List Loc) (hP : va_P (dC, dI) classes (mW ad cJ cZ s41_0 g105.1 g105.2.1 g105.2.2) H) (hD : va_D A (mW ad cJ cZ s41_0 g105.1 g105.2.1 g105.2.2)) (hS : va_S A s.heap H locs) (ls : Array Slot) (hl : lv_has ls 8 []), W p l e (headSpec w_M_operate ({ frames := 8, cells := 0, slots := 0, locals := 241 } : Room)).room s m ([.ref (ad 0), .int (p1), .int (p2), .int (p3), .int (p4), .int (p5)] : List Value).toArray below meth c H locs 0 0 (MQ below (va_Qv (fun _ : Unit => True) (mB (dC, dI) A (mW ad cJ cZ (f_M_operate r0 w0 s0 p1 p2 p3 p4 p5).1 (f_M_operate r0 w0 s0 p1 p2 p3 p4 p5).2.1 (f_M_operate r0 w0 s0 p1 p2 p3 p4 p5).2.2.1 (f_M_operate r0 w0 s0 p1 p2 p3 p4 p5).2.2.2)) A) ([.ref (ad 0), .int (p1), .int (p2), .int (p3), .int (p4), .int (p5)] : List Value).toArray s 0 0 A) (F0 m 108 ls []) := by
    intro s41_0 g105 hj hf0 hf1 hf2 hf3 hf4 hf5 H locs hP hD hS ls hl
    have fe : f_M_operate r0 w0 s0 p1 p2 p3 p4 p5 = (s41_0, g105.1, g105.2.1, g105.2.2) := hj.trans rfl
    exact W.vret hx hb hr (fun t ht hW => ⟨⟨(), rfl, trivial, by rw [ht, fe]; exact hP, by rw [fe]; exact hD⟩, hS.F ht⟩) hS.2.2 d_M_operate_108
  have K78g : ∀ (s41_0 : Int32) (g78 : (Nat → VV)) (hj : f_M_operate r0 w0 s0 p1 p2 p3 p4 p5 = f_M_operate_78g r0 w0 s0 p1 p2 p3 p4 p5 s41_0 g78) (hf0 : p3 = nI p3.toNatClampNeg) (hf1 : p3.toNatClampNeg < 16) (hf2 : p4 = nI p4.toNatClampNeg) (hf3 : p4.toNatClampNeg < 16) (hf4 : p5 = nI p5.toNatClampNeg) (hf5 : p5.toNatClampNeg < 16) (H : Heap) (locs : List Loc) (hP : va_P (dC, dI) classes (mW ad cJ cZ s41_0 g78 w0 s0) H) (hD : va_D A (mW ad cJ cZ s41_0 g78 w0 s0)) (hS : va_S A s.heap H locs) (ls : Array Slot) (hl : lv_has ls 8 [(0, .ref (ad 0)), (1, .int (p1)), (3, .int (p3)), (4, .int (p4)), (5, .int (p5))]), W p l e (headSpec w_M_operate ({ frames := 8, cells := 0, slots := 0, locals := 241 } : Room)).room s m ([.ref (ad 0), .int (p1), .int (p2), .int (p3), .int (p4), .int (p5)] : List Value).toArray below meth c H locs 0 0 (MQ below (va_Qv (fun _ : Unit => True) (mB (dC, dI) A (mW ad cJ cZ (f_M_operate r0 w0 s0 p1 p2 p3 p4 p5).1 (f_M_operate r0 w0 s0 p1 p2 p3 p4 p5).2.1 (f_M_operate r0 w0 s0 p1 p2 p3 p4 p5).2.2.1 (f_M_operate r0 w0 s0 p1 p2 p3 p4 p5).2.2.2)) A) ([.ref (ad 0), .int (p1), .int (p2), .int (p3), .int (p4), .int (p5)] : List Value).toArray s 0 0 A) (F0 m 81 ls []) := by
    intro s41_0 g78 hj hf0 hf1 hf2 hf3 hf4 hf5 H locs hP hD hS ls hl
    refine lv_aload_n hx hb d_M_operate_81 rfl (lv_at hl 0 rfl) ?_
    refine lv_iload_n hx hb d_M_operate_82 rfl (lv_at hl 2 rfl) ?_
    refine top_i hf0 ?_
    refine lv_bipush (v := 18) hx hb d_M_operate_83 (by decide) ?_
    refine lv_iload_n hx hb d_M_operate_85 rfl (lv_at hl 1 rfl) ?_
    refine lv_aload_n hx hb d_M_operate_86 rfl (lv_at hl 0 rfl) ?_
    refine va_get (D := (dC, dI)) (ci := 2) (v := .ref (ad 8)) (C := R_M) (T := F_M) (N := 10) hx hb hts (fun w h => List.mem_cons_of_mem _ (uw_M w h)) hown hK hP 0 rfl rfl 8 (by decide) (hG (.fieldLink R_M 32 "ValueSieveModel" "witness" "[J") gx17) (fun _ h9 => h9) rfl d_M_operate_87 ?_
    refine lv_iload hx hb d_M_operate_90 (lv_at hl 3 rfl) ?_
    refine top_i hf2 ?_
    refine ml_8 (P := p4.toNatClampNeg) hx hb hK hP rfl hf3 d_M_operate_92 ?_
    refine lv_aload_n hx hb d_M_operate_93 rfl (lv_at hl 0 rfl) ?_
    refine va_get (D := (dC, dI)) (ci := 2) (v := .ref (ad 8)) (C := R_M) (T := F_M) (N := 10) hx hb hts (fun w h => List.mem_cons_of_mem _ (uw_M w h)) hown hK hP 0 rfl rfl 8 (by decide) (hG (.fieldLink R_M 32 "ValueSieveModel" "witness" "[J") gx17) (fun _ h9 => h9) rfl d_M_operate_94 ?_
    refine lv_iload hx hb d_M_operate_97 (lv_at hl 4 rfl) ?_
    refine top_i hf4 ?_
    refine ml_8 (P := p5.toNatClampNeg) hx hb hK hP rfl hf5 d_M_operate_99 ?_
    refine lv_bipush (v := 63) hx hb d_M_operate_100 (by decide) ?_
    refine rc_l (W.runS (As := [.int (p1), .long (w0 p4.toNatClampNeg), .long (w0 p5.toNatClampNeg), .int (63)]) (rest := [.int (18), .int (nI p3.toNatClampNeg), .ref (ad 0)]) ⟨hx, hb, hml, hown, hts⟩ (c_M_reckon l p1 (w0 p4.toNatClampNeg) (w0 p5.toNatClampNeg) 63) (va_cwS 4 hts (gxS gx191 gx192 gx0 gx193) rfl rfl rfl (by decide +kernel) ⟨(Nat.le_of_ble_eq_true rfl), (Nat.le_of_ble_eq_true rfl)⟩) ⟨bl0, fun U hU hW => ⟨rfl, trivial⟩⟩ rfl rfl hl.1 rfl (lv_room (Nat.le_of_ble_eq_true rfl)) d_M_operate_102 ⟨Nat.zero_le _, Nat.zero_le _⟩) ?_
    refine mm_v (F := f_M_put g78 w0 s0 p3.toNatClampNeg 18 (f_M_reckon p1 (w0 p4.toNatClampNeg) (w0 p5.toNatClampNeg) 63)) (w1 := fun g105 => (mW ad cJ cZ s41_0 g105.1 g105.2.1 g105.2.2)) (va_runV (As := [.int (nI p3.toNatClampNeg), .int (18), .long (f_M_reckon p1 (w0 p4.toNatClampNeg) (w0 p5.toNatClampNeg) 63)]) (rest := []) ⟨hx, hb, hml, hown, hts⟩ (c_M_put l dC dI ad cJ cZ H.size s41_0 g78 w0 s0 p3.toNatClampNeg 18 (f_M_reckon p1 (w0 p4.toNatClampNeg) (w0 p5.toNatClampNeg) 63) hf1 (by decide)) (cwV 3 hts (gxV gx45 gx46 gx278 gx0 gx47) rfl rfl rfl (by decide +kernel) ⟨(Nat.le_of_ble_eq_true rfl), (Nat.le_of_ble_eq_true rfl)⟩) ⟨blp, va_recv hK hP (ci := 2) (q0 := 0) rfl rfl, fun U hU hW => ⟨rfl, by rw [hU], by rw [hU]; exact hP, va_K.moved hW.alike hK, hD.weaken (fun _ _ _ _ => trivial)⟩⟩ rfl rfl hl.1 rfl (lv_room (Nat.le_of_ble_eq_true rfl)) d_M_operate_105 ⟨Nat.zero_le _, Nat.zero_le _⟩) hD hS hA (fun g105 eg105 H locs hP hD hS => ?_)
    refine K105g s41_0 g105 (Eq.trans (hj.trans rfl) (congrArg (fun g105 => f_M_operate_105g r0 w0 s0 p1 p2 p3 p4 p5 s41_0 g105) eg105)) hf0 hf1 hf2 hf3 hf4 hf5 H locs ?_ ?_ hS ls (lv_sub hl [] rfl)
    · with_reducible exact hP
    · with_reducible exact hD
  have K71g : ∀ (s41_0 : Int32) (g71 : (Nat → VV)) (hj : f_M_operate r0 w0 s0 p1 p2 p3 p4 p5 = f_M_operate_71g r0 w0 s0 p1 p2 p3 p4 p5 s41_0 g71) (hf0 : p3 = nI p3.toNatClampNeg) (hf1 : p3.toNatClampNeg < 16) (hf2 : p4 = nI p4.toNatClampNeg) (hf3 : p4.toNatClampNeg < 16) (hf4 : p5 = nI p5.toNatClampNeg) (hf5 : p5.toNatClampNeg < 16) (H : Heap) (locs : List Loc) (hP : va_P (dC, dI) classes (mW ad cJ cZ s41_0 g71 w0 s0) H) (hD : va_D A (mW ad cJ cZ s41_0 g71 w0 s0)) (hS : va_S A s.heap H locs) (ls : Array Slot) (hl : lv_has ls 8 [(0, .ref (ad 0)), (1, .int (p1)), (3, .int (p3)), (4, .int (p4)), (5, .int (p5))]), W p l e (headSpec w_M_operate ({ frames := 8, cells := 0, slots := 0, locals := 241 } : Room)).room s m ([.ref (ad 0), .int (p1), .int (p2), .int (p3), .int (p4), .int (p5)] : List Value).toArray below meth c H locs 0 0 (MQ below (va_Qv (fun _ : Unit => True) (mB (dC, dI) A (mW ad cJ cZ (f_M_operate r0 w0 s0 p1 p2 p3 p4 p5).1 (f_M_operate r0 w0 s0 p1 p2 p3 p4 p5).2.1 (f_M_operate r0 w0 s0 p1 p2 p3 p4 p5).2.2.1 (f_M_operate r0 w0 s0 p1 p2 p3 p4 p5).2.2.2)) A) ([.ref (ad 0), .int (p1), .int (p2), .int (p3), .int (p4), .int (p5)] : List Value).toArray s 0 0 A) (F0 m 74 ls []) := by
    intro s41_0 g71 hj hf0 hf1 hf2 hf3 hf4 hf5 H locs hP hD hS ls hl
    refine lv_aload_n hx hb d_M_operate_74 rfl (lv_at hl 0 rfl) ?_
    refine lv_iload_n hx hb d_M_operate_75 rfl (lv_at hl 1 rfl) ?_
    refine lv_bipush (v := 63) hx hb d_M_operate_76 (by decide) ?_
    refine mm_v (F := f_M_apply g71 p1 63) (w1 := fun g78 => (mW ad cJ cZ s41_0 g78 w0 s0)) (va_runV (As := [.int (p1), .int (63)]) (rest := []) ⟨hx, hb, hml, hown, hts⟩ (c_M_apply l dC dI ad cJ cZ H.size s41_0 g71 w0 s0 p1 63) (cwV 2 hts (gxV gx124 gx125 gx297 gx0 gx126) rfl rfl rfl (by decide +kernel) ⟨(Nat.le_of_ble_eq_true rfl), (Nat.le_of_ble_eq_true rfl)⟩) ⟨blp, va_recv hK hP (ci := 2) (q0 := 0) rfl rfl, fun U hU hW => ⟨rfl, by rw [hU], by rw [hU]; exact hP, va_K.moved hW.alike hK, hD.weaken (fun _ _ _ _ => trivial)⟩⟩ rfl rfl hl.1 rfl (lv_room (Nat.le_of_ble_eq_true rfl)) d_M_operate_78 ⟨Nat.zero_le _, Nat.zero_le _⟩) hD hS hA (fun g78 eg78 H locs hP hD hS => ?_)
    refine K78g s41_0 g78 (Eq.trans (hj.trans rfl) (congrArg (fun g78 => f_M_operate_78g r0 w0 s0 p1 p2 p3 p4 p5 s41_0 g78) eg78)) hf0 hf1 hf2 hf3 hf4 hf5 H locs ?_ ?_ hS ls (lv_sub hl [0, 1, 2, 3, 4] rfl)
    · with_reducible exact hP
    · with_reducible exact hD
  have K63g : ∀ (s41_0 : Int32) (g63 : (Nat → VV)) (hj : f_M_operate r0 w0 s0 p1 p2 p3 p4 p5 = f_M_operate_63g r0 w0 s0 p1 p2 p3 p4 p5 s41_0 g63) (hf0 : p3 = nI p3.toNatClampNeg) (hf1 : p3.toNatClampNeg < 16) (hf2 : p4 = nI p4.toNatClampNeg) (hf3 : p4.toNatClampNeg < 16) (hf4 : p5 = nI p5.toNatClampNeg) (hf5 : p5.toNatClampNeg < 16) (H : Heap) (locs : List Loc) (hP : va_P (dC, dI) classes (mW ad cJ cZ s41_0 g63 w0 s0) H) (hD : va_D A (mW ad cJ cZ s41_0 g63 w0 s0)) (hS : va_S A s.heap H locs) (ls : Array Slot) (hl : lv_has ls 8 [(0, .ref (ad 0)), (1, .int (p1)), (3, .int (p3)), (4, .int (p4)), (5, .int (p5))]), W p l e (headSpec w_M_operate ({ frames := 8, cells := 0, slots := 0, locals := 241 } : Room)).room s m ([.ref (ad 0), .int (p1), .int (p2), .int (p3), .int (p4), .int (p5)] : List Value).toArray below meth c H locs 0 0 (MQ below (va_Qv (fun _ : Unit => True) (mB (dC, dI) A (mW ad cJ cZ (f_M_operate r0 w0 s0 p1 p2 p3 p4 p5).1 (f_M_operate r0 w0 s0 p1 p2 p3 p4 p5).2.1 (f_M_operate r0 w0 s0 p1 p2 p3 p4 p5).2.2.1 (f_M_operate r0 w0 s0 p1 p2 p3 p4 p5).2.2.2)) A) ([.ref (ad 0), .int (p1), .int (p2), .int (p3), .int (p4), .int (p5)] : List Value).toArray s 0 0 A) (F0 m 66 ls []) := by
    intro s41_0 g63 hj hf0 hf1 hf2 hf3 hf4 hf5 H locs hP hD hS ls hl
    refine lv_aload_n hx hb d_M_operate_66 rfl (lv_at hl 0 rfl) ?_
    refine lv_iload hx hb d_M_operate_67 (lv_at hl 4 rfl) ?_
    refine top_i hf4 ?_
    refine lv_bipush (v := 17) hx hb d_M_operate_69 (by decide) ?_
    refine mm_v (F := f_M_copy g63 p5.toNatClampNeg 17) (w1 := fun g71 => (mW ad cJ cZ s41_0 g71 w0 s0)) (va_runV (As := [.int (nI p5.toNatClampNeg), .int (17)]) (rest := []) ⟨hx, hb, hml, hown, hts⟩ (c_M_copy l dC dI ad cJ cZ H.size s41_0 g63 w0 s0 p5.toNatClampNeg 17 (Nat.lt_of_lt_of_le hf5 (by decide)) (by decide)) (cwV 2 hts (gxV gx48 gx49 gx268 gx0 gx50) rfl rfl rfl (by decide +kernel) ⟨(Nat.le_of_ble_eq_true rfl), (Nat.le_of_ble_eq_true rfl)⟩) ⟨blp, va_recv hK hP (ci := 2) (q0 := 0) rfl rfl, fun U hU hW => ⟨rfl, by rw [hU], by rw [hU]; exact hP, va_K.moved hW.alike hK, hD.weaken (fun _ _ _ _ => trivial)⟩⟩ rfl rfl hl.1 rfl (lv_room (Nat.le_of_ble_eq_true rfl)) d_M_operate_71 ⟨Nat.zero_le _, Nat.zero_le _⟩) hD hS hA (fun g71 eg71 H locs hP hD hS => ?_)
    refine K71g s41_0 g71 (Eq.trans (hj.trans rfl) (congrArg (fun g71 => f_M_operate_71g r0 w0 s0 p1 p2 p3 p4 p5 s41_0 g71) eg71)) hf0 hf1 hf2 hf3 hf4 hf5 H locs ?_ ?_ hS ls (lv_sub hl [0, 1, 2, 3, 4] rfl)
    · with_reducible exact hP
    · with_reducible exact hD
  have K41 : ∀ (s41_0 : Int32) (c41 : Int32) (hj : f_M_operate r0 w0 s0 p1 p2 p3 p4 p5 = f_M_operate_41 r0 w0 s0 p1 p2 p3 p4 p5 s41_0 c41) (hf0 : p3 = nI p3.toNatClampNeg) (hf1 : p3.toNatClampNeg < 16) (hf2 : p4 = nI p4.toNatClampNeg) (hf3 : p4.toNatClampNeg < 16) (hf4 : p5 = nI p5.toNatClampNeg) (hf5 : p5.toNatClampNeg < 16) (H : Heap) (locs : List Loc) (hP : va_P (dC, dI) classes (mW ad cJ cZ c41 r0 w0 s0) H) (hD : va_D A (mW ad cJ cZ c41 r0 w0 s0)) (hS : va_S A s.heap H locs) (ls : Array Slot) (hl : lv_has ls 8 [(0, .ref (ad 0)), (1, .int (p1)), (2, .int (p2)), (3, .int (p3)), (4, .int (p4)), (5, .int (p5))]), W p l e (headSpec w_M_operate ({ frames := 8, cells := 0, slots := 0, locals := 241 } : Room)).room s m ([.ref (ad 0), .int (p1), .int (p2), .int (p3), .int (p4), .int (p5)] : List Value).toArray below meth c H locs 0 0 (MQ below (va_Qv (fun _ : Unit => True) (mB (dC, dI) A (mW ad cJ cZ (f_M_operate r0 w0 s0 p1 p2 p3 p4 p5).1 (f_M_operate r0 w0 s0 p1 p2 p3 p4 p5).2.1 (f_M_operate r0 w0 s0 p1 p2 p3 p4 p5).2.2.1 (f_M_operate r0 w0 s0 p1 p2 p3 p4 p5).2.2.2)) A) ([.ref (ad 0), .int (p1), .int (p2), .int (p3), .int (p4), .int (p5)] : List Value).toArray s 0 0 A) (F0 m 41 ls [.int (s41_0), .ref (ad 0)]) := by
    intro s41_0 c41 hj hf0 hf1 hf2 hf3 hf4 hf5 H locs hP hD hS ls hl
    refine mp_c hx hb hts (fun w h => List.mem_cons_of_mem _ (uw_M w h)) hown hK hP hD hS (hG (.fieldLink R_M 35 "ValueSieveModel" "code" "I") gx9) d_M_operate_41 (fun H locs hP hD hS => ?_)
    refine lv_aload_n hx hb d_M_operate_44 rfl (lv_at hl 0 rfl) ?_
    refine va_get (D := (dC, dI)) (ci := 2) (v := .int (s41_0)) (C := R_M) (T := F_M) (N := 10) hx hb hts (fun w h => List.mem_cons_of_mem _ (uw_M w h)) hown hK hP 0 rfl rfl 0 (by decide) (hG (.fieldLink R_M 35 "ValueSieveModel" "code" "I") gx9) (fun _ h9 => h9) rfl d_M_operate_45 ?_
    refine lv_if_le (tgt := 52) hx hb d_M_operate_48 (by decide) (fun e1_52 => ?_) (fun e1_52 => ?_)
    · refine lv_iload_n hx hb d_M_operate_52 rfl (lv_at hl 2 rfl) ?_
      refine lv_bipush (v := 64) hx hb d_M_operate_53 (by decide) ?_
      refine lv_icmp_ne (tgt := 109) hx hb d_M_operate_55 (by decide) (fun e2_109 => ?_) (fun e2_109 => ?_)
      · refine lv_iload_n hx hb d_M_operate_109 rfl (lv_at hl 1 rfl) ?_
        refine lv_bipush (v := 10) hx hb d_M_operate_110 (by decide) ?_
        refine lv_icmp_ne (tgt := 128) hx hb d_M_operate_112 (by decide) (fun e3_128 => ?_) (fun e3_128 => ?_)
        · refine lv_aload_n hx hb d_M_operate_128 rfl (lv_at hl 0 rfl) ?_
          refine lv_iload hx hb d_M_operate_129 (lv_at hl 4 rfl) ?_
          refine top_i hf2 ?_
          refine lv_bipush (v := 16) hx hb d_M_operate_131 (by decide) ?_
          refine lv_bipush (v := 32) hx hb d_M_operate_133 (by decide) ?_
          refine mm_v (F := f_M_cutRow r0 p4.toNatClampNeg 16 32) (w1 := fun g135 => (mW ad cJ cZ s41_0 g135 w0 s0)) (va_runV (As := [.int (nI p4.toNatClampNeg), .int (16), .int (32)]) (rest := []) ⟨hx, hb, hml, hown, hts⟩ (c_M_cutRow l dC dI ad cJ cZ H.size s41_0 r0 w0 s0 p4.toNatClampNeg 16 32 (Nat.lt_of_lt_of_le hf3 (by decide)) (by decide)) (cwV 3 hts (gxV gx99 gx100 gx279 gx0 gx101) rfl rfl rfl (by decide +kernel) ⟨(Nat.le_of_ble_eq_true rfl), (Nat.le_of_ble_eq_true rfl)⟩) ⟨blp, va_recv hK hP (ci := 2) (q0 := 0) rfl rfl, fun U hU hW => ⟨rfl, by rw [hU], by rw [hU]; exact hP, va_K.moved hW.alike hK, hD.weaken (fun _ _ _ _ => trivial)⟩⟩ rfl rfl hl.1 rfl (lv_room (Nat.le_of_ble_eq_true rfl)) d_M_operate_135 ⟨Nat.zero_le _, Nat.zero_le _⟩) hD hS hA (fun g135 eg135 H locs hP hD hS => ?_)
          refine K135g s41_0 g135 (Eq.trans (hj.trans (by unfold f_M_operate_41; first | with_reducible exact (if_pos e1_52).trans ((if_neg e2_109).trans (if_neg e3_128)) | exact (if_pos e1_52).trans ((if_neg e2_109).trans (if_neg e3_128)))) (congrArg (fun g135 => f_M_operate_135g r0 w0 s0 p1 p2 p3 p4 p5 s41_0 g135) eg135)) hf0 hf1 hf2 hf3 hf4 hf5 H locs ?_ ?_ hS ls (lv_sub hl [0, 1, 3, 4, 5] rfl)
          · with_reducible exact hP
          · with_reducible exact hD
        · refine lv_aload_n hx hb d_M_operate_115 rfl (lv_at hl 0 rfl) ?_
          refine lv_iload hx hb d_M_operate_116 (lv_at hl 4 rfl) ?_
          refine top_i hf2 ?_
          refine lv_bipush (v := 16) hx hb d_M_operate_118 (by decide) ?_
          refine lv_bipush (v := 32) hx hb d_M_operate_120 (by decide) ?_
          refine mm_v (F := f_M_extendRow r0 p4.toNatClampNeg 16 32) (w1 := fun g122 => (mW ad cJ cZ s41_0 g122 w0 s0)) (va_runV (As := [.int (nI p4.toNatClampNeg), .int (16), .int (32)]) (rest := []) ⟨hx, hb, hml, hown, hts⟩ (c_M_extendRow l dC dI ad cJ cZ H.size s41_0 r0 w0 s0 p4.toNatClampNeg 16 32 (Nat.lt_of_lt_of_le hf3 (by decide)) (by decide)) (cwV 3 hts (gxV gx108 gx109 gx280 gx0 gx110) rfl rfl rfl (by decide +kernel) ⟨(Nat.le_of_ble_eq_true rfl), (Nat.le_of_ble_eq_true rfl)⟩) ⟨blp, va_recv hK hP (ci := 2) (q0 := 0) rfl rfl, fun U hU hW => ⟨rfl, by rw [hU], by rw [hU]; exact hP, va_K.moved hW.alike hK, hD.weaken (fun _ _ _ _ => trivial)⟩⟩ rfl rfl hl.1 rfl (lv_room (Nat.le_of_ble_eq_true rfl)) d_M_operate_122 ⟨Nat.zero_le _, Nat.zero_le _⟩) hD hS hA (fun g122 eg122 H locs hP hD hS => ?_)
          refine K122g s41_0 g122 (Eq.trans (hj.trans (by unfold f_M_operate_41; first | with_reducible exact (if_pos e1_52).trans ((if_neg e2_109).trans (if_pos e3_128)) | exact (if_pos e1_52).trans ((if_neg e2_109).trans (if_pos e3_128)))) (congrArg (fun g122 => f_M_operate_122g r0 w0 s0 p1 p2 p3 p4 p5 s41_0 g122) eg122)) hf0 hf1 hf2 hf3 hf4 hf5 H locs ?_ ?_ hS ls (lv_sub hl [0, 1, 3, 4, 5] rfl)
          · with_reducible exact hP
          · with_reducible exact hD
      · refine lv_aload_n hx hb d_M_operate_58 rfl (lv_at hl 0 rfl) ?_
        refine lv_iload hx hb d_M_operate_59 (lv_at hl 4 rfl) ?_
        refine top_i hf2 ?_
        refine lv_bipush (v := 16) hx hb d_M_operate_61 (by decide) ?_
        refine mm_v (F := f_M_copy r0 p4.toNatClampNeg 16) (w1 := fun g63 => (mW ad cJ cZ s41_0 g63 w0 s0)) (va_runV (As := [.int (nI p4.toNatClampNeg), .int (16)]) (rest := []) ⟨hx, hb, hml, hown, hts⟩ (c_M_copy l dC dI ad cJ cZ H.size s41_0 r0 w0 s0 p4.toNatClampNeg 16 (Nat.lt_of_lt_of_le hf3 (by decide)) (by decide)) (cwV 2 hts (gxV gx48 gx49 gx268 gx0 gx50) rfl rfl rfl (by decide +kernel) ⟨(Nat.le_of_ble_eq_true rfl), (Nat.le_of_ble_eq_true rfl)⟩) ⟨blp, va_recv hK hP (ci := 2) (q0 := 0) rfl rfl, fun U hU hW => ⟨rfl, by rw [hU], by rw [hU]; exact hP, va_K.moved hW.alike hK, hD.weaken (fun _ _ _ _ => trivial)⟩⟩ rfl rfl hl.1 rfl (lv_room (Nat.le_of_ble_eq_true rfl)) d_M_operate_63 ⟨Nat.zero_le _, Nat.zero_le _⟩) hD hS hA (fun g63 eg63 H locs hP hD hS => ?_)
        refine K63g s41_0 g63 (Eq.trans (hj.trans (by unfold f_M_operate_41; first | with_reducible exact (if_pos e1_52).trans (if_pos e2_109) | exact (if_pos e1_52).trans (if_pos e2_109))) (congrArg (fun g63 => f_M_operate_63g r0 w0 s0 p1 p2 p3 p4 p5 s41_0 g63) eg63)) hf0 hf1 hf2 hf3 hf4 hf5 H locs ?_ ?_ hS ls (lv_sub hl [0, 1, 3, 4, 5] rfl)
        · with_reducible exact hP
        · with_reducible exact hD
    · have fe : f_M_operate r0 w0 s0 p1 p2 p3 p4 p5 = (s41_0, r0, w0, s0) := hj.trans (by unfold f_M_operate_41; first | with_reducible exact if_neg e1_52 | exact if_neg e1_52)
      exact W.vret hx hb hr (fun t ht hW => ⟨⟨(), rfl, trivial, by rw [ht, fe]; exact hP, by rw [fe]; exact hD⟩, hS.F ht⟩) hS.2.2 d_M_operate_51
  have K40 : ∀ (c40 : Int32) (hj : f_M_operate r0 w0 s0 p1 p2 p3 p4 p5 = f_M_operate_40 r0 w0 s0 p1 p2 p3 p4 p5 c40) (hf0 : p3 = nI p3.toNatClampNeg) (hf1 : p3.toNatClampNeg < 16) (hf2 : p4 = nI p4.toNatClampNeg) (hf3 : p4.toNatClampNeg < 16) (hf4 : p5 = nI p5.toNatClampNeg) (hf5 : p5.toNatClampNeg < 16) (H : Heap) (locs : List Loc) (hP : va_P (dC, dI) classes (mW ad cJ cZ c40 r0 w0 s0) H) (hD : va_D A (mW ad cJ cZ c40 r0 w0 s0)) (hS : va_S A s.heap H locs) (ls : Array Slot) (hl : lv_has ls 8 [(0, .ref (ad 0)), (1, .int (p1)), (2, .int (p2)), (3, .int (p3)), (4, .int (p4)), (5, .int (p5))]), W p l e (headSpec w_M_operate ({ frames := 8, cells := 0, slots := 0, locals := 241 } : Room)).room s m ([.ref (ad 0), .int (p1), .int (p2), .int (p3), .int (p4), .int (p5)] : List Value).toArray below meth c H locs 0 0 (MQ below (va_Qv (fun _ : Unit => True) (mB (dC, dI) A (mW ad cJ cZ (f_M_operate r0 w0 s0 p1 p2 p3 p4 p5).1 (f_M_operate r0 w0 s0 p1 p2 p3 p4 p5).2.1 (f_M_operate r0 w0 s0 p1 p2 p3 p4 p5).2.2.1 (f_M_operate r0 w0 s0 p1 p2 p3 p4 p5).2.2.2)) A) ([.ref (ad 0), .int (p1), .int (p2), .int (p3), .int (p4), .int (p5)] : List Value).toArray s 0 0 A) (F0 m 40 ls [.ref (ad 0)]) := by
    intro c40 hj hf0 hf1 hf2 hf3 hf4 hf5 H locs hP hD hS ls hl
    refine lv_iconst (v := 2) hx hb d_M_operate_40 (by decide) ?_
    refine K41 2 c40 (hj.trans rfl) hf0 hf1 hf2 hf3 hf4 hf5 H locs ?_ ?_ hS ls (lv_sub hl [0, 1, 2, 3, 4, 5] rfl)
    · with_reducible exact hP
    · with_reducible exact hD
  have K36 : ∀ (c36 : Int32) (hj : f_M_operate r0 w0 s0 p1 p2 p3 p4 p5 = f_M_operate_36 r0 w0 s0 p1 p2 p3 p4 p5 c36) (hf0 : p3 = nI p3.toNatClampNeg) (hf1 : p3.toNatClampNeg < 16) (hf2 : p4 = nI p4.toNatClampNeg) (hf3 : p4.toNatClampNeg < 16) (hf4 : p5 = nI p5.toNatClampNeg) (hf5 : p5.toNatClampNeg < 16) (H : Heap) (locs : List Loc) (hP : va_P (dC, dI) classes (mW ad cJ cZ c36 r0 w0 s0) H) (hD : va_D A (mW ad cJ cZ c36 r0 w0 s0)) (hS : va_S A s.heap H locs) (ls : Array Slot) (hl : lv_has ls 8 [(0, .ref (ad 0)), (1, .int (p1)), (2, .int (p2)), (3, .int (p3)), (4, .int (p4)), (5, .int (p5))]), W p l e (headSpec w_M_operate ({ frames := 8, cells := 0, slots := 0, locals := 241 } : Room)).room s m ([.ref (ad 0), .int (p1), .int (p2), .int (p3), .int (p4), .int (p5)] : List Value).toArray below meth c H locs 0 0 (MQ below (va_Qv (fun _ : Unit => True) (mB (dC, dI) A (mW ad cJ cZ (f_M_operate r0 w0 s0 p1 p2 p3 p4 p5).1 (f_M_operate r0 w0 s0 p1 p2 p3 p4 p5).2.1 (f_M_operate r0 w0 s0 p1 p2 p3 p4 p5).2.2.1 (f_M_operate r0 w0 s0 p1 p2 p3 p4 p5).2.2.2)) A) ([.ref (ad 0), .int (p1), .int (p2), .int (p3), .int (p4), .int (p5)] : List Value).toArray s 0 0 A) (F0 m 36 ls [.ref (ad 0)]) := by
    intro c36 hj hf0 hf1 hf2 hf3 hf4 hf5 H locs hP hD hS ls hl
    refine lv_iconst (v := 0) hx hb d_M_operate_36 (by decide) ?_
    refine lv_goto (tgt := 41) hx hb d_M_operate_37 (by decide) ?_
    refine K41 0 c36 (hj.trans rfl) hf0 hf1 hf2 hf3 hf4 hf5 H locs ?_ ?_ hS ls (lv_sub hl [0, 1, 2, 3, 4, 5] rfl)
    · with_reducible exact hP
    · with_reducible exact hD
  have K6g : ∀ (g6 : Bool × Int32) (hj : f_M_operate r0 w0 s0 p1 p2 p3 p4 p5 = f_M_operate_6g r0 w0 s0 p1 p2 p3 p4 p5 g6) (hf0 : npF g6.1 p3 p4 p5) (H : Heap) (locs : List Loc) (hP : va_P (dC, dI) classes (mW ad cJ cZ g6.2 r0 w0 s0) H) (hD : va_D A (mW ad cJ cZ g6.2 r0 w0 s0)) (hS : va_S A s.heap H locs) (ls : Array Slot) (hl : lv_has ls 8 [(0, .ref (ad 0)), (1, .int (p1)), (2, .int (p2)), (3, .int (p3)), (4, .int (p4)), (5, .int (p5))]), W p l e (headSpec w_M_operate ({ frames := 8, cells := 0, slots := 0, locals := 241 } : Room)).room s m ([.ref (ad 0), .int (p1), .int (p2), .int (p3), .int (p4), .int (p5)] : List Value).toArray below meth c H locs 0 0 (MQ below (va_Qv (fun _ : Unit => True) (mB (dC, dI) A (mW ad cJ cZ (f_M_operate r0 w0 s0 p1 p2 p3 p4 p5).1 (f_M_operate r0 w0 s0 p1 p2 p3 p4 p5).2.1 (f_M_operate r0 w0 s0 p1 p2 p3 p4 p5).2.2.1 (f_M_operate r0 w0 s0 p1 p2 p3 p4 p5).2.2.2)) A) ([.ref (ad 0), .int (p1), .int (p2), .int (p3), .int (p4), .int (p5)] : List Value).toArray s 0 0 A) (F0 m 9 ls [.int (bI g6.1)]) := by
    intro g6 hj hf0 H locs hP hD hS ls hl
    refine wz_eq (tgt := 13) hx hb d_M_operate_9 (by decide) (fun e1_13 => ?_) (fun e1_13 => ?_)
    · obtain ⟨⟨i1, j1⟩, ⟨i2, j2⟩, ⟨i3, j3⟩⟩ := npF_of hf0 e1_13
      refine lv_aload_n hx hb d_M_operate_13 rfl (lv_at hl 0 rfl) ?_
      refine lv_iload_n hx hb d_M_operate_14 rfl (lv_at hl 1 rfl) ?_
      refine lv_if_lt (tgt := 40) hx hb d_M_operate_15 (by decide) (fun e2_40 => ?_) (fun e2_40 => ?_)
      · refine K40 g6.2 (hj.trans (by unfold f_M_operate_6g; first | with_reducible exact (if_neg e1_13).trans (if_pos e2_40) | exact (if_neg e1_13).trans (if_pos e2_40))) i1 j1 i2 j2 i3 j3 H locs ?_ ?_ hS ls (lv_sub hl [0, 1, 2, 3, 4, 5] rfl)
        · with_reducible exact hP
        · with_reducible exact hD
      · refine lv_iload_n hx hb d_M_operate_18 rfl (lv_at hl 1 rfl) ?_
        refine lv_bipush (v := 12) hx hb d_M_operate_19 (by decide) ?_
        refine lv_icmp_ge (tgt := 40) hx hb d_M_operate_21 (by decide) (fun e3_40 => ?_) (fun e3_40 => ?_)
        · refine K40 g6.2 (hj.trans (by unfold f_M_operate_6g; first | with_reducible exact (if_neg e1_13).trans ((if_neg e2_40).trans (if_pos e3_40)) | exact (if_neg e1_13).trans ((if_neg e2_40).trans (if_pos e3_40)))) i1 j1 i2 j2 i3 j3 H locs ?_ ?_ hS ls (lv_sub hl [0, 1, 2, 3, 4, 5] rfl)
          · with_reducible exact hP
          · with_reducible exact hD
        · refine lv_iload_n hx hb d_M_operate_24 rfl (lv_at hl 2 rfl) ?_
          refine lv_bipush (v := 64) hx hb d_M_operate_25 (by decide) ?_
          refine lv_icmp_eq (tgt := 36) hx hb d_M_operate_27 (by decide) (fun e4_36 => ?_) (fun e4_36 => ?_)
          · refine K36 g6.2 (hj.trans (by unfold f_M_operate_6g; first | with_reducible exact (if_neg e1_13).trans ((if_neg e2_40).trans ((if_neg e3_40).trans (if_pos e4_36))) | exact (if_neg e1_13).trans ((if_neg e2_40).trans ((if_neg e3_40).trans (if_pos e4_36))))) i1 j1 i2 j2 i3 j3 H locs ?_ ?_ hS ls (lv_sub hl [0, 1, 2, 3, 4, 5] rfl)
            · with_reducible exact hP
            · with_reducible exact hD
          · refine lv_iload_n hx hb d_M_operate_30 rfl (lv_at hl 2 rfl) ?_
            refine lv_bipush (v := 32) hx hb d_M_operate_31 (by decide) ?_
            refine lv_icmp_ne (tgt := 40) hx hb d_M_operate_33 (by decide) (fun e5_40 => ?_) (fun e5_40 => ?_)
            · refine K40 g6.2 (hj.trans (by unfold f_M_operate_6g; first | with_reducible exact (if_neg e1_13).trans ((if_neg e2_40).trans ((if_neg e3_40).trans ((if_neg e4_36).trans (if_neg e5_40)))) | exact (if_neg e1_13).trans ((if_neg e2_40).trans ((if_neg e3_40).trans ((if_neg e4_36).trans (if_neg e5_40)))))) i1 j1 i2 j2 i3 j3 H locs ?_ ?_ hS ls (lv_sub hl [0, 1, 2, 3, 4, 5] rfl)
              · with_reducible exact hP
              · with_reducible exact hD
            · refine K36 g6.2 (hj.trans (by unfold f_M_operate_6g; first | with_reducible exact (if_neg e1_13).trans ((if_neg e2_40).trans ((if_neg e3_40).trans ((if_neg e4_36).trans (if_pos e5_40)))) | exact (if_neg e1_13).trans ((if_neg e2_40).trans ((if_neg e3_40).trans ((if_neg e4_36).trans (if_pos e5_40)))))) i1 j1 i2 j2 i3 j3 H locs ?_ ?_ hS ls (lv_sub hl [0, 1, 2, 3, 4, 5] rfl)
              · with_reducible exact hP
              · with_reducible exact hD
    · have fe : f_M_operate r0 w0 s0 p1 p2 p3 p4 p5 = (g6.2, r0, w0, s0) := hj.trans (by unfold f_M_operate_6g; first | with_reducible exact if_pos e1_13 | exact if_pos e1_13)
      exact W.vret hx hb hr (fun t ht hW => ⟨⟨(), rfl, trivial, by rw [ht, fe]; exact hP, by rw [fe]; exact hD⟩, hS.F ht⟩) hS.2.2 d_M_operate_12
  refine lv_aload_n hx hb d_M_operate_0 rfl (lv_at hl 0 rfl) ?_
  refine lv_iload_n hx hb d_M_operate_1 rfl (lv_at hl 3 rfl) ?_
  refine lv_iload hx hb d_M_operate_2 (lv_at hl 4 rfl) ?_
  refine lv_iload hx hb d_M_operate_4 (lv_at hl 5 rfl) ?_
  refine mm_z (F := f_M_noPlace p3 p4 p5) (w1 := fun g6 => (mW ad cJ cZ g6.2 r0 w0 s0)) (va_runV (As := [.int (p3), .int (p4), .int (p5)]) (rest := []) ⟨hx, hb, hml, hown, hts⟩ (c_M_noPlace l dC dI ad cJ cZ s.heap.size c0 r0 w0 s0 p3 p4 p5) (cwV 3 hts (gxV gx36 gx37 gx276 gx0 gx38) rfl rfl rfl (by decide +kernel) ⟨(Nat.le_of_ble_eq_true rfl), (Nat.le_of_ble_eq_true rfl)⟩) ⟨blp, va_recv hK hP (ci := 2) (q0 := 0) rfl rfl, fun U hU hW => ⟨rfl, by rw [hU], by rw [hU]; exact hP, va_K.moved hW.alike hK, hD.weaken (fun _ _ _ _ => trivial)⟩⟩ rfl rfl hl.1 rfl (lv_room (Nat.le_of_ble_eq_true rfl)) d_M_operate_6 ⟨Nat.zero_le _, Nat.zero_le _⟩) hD hS hA (fun g6 eg6 H locs hP hD hS => ?_)
  have hpg6 := np_ok eg6
  refine K6g g6 (Eq.trans (rfl) (congrArg (fun g6 => f_M_operate_6g r0 w0 s0 p1 p2 p3 p4 p5 g6) eg6)) hpg6 H locs ?_ ?_ hS ls (lv_sub hl [0, 1, 2, 3, 4, 5] rfl)
  · with_reducible exact hP
  · with_reducible exact hD
-- join
theorem d_M_join_0 : decode b_M_join 0 = .ok (.aload_n 0, 1) := by decide +kernel
theorem d_M_join_1 : decode b_M_join 1 = .ok (.iload_n 1, 1) := by decide +kernel
theorem d_M_join_2 : decode b_M_join 2 = .ok (.iload_n 2, 1) := by decide +kernel
theorem d_M_join_3 : decode b_M_join 3 = .ok (.iload_n 3, 1) := by decide +kernel
theorem d_M_join_4 : decode b_M_join 4 = .ok (.invokevirtual 98, 3) := by decide +kernel
theorem d_M_join_7 : decode b_M_join 7 = .ok (.ifCond .eq 4, 3) := by decide +kernel
theorem d_M_join_10 : decode b_M_join 10 = .ok (.return_, 1) := by decide +kernel
theorem d_M_join_11 : decode b_M_join 11 = .ok (.aload_n 0, 1) := by decide +kernel
theorem d_M_join_12 : decode b_M_join 12 = .ok (.iload_n 2, 1) := by decide +kernel
theorem d_M_join_13 : decode b_M_join 13 = .ok (.iload_n 3, 1) := by decide +kernel
theorem d_M_join_14 : decode b_M_join 14 = .ok (.invokevirtual 208, 3) := by decide +kernel
theorem d_M_join_17 : decode b_M_join 17 = .ok (.aload_n 0, 1) := by decide +kernel
theorem d_M_join_18 : decode b_M_join 18 = .ok (.getfield 16, 3) := by decide +kernel
theorem d_M_join_21 : decode b_M_join 21 = .ok (.bipush 18, 2) := by decide +kernel
theorem d_M_join_23 : decode b_M_join 23 = .ok (.aload_n 0, 1) := by decide +kernel
theorem d_M_join_24 : decode b_M_join 24 = .ok (.getfield 16, 3) := by decide +kernel
theorem d_M_join_27 : decode b_M_join 27 = .ok (.iload_n 2, 1) := by decide +kernel
theorem d_M_join_28 : decode b_M_join 28 = .ok (.laload, 1) := by decide +kernel
theorem d_M_join_29 : decode b_M_join 29 = .ok (.aload_n 0, 1) := by decide +kernel
theorem d_M_join_30 : decode b_M_join 30 = .ok (.getfield 16, 3) := by decide +kernel
theorem d_M_join_33 : decode b_M_join 33 = .ok (.iload_n 3, 1) := by decide +kernel
theorem d_M_join_34 : decode b_M_join 34 = .ok (.laload, 1) := by decide +kernel
theorem d_M_join_35 : decode b_M_join 35 = .ok (.invokestatic 61, 3) := by decide +kernel
theorem d_M_join_38 : decode b_M_join 38 = .ok (.lastore, 1) := by decide +kernel
theorem d_M_join_39 : decode b_M_join 39 = .ok (.aload_n 0, 1) := by decide +kernel
theorem d_M_join_40 : decode b_M_join 40 = .ok (.getfield 19, 3) := by decide +kernel
theorem d_M_join_43 : decode b_M_join 43 = .ok (.bipush 18, 2) := by decide +kernel
theorem d_M_join_45 : decode b_M_join 45 = .ok (.aload_n 0, 1) := by decide +kernel
theorem d_M_join_46 : decode b_M_join 46 = .ok (.getfield 19, 3) := by decide +kernel
theorem d_M_join_49 : decode b_M_join 49 = .ok (.iload_n 2, 1) := by decide +kernel
theorem d_M_join_50 : decode b_M_join 50 = .ok (.laload, 1) := by decide +kernel
theorem d_M_join_51 : decode b_M_join 51 = .ok (.aload_n 0, 1) := by decide +kernel
theorem d_M_join_52 : decode b_M_join 52 = .ok (.getfield 19, 3) := by decide +kernel
theorem d_M_join_55 : decode b_M_join 55 = .ok (.iload_n 3, 1) := by decide +kernel
theorem d_M_join_56 : decode b_M_join 56 = .ok (.laload, 1) := by decide +kernel
theorem d_M_join_57 : decode b_M_join 57 = .ok (.invokestatic 58, 3) := by decide +kernel
theorem d_M_join_60 : decode b_M_join 60 = .ok (.lastore, 1) := by decide +kernel
theorem d_M_join_61 : decode b_M_join 61 = .ok (.aload_n 0, 1) := by decide +kernel
theorem d_M_join_62 : decode b_M_join 62 = .ok (.getfield 22, 3) := by decide +kernel
theorem d_M_join_65 : decode b_M_join 65 = .ok (.bipush 18, 2) := by decide +kernel
theorem d_M_join_67 : decode b_M_join 67 = .ok (.aload_n 0, 1) := by decide +kernel
theorem d_M_join_68 : decode b_M_join 68 = .ok (.getfield 22, 3) := by decide +kernel
theorem d_M_join_71 : decode b_M_join 71 = .ok (.iload_n 2, 1) := by decide +kernel
theorem d_M_join_72 : decode b_M_join 72 = .ok (.laload, 1) := by decide +kernel
theorem d_M_join_73 : decode b_M_join 73 = .ok (.aload_n 0, 1) := by decide +kernel
theorem d_M_join_74 : decode b_M_join 74 = .ok (.getfield 22, 3) := by decide +kernel
theorem d_M_join_77 : decode b_M_join 77 = .ok (.iload_n 3, 1) := by decide +kernel
theorem d_M_join_78 : decode b_M_join 78 = .ok (.laload, 1) := by decide +kernel
theorem d_M_join_79 : decode b_M_join 79 = .ok (.lcmp, 1) := by decide +kernel
theorem d_M_join_80 : decode b_M_join 80 = .ok (.ifCond .ge 12, 3) := by decide +kernel
theorem d_M_join_83 : decode b_M_join 83 = .ok (.aload_n 0, 1) := by decide +kernel
theorem d_M_join_84 : decode b_M_join 84 = .ok (.getfield 22, 3) := by decide +kernel
theorem d_M_join_87 : decode b_M_join 87 = .ok (.iload_n 2, 1) := by decide +kernel
theorem d_M_join_88 : decode b_M_join 88 = .ok (.laload, 1) := by decide +kernel
theorem d_M_join_89 : decode b_M_join 89 = .ok (.goto 9, 3) := by decide +kernel
theorem d_M_join_92 : decode b_M_join 92 = .ok (.aload_n 0, 1) := by decide +kernel
theorem d_M_join_93 : decode b_M_join 93 = .ok (.getfield 22, 3) := by decide +kernel
theorem d_M_join_96 : decode b_M_join 96 = .ok (.iload_n 3, 1) := by decide +kernel
theorem d_M_join_97 : decode b_M_join 97 = .ok (.laload, 1) := by decide +kernel
theorem d_M_join_98 : decode b_M_join 98 = .ok (.lastore, 1) := by decide +kernel
theorem d_M_join_99 : decode b_M_join 99 = .ok (.aload_n 0, 1) := by decide +kernel
theorem d_M_join_100 : decode b_M_join 100 = .ok (.getfield 25, 3) := by decide +kernel
theorem d_M_join_103 : decode b_M_join 103 = .ok (.bipush 18, 2) := by decide +kernel
theorem d_M_join_105 : decode b_M_join 105 = .ok (.aload_n 0, 1) := by decide +kernel
theorem d_M_join_106 : decode b_M_join 106 = .ok (.getfield 25, 3) := by decide +kernel
theorem d_M_join_109 : decode b_M_join 109 = .ok (.iload_n 2, 1) := by decide +kernel
theorem d_M_join_110 : decode b_M_join 110 = .ok (.laload, 1) := by decide +kernel
theorem d_M_join_111 : decode b_M_join 111 = .ok (.aload_n 0, 1) := by decide +kernel
theorem d_M_join_112 : decode b_M_join 112 = .ok (.getfield 25, 3) := by decide +kernel
theorem d_M_join_115 : decode b_M_join 115 = .ok (.iload_n 3, 1) := by decide +kernel
theorem d_M_join_116 : decode b_M_join 116 = .ok (.laload, 1) := by decide +kernel
theorem d_M_join_117 : decode b_M_join 117 = .ok (.lcmp, 1) := by decide +kernel
theorem d_M_join_118 : decode b_M_join 118 = .ok (.ifCond .le 12, 3) := by decide +kernel
theorem d_M_join_121 : decode b_M_join 121 = .ok (.aload_n 0, 1) := by decide +kernel
theorem d_M_join_122 : decode b_M_join 122 = .ok (.getfield 25, 3) := by decide +kernel
theorem d_M_join_125 : decode b_M_join 125 = .ok (.iload_n 2, 1) := by decide +kernel
theorem d_M_join_126 : decode b_M_join 126 = .ok (.laload, 1) := by decide +kernel
theorem d_M_join_127 : decode b_M_join 127 = .ok (.goto 9, 3) := by decide +kernel
theorem d_M_join_130 : decode b_M_join 130 = .ok (.aload_n 0, 1) := by decide +kernel
theorem d_M_join_131 : decode b_M_join 131 = .ok (.getfield 25, 3) := by decide +kernel
theorem d_M_join_134 : decode b_M_join 134 = .ok (.iload_n 3, 1) := by decide +kernel
theorem d_M_join_135 : decode b_M_join 135 = .ok (.laload, 1) := by decide +kernel
theorem d_M_join_136 : decode b_M_join 136 = .ok (.lastore, 1) := by decide +kernel
theorem d_M_join_137 : decode b_M_join 137 = .ok (.aload_n 0, 1) := by decide +kernel
theorem d_M_join_138 : decode b_M_join 138 = .ok (.getfield 28, 3) := by decide +kernel
theorem d_M_join_141 : decode b_M_join 141 = .ok (.bipush 18, 2) := by decide +kernel
theorem d_M_join_143 : decode b_M_join 143 = .ok (.iconst 0, 1) := by decide +kernel
theorem d_M_join_144 : decode b_M_join 144 = .ok (.bastore, 1) := by decide +kernel
theorem d_M_join_145 : decode b_M_join 145 = .ok (.aload_n 0, 1) := by decide +kernel
theorem d_M_join_146 : decode b_M_join 146 = .ok (.bipush 18, 2) := by decide +kernel
theorem d_M_join_148 : decode b_M_join 148 = .ok (.invokevirtual 113, 3) := by decide +kernel
theorem d_M_join_151 : decode b_M_join 151 = .ok (.aload_n 0, 1) := by decide +kernel
theorem d_M_join_152 : decode b_M_join 152 = .ok (.iload_n 1, 1) := by decide +kernel
theorem d_M_join_153 : decode b_M_join 153 = .ok (.bipush 18, 2) := by decide +kernel
theorem d_M_join_155 : decode b_M_join 155 = .ok (.iload 4, 2) := by decide +kernel
theorem d_M_join_157 : decode b_M_join 157 = .ok (.ifCond .eq 12, 3) := by decide +kernel
theorem d_M_join_160 : decode b_M_join 160 = .ok (.aload_n 0, 1) := by decide +kernel
theorem d_M_join_161 : decode b_M_join 161 = .ok (.getfield 32, 3) := by decide +kernel
theorem d_M_join_164 : decode b_M_join 164 = .ok (.iload_n 2, 1) := by decide +kernel
theorem d_M_join_165 : decode b_M_join 165 = .ok (.laload, 1) := by decide +kernel
theorem d_M_join_166 : decode b_M_join 166 = .ok (.goto 9, 3) := by decide +kernel
theorem d_M_join_169 : decode b_M_join 169 = .ok (.aload_n 0, 1) := by decide +kernel
theorem d_M_join_170 : decode b_M_join 170 = .ok (.getfield 32, 3) := by decide +kernel
theorem d_M_join_173 : decode b_M_join 173 = .ok (.iload_n 3, 1) := by decide +kernel
theorem d_M_join_174 : decode b_M_join 174 = .ok (.laload, 1) := by decide +kernel
theorem d_M_join_175 : decode b_M_join 175 = .ok (.invokevirtual 105, 3) := by decide +kernel
theorem d_M_join_178 : decode b_M_join 178 = .ok (.return_, 1) := by decide +kernel
def f_M_join_175g (r0 : (Nat → VV)) (w0 : (Nat → Int64)) (s0 : Int32) (p1 : Int32) (p2 : Int32) (p3 : Int32) (p4 : Bool) (c14g : Int32) (g175 : (Nat → VV) × (Nat → Int64) × Int32) : Int32 × (Nat → VV) × (Nat → Int64) × Int32 := (c14g, g175.1, g175.2.1, g175.2.2)
def f_M_join_175 (r0 : (Nat → VV)) (w0 : (Nat → Int64)) (s0 : Int32) (p1 : Int32) (p2 : Int32) (p3 : Int32) (p4 : Bool) (s175_0 : Int64) (c14g : Int32) (g148 : (Nat → VV)) : Int32 × (Nat → VV) × (Nat → Int64) × Int32 := f_M_join_175g r0 w0 s0 p1 p2 p3 p4 c14g (f_M_put g148 w0 s0 p1.toNatClampNeg 18 s175_0)
def f_M_join_148g (r0 : (Nat → VV)) (w0 : (Nat → Int64)) (s0 : Int32) (p1 : Int32) (p2 : Int32) (p3 : Int32) (p4 : Bool) (c14g : Int32) (g148 : (Nat → VV)) : Int32 × (Nat → VV) × (Nat → Int64) × Int32 := (if p4 = true then f_M_join_175 r0 w0 s0 p1 p2 p3 p4 (w0 p2.toNatClampNeg) c14g g148 else f_M_join_175 r0 w0 s0 p1 p2 p3 p4 (w0 p3.toNatClampNeg) c14g g148)
def f_M_join_144u (r0 : (Nat → VV)) (w0 : (Nat → Int64)) (s0 : Int32) (p1 : Int32) (p2 : Int32) (p3 : Int32) (p4 : Bool) (c14g : Int32) (r144n : (Nat → VV)) : Int32 × (Nat → VV) × (Nat → Int64) × Int32 := f_M_join_148g r0 w0 s0 p1 p2 p3 p4 c14g (f_M_tighten r144n 18)
def f_M_join_136u (r0 : (Nat → VV)) (w0 : (Nat → Int64)) (s0 : Int32) (p1 : Int32) (p2 : Int32) (p3 : Int32) (p4 : Bool) (c14g : Int32) (r136n : (Nat → VV)) : Int32 × (Nat → VV) × (Nat → Int64) × Int32 := f_M_join_144u r0 w0 s0 p1 p2 p3 p4 c14g (u7 r136n 18 false)
def f_M_join_136 (r0 : (Nat → VV)) (w0 : (Nat → Int64)) (s0 : Int32) (p1 : Int32) (p2 : Int32) (p3 : Int32) (p4 : Bool) (s136_0 : Int64) (c14g : Int32) (r98n : (Nat → VV)) : Int32 × (Nat → VV) × (Nat → Int64) × Int32 := f_M_join_136u r0 w0 s0 p1 p2 p3 p4 c14g (u6 r98n 18 s136_0)
def f_M_join_98u (r0 : (Nat → VV)) (w0 : (Nat → Int64)) (s0 : Int32) (p1 : Int32) (p2 : Int32) (p3 : Int32) (p4 : Bool) (c14g : Int32) (r98n : (Nat → VV)) : Int32 × (Nat → VV) × (Nat → Int64) × Int32 := (if ((r98n p3.toNatClampNeg).2.2.2.2.2.1) < ((r98n p2.toNatClampNeg).2.2.2.2.2.1) then f_M_join_136 r0 w0 s0 p1 p2 p3 p4 ((r98n p2.toNatClampNeg).2.2.2.2.2.1) c14g r98n else f_M_join_136 r0 w0 s0 p1 p2 p3 p4 ((r98n p3.toNatClampNeg).2.2.2.2.2.1) c14g r98n)
def f_M_join_98 (r0 : (Nat → VV)) (w0 : (Nat → Int64)) (s0 : Int32) (p1 : Int32) (p2 : Int32) (p3 : Int32) (p4 : Bool) (s98_0 : Int64) (c14g : Int32) (r60n : (Nat → VV)) : Int32 × (Nat → VV) × (Nat → Int64) × Int32 := f_M_join_98u r0 w0 s0 p1 p2 p3 p4 c14g (u5 r60n 18 s98_0)
def f_M_join_60u (r0 : (Nat → VV)) (w0 : (Nat → Int64)) (s0 : Int32) (p1 : Int32) (p2 : Int32) (p3 : Int32) (p4 : Bool) (c14g : Int32) (r60n : (Nat → VV)) : Int32 × (Nat → VV) × (Nat → Int64) × Int32 := (if ((r60n p2.toNatClampNeg).2.2.2.2.1) < ((r60n p3.toNatClampNeg).2.2.2.2.1) then f_M_join_98 r0 w0 s0 p1 p2 p3 p4 ((r60n p2.toNatClampNeg).2.2.2.2.1) c14g r60n else f_M_join_98 r0 w0 s0 p1 p2 p3 p4 ((r60n p3.toNatClampNeg).2.2.2.2.1) c14g r60n)
def f_M_join_38u (r0 : (Nat → VV)) (w0 : (Nat → Int64)) (s0 : Int32) (p1 : Int32) (p2 : Int32) (p3 : Int32) (p4 : Bool) (c14g : Int32) (r38n : (Nat → VV)) : Int32 × (Nat → VV) × (Nat → Int64) × Int32 := f_M_join_60u r0 w0 s0 p1 p2 p3 p4 c14g (u4 r38n 18 (f_M_larger ((r38n p2.toNatClampNeg).2.2.2.1) ((r38n p3.toNatClampNeg).2.2.2.1)))
def f_M_join_14g (r0 : (Nat → VV)) (w0 : (Nat → Int64)) (s0 : Int32) (p1 : Int32) (p2 : Int32) (p3 : Int32) (p4 : Bool) (c14g : Int32) (g14 : (Nat → VV)) : Int32 × (Nat → VV) × (Nat → Int64) × Int32 := f_M_join_38u r0 w0 s0 p1 p2 p3 p4 c14g (u3 g14 18 (f_M_lesser ((g14 p2.toNatClampNeg).2.2.1) ((g14 p3.toNatClampNeg).2.2.1)))
def f_M_join_4g (r0 : (Nat → VV)) (w0 : (Nat → Int64)) (s0 : Int32) (p1 : Int32) (p2 : Int32) (p3 : Int32) (p4 : Bool) (g4 : Bool × Int32) : Int32 × (Nat → VV) × (Nat → Int64) × Int32 := (if g4.1 = true then (g4.2, r0, w0, s0) else f_M_join_14g r0 w0 s0 p1 p2 p3 p4 g4.2 (f_M_joinBits r0 p2.toNatClampNeg p3.toNatClampNeg))
def f_M_join (r0 : (Nat → VV)) (w0 : (Nat → Int64)) (s0 : Int32) (p1 : Int32) (p2 : Int32) (p3 : Int32) (p4 : Bool) : Int32 × (Nat → VV) × (Nat → Int64) × Int32 := f_M_join_4g r0 w0 s0 p1 p2 p3 p4 (f_M_noPlace p1 p2 p3)
set_option maxRecDepth 100000 in
set_option maxHeartbeats 4000000 in
theorem c_M_join (l : Launch) (dC : Nat → ClassId) (dI : Nat → Nat → Nat) (ad : Nat → Nat) (cJ cZ : ClassId) (sz : Nat) (c0 : Int32) (r0 : (Nat → VV)) (w0 : (Nat → Int64)) (s0 : Int32) (p1 : Int32) (p2 : Int32) (p3 : Int32) (p4 : Bool) : Met l y_M_join w_M_join ({ frames := 6, cells := 0, slots := 0, locals := 183 } : Room) (va_Pc [.ref (ad 0), .int (p1), .int (p2), .int (p3), .int (bI p4)] (nP (dC, dI) (mT cJ cZ) (mW ad cJ cZ c0 r0 w0 s0) sz)) (va_Qv (fun _ : Unit => True) (mB (dC, dI) (va_A (mW ad cJ cZ c0 r0 w0 s0) sz) (mW ad cJ cZ (f_M_join r0 w0 s0 p1 p2 p3 p4).1 (f_M_join r0 w0 s0 p1 p2 p3 p4).2.1 (f_M_join r0 w0 s0 p1 p2 p3 p4).2.2.1 (f_M_join r0 w0 s0 p1 p2 p3 p4).2.2.2)) (va_A (mW ad cJ cZ c0 r0 w0 s0) sz)) 0 0 (va_A (mW ad cJ cZ c0 r0 w0 s0) sz) := by
  refine Met.ofW (cc := b_M_join) (maxL := 5) (ret := none) (by decide) rfl ?_
  intro p e s m args below meth c s₁ B hml hv
  obtain ⟨rfl, hsz, hP, hK, hD0⟩ := hv
  have hx := B.exec
  have hb := B.bytes
  have hr := B.returns
  have hts := atoms_spec (ws := w_M_join) B.pre
  have hG : ∀ w ∈ gM, w.before _ s = true := fun w h => hts w (List.mem_cons_of_mem _ h)
  have hown : s.vm.findClass R_M = some m.cls := findClass_of_methodNamed B.named
  have hlocks := B.notSynchronized
  subst hsz
  have hD := hD0.self (sz := s.heap.size)
  generalize hAe : va_A (mW ad cJ cZ c0 r0 w0 s0) s.heap.size = A at hD ⊢
  have hA : ∀ q : Nat, s.heap.size ≤ q → A q := fun q h => by rw [← hAe]; exact Or.inr h
  have hS : va_S A s.heap s.heap [] := va_S.rf
  have hl := lv_entry ([.ref (ad 0), .int (p1), .int (p2), .int (p3), .int (bI p4)]) (n := 5) (Nat.le_of_ble_eq_true rfl)
  rw [lg_entry_eq]
  generalize (lg_sl ([.ref (ad 0), .int (p1), .int (p2), .int (p3), .int (bI p4)]) ++ List.replicate (5 - (lg_sl ([.ref (ad 0), .int (p1), .int (p2), .int (p3), .int (bI p4)])).length) Slot.unset).toArray = ls at hl ⊢
  have hl : lv_has ls 5 [(0, .ref (ad 0)), (1, .int (p1)), (2, .int (p2)), (3, .int (p3)), (4, .int (bI p4))] := hl
  have K175g : ∀ (c14g : Int32) (g175 : (Nat → VV) × (Nat → Int64) × Int32) (hj : f_M_join r0 w0 s0 p1 p2 p3 p4 = f_M_join_175g r0 w0 s0 p1 p2 p3 p4 c14g g175) (hf0 : p1 = nI p1.toNatClampNeg) (hf1 : p1.toNatClampNeg < 16) (hf2 : p2 = nI p2.toNatClampNeg) (hf3 : p2.toNatClampNeg < 16) (hf4 : p3 = nI p3.toNatClampNeg) (hf5 : p3.toNatClampNeg < 16) (H : Heap) (locs : List Loc) (hP : va_P (dC, dI) classes (mW ad cJ cZ c14g g175.1 g175.2.1 g175.2.2) H) (hD : va_D A (mW ad cJ cZ c14g g175.1 g175.2.1 g175.2.2)) (hS : va_S A s.heap H locs) (ls : Array Slot) (hl : lv_has ls 5 []), W p l e (headSpec w_M_join ({ frames := 6, cells := 0, slots := 0, locals := 183 } : Room)).room s m ([.ref (ad 0), .int (p1), .int (p2), .int (p3), .int (bI p4)] : List Value).toArray below meth c H locs 0 0 (MQ below (va_Qv (fun _ : Unit => True) (mB (dC, dI) A (mW ad cJ cZ (f_M_join r0 w0 s0 p1 p2 p3 p4).1 (f_M_join r0 w0 s0 p1 p2 p3 p4).2.1 (f_M_join r0 w0 s0 p1 p2 p3 p4).2.2.1 (f_M_join r0 w0 s0 p1 p2 p3 p4).2.2.2)) A) ([.ref (ad 0), .int (p1), .int (p2), .int (p3), .int (bI p4)] : List Value).toArray s 0 0 A) (F0 m 178 ls []) := by
    intro c14g g175 hj hf0 hf1 hf2 hf3 hf4 hf5 H locs hP hD hS ls hl
    have fe : f_M_join r0 w0 s0 p1 p2 p3 p4 = (c14g, g175.1, g175.2.1, g175.2.2) := hj.trans rfl
    exact W.vret hx hb hr (fun t ht hW => ⟨⟨(), rfl, trivial, by rw [ht, fe]; exact hP, by rw [fe]; exact hD⟩, hS.F ht⟩) hS.2.2 d_M_join_178
  have K175 : ∀ (s175_0 : Int64) (c14g : Int32) (g148 : (Nat → VV)) (hj : f_M_join r0 w0 s0 p1 p2 p3 p4 = f_M_join_175 r0 w0 s0 p1 p2 p3 p4 s175_0 c14g g148) (hf0 : p1 = nI p1.toNatClampNeg) (hf1 : p1.toNatClampNeg < 16) (hf2 : p2 = nI p2.toNatClampNeg) (hf3 : p2.toNatClampNeg < 16) (hf4 : p3 = nI p3.toNatClampNeg) (hf5 : p3.toNatClampNeg < 16) (H : Heap) (locs : List Loc) (hP : va_P (dC, dI) classes (mW ad cJ cZ c14g g148 w0 s0) H) (hD : va_D A (mW ad cJ cZ c14g g148 w0 s0)) (hS : va_S A s.heap H locs) (ls : Array Slot) (hl : lv_has ls 5 []), W p l e (headSpec w_M_join ({ frames := 6, cells := 0, slots := 0, locals := 183 } : Room)).room s m ([.ref (ad 0), .int (p1), .int (p2), .int (p3), .int (bI p4)] : List Value).toArray below meth c H locs 0 0 (MQ below (va_Qv (fun _ : Unit => True) (mB (dC, dI) A (mW ad cJ cZ (f_M_join r0 w0 s0 p1 p2 p3 p4).1 (f_M_join r0 w0 s0 p1 p2 p3 p4).2.1 (f_M_join r0 w0 s0 p1 p2 p3 p4).2.2.1 (f_M_join r0 w0 s0 p1 p2 p3 p4).2.2.2)) A) ([.ref (ad 0), .int (p1), .int (p2), .int (p3), .int (bI p4)] : List Value).toArray s 0 0 A) (F0 m 175 ls [.long (s175_0), .int (18), .int (nI p1.toNatClampNeg), .ref (ad 0)]) := by
    intro s175_0 c14g g148 hj hf0 hf1 hf2 hf3 hf4 hf5 H locs hP hD hS ls hl
    refine mm_v (F := f_M_put g148 w0 s0 p1.toNatClampNeg 18 s175_0) (w1 := fun g175 => (mW ad cJ cZ c14g g175.1 g175.2.1 g175.2.2)) (va_runV (As := [.int (nI p1.toNatClampNeg), .int (18), .long (s175_0)]) (rest := []) ⟨hx, hb, hml, hown, hts⟩ (c_M_put l dC dI ad cJ cZ H.size c14g g148 w0 s0 p1.toNatClampNeg 18 s175_0 hf1 (by decide)) (cwV 3 hts (gxV gx45 gx46 gx278 gx0 gx47) rfl rfl rfl (by decide +kernel) ⟨(Nat.le_of_ble_eq_true rfl), (Nat.le_of_ble_eq_true rfl)⟩) ⟨blp, va_recv hK hP (ci := 2) (q0 := 0) rfl rfl, fun U hU hW => ⟨rfl, by rw [hU], by rw [hU]; exact hP, va_K.moved hW.alike hK, hD.weaken (fun _ _ _ _ => trivial)⟩⟩ rfl rfl hl.1 rfl (lv_room (Nat.le_of_ble_eq_true rfl)) d_M_join_175 ⟨Nat.zero_le _, Nat.zero_le _⟩) hD hS hA (fun g175 eg175 H locs hP hD hS => ?_)
    refine K175g c14g g175 (Eq.trans (hj.trans rfl) (congrArg (fun g175 => f_M_join_175g r0 w0 s0 p1 p2 p3 p4 c14g g175) eg175)) hf0 hf1 hf2 hf3 hf4 hf5 H locs ?_ ?_ hS ls (lv_sub hl [] rfl)
    · with_reducible exact hP
    · with_reducible exact hD
  have K148g : ∀ (c14g : Int32) (g148 : (Nat → VV)) (hj : f_M_join r0 w0 s0 p1 p2 p3 p4 = f_M_join_148g r0 w0 s0 p1 p2 p3 p4 c14g g148) (hf0 : p1 = nI p1.toNatClampNeg) (hf1 : p1.toNatClampNeg < 16) (hf2 : p2 = nI p2.toNatClampNeg) (hf3 : p2.toNatClampNeg < 16) (hf4 : p3 = nI p3.toNatClampNeg) (hf5 : p3.toNatClampNeg < 16) (H : Heap) (locs : List Loc) (hP : va_P (dC, dI) classes (mW ad cJ cZ c14g g148 w0 s0) H) (hD : va_D A (mW ad cJ cZ c14g g148 w0 s0)) (hS : va_S A s.heap H locs) (ls : Array Slot) (hl : lv_has ls 5 [(0, .ref (ad 0)), (1, .int (p1)), (2, .int (p2)), (3, .int (p3)), (4, .int (bI p4))]), W p l e (headSpec w_M_join ({ frames := 6, cells := 0, slots := 0, locals := 183 } : Room)).room s m ([.ref (ad 0), .int (p1), .int (p2), .int (p3), .int (bI p4)] : List Value).toArray below meth c H locs 0 0 (MQ below (va_Qv (fun _ : Unit => True) (mB (dC, dI) A (mW ad cJ cZ (f_M_join r0 w0 s0 p1 p2 p3 p4).1 (f_M_join r0 w0 s0 p1 p2 p3 p4).2.1 (f_M_join r0 w0 s0 p1 p2 p3 p4).2.2.1 (f_M_join r0 w0 s0 p1 p2 p3 p4).2.2.2)) A) ([.ref (ad 0), .int (p1), .int (p2), .int (p3), .int (bI p4)] : List Value).toArray s 0 0 A) (F0 m 151 ls []) := by
    intro c14g g148 hj hf0 hf1 hf2 hf3 hf4 hf5 H locs hP hD hS ls hl
    refine lv_aload_n hx hb d_M_join_151 rfl (lv_at hl 0 rfl) ?_
    refine lv_iload_n hx hb d_M_join_152 rfl (lv_at hl 1 rfl) ?_
    refine top_i hf0 ?_
    refine lv_bipush (v := 18) hx hb d_M_join_153 (by decide) ?_
    refine lv_iload hx hb d_M_join_155 (lv_at hl 4 rfl) ?_
    refine wz_eq (tgt := 169) hx hb d_M_join_157 (by decide) (fun e1_169 => ?_) (fun e1_169 => ?_)
    · refine lv_aload_n hx hb d_M_join_169 rfl (lv_at hl 0 rfl) ?_
      refine va_get (D := (dC, dI)) (ci := 2) (v := .ref (ad 8)) (C := R_M) (T := F_M) (N := 10) hx hb hts (fun w h => List.mem_cons_of_mem _ (uw_M w h)) hown hK hP 0 rfl rfl 8 (by decide) (hG (.fieldLink R_M 32 "ValueSieveModel" "witness" "[J") gx17) (fun _ h9 => h9) rfl d_M_join_170 ?_
      refine lv_iload_n hx hb d_M_join_173 rfl (lv_at hl 3 rfl) ?_
      refine top_i hf4 ?_
      refine ml_8 (P := p3.toNatClampNeg) hx hb hK hP rfl hf5 d_M_join_174 ?_
      refine K175 (w0 p3.toNatClampNeg) c14g g148 (hj.trans (by unfold f_M_join_148g; first | with_reducible exact if_neg e1_169 | exact if_neg e1_169)) hf0 hf1 hf2 hf3 hf4 hf5 H locs ?_ ?_ hS ls (lv_sub hl [] rfl)
      · with_reducible exact hP
      · with_reducible exact hD
    · refine lv_aload_n hx hb d_M_join_160 rfl (lv_at hl 0 rfl) ?_
      refine va_get (D := (dC, dI)) (ci := 2) (v := .ref (ad 8)) (C := R_M) (T := F_M) (N := 10) hx hb hts (fun w h => List.mem_cons_of_mem _ (uw_M w h)) hown hK hP 0 rfl rfl 8 (by decide) (hG (.fieldLink R_M 32 "ValueSieveModel" "witness" "[J") gx17) (fun _ h9 => h9) rfl d_M_join_161 ?_
      refine lv_iload_n hx hb d_M_join_164 rfl (lv_at hl 2 rfl) ?_
      refine top_i hf2 ?_
      refine ml_8 (P := p2.toNatClampNeg) hx hb hK hP rfl hf3 d_M_join_165 ?_
      refine lv_goto (tgt := 175) hx hb d_M_join_166 (by decide) ?_
      refine K175 (w0 p2.toNatClampNeg) c14g g148 (hj.trans (by unfold f_M_join_148g; first | with_reducible exact if_pos e1_169 | exact if_pos e1_169)) hf0 hf1 hf2 hf3 hf4 hf5 H locs ?_ ?_ hS ls (lv_sub hl [] rfl)
      · with_reducible exact hP
      · with_reducible exact hD
  have K144u : ∀ (c14g : Int32) (r144n : (Nat → VV)) (hj : f_M_join r0 w0 s0 p1 p2 p3 p4 = f_M_join_144u r0 w0 s0 p1 p2 p3 p4 c14g r144n) (hf0 : p1 = nI p1.toNatClampNeg) (hf1 : p1.toNatClampNeg < 16) (hf2 : p2 = nI p2.toNatClampNeg) (hf3 : p2.toNatClampNeg < 16) (hf4 : p3 = nI p3.toNatClampNeg) (hf5 : p3.toNatClampNeg < 16) (H : Heap) (locs : List Loc) (hP : va_P (dC, dI) classes (mW ad cJ cZ c14g r144n w0 s0) H) (hD : va_D A (mW ad cJ cZ c14g r144n w0 s0)) (hS : va_S A s.heap H locs) (ls : Array Slot) (hl : lv_has ls 5 [(0, .ref (ad 0)), (1, .int (p1)), (2, .int (p2)), (3, .int (p3)), (4, .int (bI p4))]), W p l e (headSpec w_M_join ({ frames := 6, cells := 0, slots := 0, locals := 183 } : Room)).room s m ([.ref (ad 0), .int (p1), .int (p2), .int (p3), .int (bI p4)] : List Value).toArray below meth c H locs 0 0 (MQ below (va_Qv (fun _ : Unit => True) (mB (dC, dI) A (mW ad cJ cZ (f_M_join r0 w0 s0 p1 p2 p3 p4).1 (f_M_join r0 w0 s0 p1 p2 p3 p4).2.1 (f_M_join r0 w0 s0 p1 p2 p3 p4).2.2.1 (f_M_join r0 w0 s0 p1 p2 p3 p4).2.2.2)) A) ([.ref (ad 0), .int (p1), .int (p2), .int (p3), .int (bI p4)] : List Value).toArray s 0 0 A) (F0 m 145 ls []) := by
    intro c14g r144n hj hf0 hf1 hf2 hf3 hf4 hf5 H locs hP hD hS ls hl
    refine lv_aload_n hx hb d_M_join_145 rfl (lv_at hl 0 rfl) ?_
    refine lv_bipush (v := 18) hx hb d_M_join_146 (by decide) ?_
    refine mm_v (F := f_M_tighten r144n 18) (w1 := fun g148 => (mW ad cJ cZ c14g g148 w0 s0)) (va_runV (As := [.int (18)]) (rest := []) ⟨hx, hb, hml, hown, hts⟩ (c_M_tighten l dC dI ad cJ cZ H.size c14g r144n w0 s0 18 (by decide)) (cwV 1 hts (gxV gx69 gx70 gx274 gx0 gx71) rfl rfl rfl (by decide +kernel) ⟨(Nat.le_of_ble_eq_true rfl), (Nat.le_of_ble_eq_true rfl)⟩) ⟨blp, va_recv hK hP (ci := 2) (q0 := 0) rfl rfl, fun U hU hW => ⟨rfl, by rw [hU], by rw [hU]; exact hP, va_K.moved hW.alike hK, hD.weaken (fun _ _ _ _ => trivial)⟩⟩ rfl rfl hl.1 rfl (lv_room (Nat.le_of_ble_eq_true rfl)) d_M_join_148 ⟨Nat.zero_le _, Nat.zero_le _⟩) hD hS hA (fun g148 eg148 H locs hP hD hS => ?_)
    refine K148g c14g g148 (Eq.trans (hj.trans rfl) (congrArg (fun g148 => f_M_join_148g r0 w0 s0 p1 p2 p3 p4 c14g g148) eg148)) hf0 hf1 hf2 hf3 hf4 hf5 H locs ?_ ?_ hS ls (lv_sub hl [0, 1, 2, 3, 4] rfl)
    · with_reducible exact hP
    · with_reducible exact hD
  have K136u : ∀ (c14g : Int32) (r136n : (Nat → VV)) (hj : f_M_join r0 w0 s0 p1 p2 p3 p4 = f_M_join_136u r0 w0 s0 p1 p2 p3 p4 c14g r136n) (hf0 : p1 = nI p1.toNatClampNeg) (hf1 : p1.toNatClampNeg < 16) (hf2 : p2 = nI p2.toNatClampNeg) (hf3 : p2.toNatClampNeg < 16) (hf4 : p3 = nI p3.toNatClampNeg) (hf5 : p3.toNatClampNeg < 16) (H : Heap) (locs : List Loc) (hP : va_P (dC, dI) classes (mW ad cJ cZ c14g r136n w0 s0) H) (hD : va_D A (mW ad cJ cZ c14g r136n w0 s0)) (hS : va_S A s.heap H locs) (ls : Array Slot) (hl : lv_has ls 5 [(0, .ref (ad 0)), (1, .int (p1)), (2, .int (p2)), (3, .int (p3)), (4, .int (bI p4))]), W p l e (headSpec w_M_join ({ frames := 6, cells := 0, slots := 0, locals := 183 } : Room)).room s m ([.ref (ad 0), .int (p1), .int (p2), .int (p3), .int (bI p4)] : List Value).toArray below meth c H locs 0 0 (MQ below (va_Qv (fun _ : Unit => True) (mB (dC, dI) A (mW ad cJ cZ (f_M_join r0 w0 s0 p1 p2 p3 p4).1 (f_M_join r0 w0 s0 p1 p2 p3 p4).2.1 (f_M_join r0 w0 s0 p1 p2 p3 p4).2.2.1 (f_M_join r0 w0 s0 p1 p2 p3 p4).2.2.2)) A) ([.ref (ad 0), .int (p1), .int (p2), .int (p3), .int (bI p4)] : List Value).toArray s 0 0 A) (F0 m 137 ls []) := by
    intro c14g r136n hj hf0 hf1 hf2 hf3 hf4 hf5 H locs hP hD hS ls hl
    refine lv_aload_n hx hb d_M_join_137 rfl (lv_at hl 0 rfl) ?_
    refine va_get (D := (dC, dI)) (ci := 2) (v := .ref (ad 7)) (C := R_M) (T := F_M) (N := 10) hx hb hts (fun w h => List.mem_cons_of_mem _ (uw_M w h)) hown hK hP 0 rfl rfl 7 (by decide) (hG (.fieldLink R_M 28 "ValueSieveModel" "empty" "[Z") gx16) (fun _ h9 => h9) rfl d_M_join_138 ?_
    refine lv_bipush (v := 18) hx hb d_M_join_141 (by decide) ?_
    refine lv_iconst (v := 0) hx hb d_M_join_143 (by decide) ?_
    refine ms_7 (P := 18) (x := false) hx hb hK hP hD hS rfl (by decide) d_M_join_144 (fun H locs hP hD hS => ?_)
    obtain ⟨r144n, er144n⟩ : ∃ z, z = u7 r136n 18 false := ⟨_, rfl⟩
    rw [← er144n] at hP hD
    refine K144u c14g r144n (Eq.trans (hj.trans rfl) (congrArg (fun r144n => f_M_join_144u r0 w0 s0 p1 p2 p3 p4 c14g r144n) er144n.symm)) hf0 hf1 hf2 hf3 hf4 hf5 H locs ?_ ?_ hS ls (lv_sub hl [0, 1, 2, 3, 4] rfl)
    · with_reducible exact hP
    · with_reducible exact hD
  have K136 : ∀ (s136_0 : Int64) (c14g : Int32) (r98n : (Nat → VV)) (hj : f_M_join r0 w0 s0 p1 p2 p3 p4 = f_M_join_136 r0 w0 s0 p1 p2 p3 p4 s136_0 c14g r98n) (hf0 : p1 = nI p1.toNatClampNeg) (hf1 : p1.toNatClampNeg < 16) (hf2 : p2 = nI p2.toNatClampNeg) (hf3 : p2.toNatClampNeg < 16) (hf4 : p3 = nI p3.toNatClampNeg) (hf5 : p3.toNatClampNeg < 16) (H : Heap) (locs : List Loc) (hP : va_P (dC, dI) classes (mW ad cJ cZ c14g r98n w0 s0) H) (hD : va_D A (mW ad cJ cZ c14g r98n w0 s0)) (hS : va_S A s.heap H locs) (ls : Array Slot) (hl : lv_has ls 5 [(0, .ref (ad 0)), (1, .int (p1)), (2, .int (p2)), (3, .int (p3)), (4, .int (bI p4))]), W p l e (headSpec w_M_join ({ frames := 6, cells := 0, slots := 0, locals := 183 } : Room)).room s m ([.ref (ad 0), .int (p1), .int (p2), .int (p3), .int (bI p4)] : List Value).toArray below meth c H locs 0 0 (MQ below (va_Qv (fun _ : Unit => True) (mB (dC, dI) A (mW ad cJ cZ (f_M_join r0 w0 s0 p1 p2 p3 p4).1 (f_M_join r0 w0 s0 p1 p2 p3 p4).2.1 (f_M_join r0 w0 s0 p1 p2 p3 p4).2.2.1 (f_M_join r0 w0 s0 p1 p2 p3 p4).2.2.2)) A) ([.ref (ad 0), .int (p1), .int (p2), .int (p3), .int (bI p4)] : List Value).toArray s 0 0 A) (F0 m 136 ls [.long (s136_0), .int (18), .ref (ad 6)]) := by
    intro s136_0 c14g r98n hj hf0 hf1 hf2 hf3 hf4 hf5 H locs hP hD hS ls hl
    refine ms_6 (P := 18) (x := s136_0) hx hb hK hP hD hS rfl (by decide) d_M_join_136 (fun H locs hP hD hS => ?_)
    obtain ⟨r136n, er136n⟩ : ∃ z, z = u6 r98n 18 s136_0 := ⟨_, rfl⟩
    rw [← er136n] at hP hD
    refine K136u c14g r136n (Eq.trans (hj.trans rfl) (congrArg (fun r136n => f_M_join_136u r0 w0 s0 p1 p2 p3 p4 c14g r136n) er136n.symm)) hf0 hf1 hf2 hf3 hf4 hf5 H locs ?_ ?_ hS ls (lv_sub hl [0, 1, 2, 3, 4] rfl)
    · with_reducible exact hP
    · with_reducible exact hD
  have K98u : ∀ (c14g : Int32) (r98n : (Nat → VV)) (hj : f_M_join r0 w0 s0 p1 p2 p3 p4 = f_M_join_98u r0 w0 s0 p1 p2 p3 p4 c14g r98n) (hf0 : p1 = nI p1.toNatClampNeg) (hf1 : p1.toNatClampNeg < 16) (hf2 : p2 = nI p2.toNatClampNeg) (hf3 : p2.toNatClampNeg < 16) (hf4 : p3 = nI p3.toNatClampNeg) (hf5 : p3.toNatClampNeg < 16) (H : Heap) (locs : List Loc) (hP : va_P (dC, dI) classes (mW ad cJ cZ c14g r98n w0 s0) H) (hD : va_D A (mW ad cJ cZ c14g r98n w0 s0)) (hS : va_S A s.heap H locs) (ls : Array Slot) (hl : lv_has ls 5 [(0, .ref (ad 0)), (1, .int (p1)), (2, .int (p2)), (3, .int (p3)), (4, .int (bI p4))]), W p l e (headSpec w_M_join ({ frames := 6, cells := 0, slots := 0, locals := 183 } : Room)).room s m ([.ref (ad 0), .int (p1), .int (p2), .int (p3), .int (bI p4)] : List Value).toArray below meth c H locs 0 0 (MQ below (va_Qv (fun _ : Unit => True) (mB (dC, dI) A (mW ad cJ cZ (f_M_join r0 w0 s0 p1 p2 p3 p4).1 (f_M_join r0 w0 s0 p1 p2 p3 p4).2.1 (f_M_join r0 w0 s0 p1 p2 p3 p4).2.2.1 (f_M_join r0 w0 s0 p1 p2 p3 p4).2.2.2)) A) ([.ref (ad 0), .int (p1), .int (p2), .int (p3), .int (bI p4)] : List Value).toArray s 0 0 A) (F0 m 99 ls []) := by
    intro c14g r98n hj hf0 hf1 hf2 hf3 hf4 hf5 H locs hP hD hS ls hl
    refine lv_aload_n hx hb d_M_join_99 rfl (lv_at hl 0 rfl) ?_
    refine va_get (D := (dC, dI)) (ci := 2) (v := .ref (ad 6)) (C := R_M) (T := F_M) (N := 10) hx hb hts (fun w h => List.mem_cons_of_mem _ (uw_M w h)) hown hK hP 0 rfl rfl 6 (by decide) (hG (.fieldLink R_M 25 "ValueSieveModel" "greatest" "[J") gx15) (fun _ h9 => h9) rfl d_M_join_100 ?_
    refine lv_bipush (v := 18) hx hb d_M_join_103 (by decide) ?_
    refine lv_aload_n hx hb d_M_join_105 rfl (lv_at hl 0 rfl) ?_
    refine va_get (D := (dC, dI)) (ci := 2) (v := .ref (ad 6)) (C := R_M) (T := F_M) (N := 10) hx hb hts (fun w h => List.mem_cons_of_mem _ (uw_M w h)) hown hK hP 0 rfl rfl 6 (by decide) (hG (.fieldLink R_M 25 "ValueSieveModel" "greatest" "[J") gx15) (fun _ h9 => h9) rfl d_M_join_106 ?_
    refine lv_iload_n hx hb d_M_join_109 rfl (lv_at hl 2 rfl) ?_
    refine top_i hf2 ?_
    refine ml_6 (P := p2.toNatClampNeg) hx hb hK hP rfl (Nat.lt_of_lt_of_le hf3 (by decide)) d_M_join_110 ?_
    refine lv_aload_n hx hb d_M_join_111 rfl (lv_at hl 0 rfl) ?_
    refine va_get (D := (dC, dI)) (ci := 2) (v := .ref (ad 6)) (C := R_M) (T := F_M) (N := 10) hx hb hts (fun w h => List.mem_cons_of_mem _ (uw_M w h)) hown hK hP 0 rfl rfl 6 (by decide) (hG (.fieldLink R_M 25 "ValueSieveModel" "greatest" "[J") gx15) (fun _ h9 => h9) rfl d_M_join_112 ?_
    refine lv_iload_n hx hb d_M_join_115 rfl (lv_at hl 3 rfl) ?_
    refine top_i hf4 ?_
    refine ml_6 (P := p3.toNatClampNeg) hx hb hK hP rfl (Nat.lt_of_lt_of_le hf5 (by decide)) d_M_join_116 ?_
    refine wl_le (tgt := 130) hx hb d_M_join_117 d_M_join_118 (by decide) (fun e1_130 => ?_) (fun e1_130 => ?_)
    · refine lv_aload_n hx hb d_M_join_130 rfl (lv_at hl 0 rfl) ?_
      refine va_get (D := (dC, dI)) (ci := 2) (v := .ref (ad 6)) (C := R_M) (T := F_M) (N := 10) hx hb hts (fun w h => List.mem_cons_of_mem _ (uw_M w h)) hown hK hP 0 rfl rfl 6 (by decide) (hG (.fieldLink R_M 25 "ValueSieveModel" "greatest" "[J") gx15) (fun _ h9 => h9) rfl d_M_join_131 ?_
      refine lv_iload_n hx hb d_M_join_134 rfl (lv_at hl 3 rfl) ?_
      refine top_i hf4 ?_
      refine ml_6 (P := p3.toNatClampNeg) hx hb hK hP rfl (Nat.lt_of_lt_of_le hf5 (by decide)) d_M_join_135 ?_
      refine K136 ((r98n p3.toNatClampNeg).2.2.2.2.2.1) c14g r98n (hj.trans (by unfold f_M_join_98u; first | with_reducible exact if_neg e1_130 | exact if_neg e1_130)) hf0 hf1 hf2 hf3 hf4 hf5 H locs ?_ ?_ hS ls (lv_sub hl [0, 1, 2, 3, 4] rfl)
      · with_reducible exact hP
      · with_reducible exact hD
    · refine lv_aload_n hx hb d_M_join_121 rfl (lv_at hl 0 rfl) ?_
      refine va_get (D := (dC, dI)) (ci := 2) (v := .ref (ad 6)) (C := R_M) (T := F_M) (N := 10) hx hb hts (fun w h => List.mem_cons_of_mem _ (uw_M w h)) hown hK hP 0 rfl rfl 6 (by decide) (hG (.fieldLink R_M 25 "ValueSieveModel" "greatest" "[J") gx15) (fun _ h9 => h9) rfl d_M_join_122 ?_
      refine lv_iload_n hx hb d_M_join_125 rfl (lv_at hl 2 rfl) ?_
      refine top_i hf2 ?_
      refine ml_6 (P := p2.toNatClampNeg) hx hb hK hP rfl (Nat.lt_of_lt_of_le hf3 (by decide)) d_M_join_126 ?_
      refine lv_goto (tgt := 136) hx hb d_M_join_127 (by decide) ?_
      refine K136 ((r98n p2.toNatClampNeg).2.2.2.2.2.1) c14g r98n (hj.trans (by unfold f_M_join_98u; first | with_reducible exact if_pos e1_130 | exact if_pos e1_130)) hf0 hf1 hf2 hf3 hf4 hf5 H locs ?_ ?_ hS ls (lv_sub hl [0, 1, 2, 3, 4] rfl)
      · with_reducible exact hP
      · with_reducible exact hD
  have K98 : ∀ (s98_0 : Int64) (c14g : Int32) (r60n : (Nat → VV)) (hj : f_M_join r0 w0 s0 p1 p2 p3 p4 = f_M_join_98 r0 w0 s0 p1 p2 p3 p4 s98_0 c14g r60n) (hf0 : p1 = nI p1.toNatClampNeg) (hf1 : p1.toNatClampNeg < 16) (hf2 : p2 = nI p2.toNatClampNeg) (hf3 : p2.toNatClampNeg < 16) (hf4 : p3 = nI p3.toNatClampNeg) (hf5 : p3.toNatClampNeg < 16) (H : Heap) (locs : List Loc) (hP : va_P (dC, dI) classes (mW ad cJ cZ c14g r60n w0 s0) H) (hD : va_D A (mW ad cJ cZ c14g r60n w0 s0)) (hS : va_S A s.heap H locs) (ls : Array Slot) (hl : lv_has ls 5 [(0, .ref (ad 0)), (1, .int (p1)), (2, .int (p2)), (3, .int (p3)), (4, .int (bI p4))]), W p l e (headSpec w_M_join ({ frames := 6, cells := 0, slots := 0, locals := 183 } : Room)).room s m ([.ref (ad 0), .int (p1), .int (p2), .int (p3), .int (bI p4)] : List Value).toArray below meth c H locs 0 0 (MQ below (va_Qv (fun _ : Unit => True) (mB (dC, dI) A (mW ad cJ cZ (f_M_join r0 w0 s0 p1 p2 p3 p4).1 (f_M_join r0 w0 s0 p1 p2 p3 p4).2.1 (f_M_join r0 w0 s0 p1 p2 p3 p4).2.2.1 (f_M_join r0 w0 s0 p1 p2 p3 p4).2.2.2)) A) ([.ref (ad 0), .int (p1), .int (p2), .int (p3), .int (bI p4)] : List Value).toArray s 0 0 A) (F0 m 98 ls [.long (s98_0), .int (18), .ref (ad 5)]) := by
    intro s98_0 c14g r60n hj hf0 hf1 hf2 hf3 hf4 hf5 H locs hP hD hS ls hl
    refine ms_5 (P := 18) (x := s98_0) hx hb hK hP hD hS rfl (by decide) d_M_join_98 (fun H locs hP hD hS => ?_)
    obtain ⟨r98n, er98n⟩ : ∃ z, z = u5 r60n 18 s98_0 := ⟨_, rfl⟩
    rw [← er98n] at hP hD
    refine K98u c14g r98n (Eq.trans (hj.trans rfl) (congrArg (fun r98n => f_M_join_98u r0 w0 s0 p1 p2 p3 p4 c14g r98n) er98n.symm)) hf0 hf1 hf2 hf3 hf4 hf5 H locs ?_ ?_ hS ls (lv_sub hl [0, 1, 2, 3, 4] rfl)
    · with_reducible exact hP
    · with_reducible exact hD
  have K60u : ∀ (c14g : Int32) (r60n : (Nat → VV)) (hj : f_M_join r0 w0 s0 p1 p2 p3 p4 = f_M_join_60u r0 w0 s0 p1 p2 p3 p4 c14g r60n) (hf0 : p1 = nI p1.toNatClampNeg) (hf1 : p1.toNatClampNeg < 16) (hf2 : p2 = nI p2.toNatClampNeg) (hf3 : p2.toNatClampNeg < 16) (hf4 : p3 = nI p3.toNatClampNeg) (hf5 : p3.toNatClampNeg < 16) (H : Heap) (locs : List Loc) (hP : va_P (dC, dI) classes (mW ad cJ cZ c14g r60n w0 s0) H) (hD : va_D A (mW ad cJ cZ c14g r60n w0 s0)) (hS : va_S A s.heap H locs) (ls : Array Slot) (hl : lv_has ls 5 [(0, .ref (ad 0)), (1, .int (p1)), (2, .int (p2)), (3, .int (p3)), (4, .int (bI p4))]), W p l e (headSpec w_M_join ({ frames := 6, cells := 0, slots := 0, locals := 183 } : Room)).room s m ([.ref (ad 0), .int (p1), .int (p2), .int (p3), .int (bI p4)] : List Value).toArray below meth c H locs 0 0 (MQ below (va_Qv (fun _ : Unit => True) (mB (dC, dI) A (mW ad cJ cZ (f_M_join r0 w0 s0 p1 p2 p3 p4).1 (f_M_join r0 w0 s0 p1 p2 p3 p4).2.1 (f_M_join r0 w0 s0 p1 p2 p3 p4).2.2.1 (f_M_join r0 w0 s0 p1 p2 p3 p4).2.2.2)) A) ([.ref (ad 0), .int (p1), .int (p2), .int (p3), .int (bI p4)] : List Value).toArray s 0 0 A) (F0 m 61 ls []) := by
    intro c14g r60n hj hf0 hf1 hf2 hf3 hf4 hf5 H locs hP hD hS ls hl
    refine lv_aload_n hx hb d_M_join_61 rfl (lv_at hl 0 rfl) ?_
    refine va_get (D := (dC, dI)) (ci := 2) (v := .ref (ad 5)) (C := R_M) (T := F_M) (N := 10) hx hb hts (fun w h => List.mem_cons_of_mem _ (uw_M w h)) hown hK hP 0 rfl rfl 5 (by decide) (hG (.fieldLink R_M 22 "ValueSieveModel" "least" "[J") gx14) (fun _ h9 => h9) rfl d_M_join_62 ?_
    refine lv_bipush (v := 18) hx hb d_M_join_65 (by decide) ?_
    refine lv_aload_n hx hb d_M_join_67 rfl (lv_at hl 0 rfl) ?_
    refine va_get (D := (dC, dI)) (ci := 2) (v := .ref (ad 5)) (C := R_M) (T := F_M) (N := 10) hx hb hts (fun w h => List.mem_cons_of_mem _ (uw_M w h)) hown hK hP 0 rfl rfl 5 (by decide) (hG (.fieldLink R_M 22 "ValueSieveModel" "least" "[J") gx14) (fun _ h9 => h9) rfl d_M_join_68 ?_
    refine lv_iload_n hx hb d_M_join_71 rfl (lv_at hl 2 rfl) ?_
    refine top_i hf2 ?_
    refine ml_5 (P := p2.toNatClampNeg) hx hb hK hP rfl (Nat.lt_of_lt_of_le hf3 (by decide)) d_M_join_72 ?_
    refine lv_aload_n hx hb d_M_join_73 rfl (lv_at hl 0 rfl) ?_
    refine va_get (D := (dC, dI)) (ci := 2) (v := .ref (ad 5)) (C := R_M) (T := F_M) (N := 10) hx hb hts (fun w h => List.mem_cons_of_mem _ (uw_M w h)) hown hK hP 0 rfl rfl 5 (by decide) (hG (.fieldLink R_M 22 "ValueSieveModel" "least" "[J") gx14) (fun _ h9 => h9) rfl d_M_join_74 ?_
    refine lv_iload_n hx hb d_M_join_77 rfl (lv_at hl 3 rfl) ?_
    refine top_i hf4 ?_
    refine ml_5 (P := p3.toNatClampNeg) hx hb hK hP rfl (Nat.lt_of_lt_of_le hf5 (by decide)) d_M_join_78 ?_
    refine wl_ge (tgt := 92) hx hb d_M_join_79 d_M_join_80 (by decide) (fun e1_92 => ?_) (fun e1_92 => ?_)
    · refine lv_aload_n hx hb d_M_join_92 rfl (lv_at hl 0 rfl) ?_
      refine va_get (D := (dC, dI)) (ci := 2) (v := .ref (ad 5)) (C := R_M) (T := F_M) (N := 10) hx hb hts (fun w h => List.mem_cons_of_mem _ (uw_M w h)) hown hK hP 0 rfl rfl 5 (by decide) (hG (.fieldLink R_M 22 "ValueSieveModel" "least" "[J") gx14) (fun _ h9 => h9) rfl d_M_join_93 ?_
      refine lv_iload_n hx hb d_M_join_96 rfl (lv_at hl 3 rfl) ?_
      refine top_i hf4 ?_
      refine ml_5 (P := p3.toNatClampNeg) hx hb hK hP rfl (Nat.lt_of_lt_of_le hf5 (by decide)) d_M_join_97 ?_
      refine K98 ((r60n p3.toNatClampNeg).2.2.2.2.1) c14g r60n (hj.trans (by unfold f_M_join_60u; first | with_reducible exact if_neg e1_92 | exact if_neg e1_92)) hf0 hf1 hf2 hf3 hf4 hf5 H locs ?_ ?_ hS ls (lv_sub hl [0, 1, 2, 3, 4] rfl)
      · with_reducible exact hP
      · with_reducible exact hD
    · refine lv_aload_n hx hb d_M_join_83 rfl (lv_at hl 0 rfl) ?_
      refine va_get (D := (dC, dI)) (ci := 2) (v := .ref (ad 5)) (C := R_M) (T := F_M) (N := 10) hx hb hts (fun w h => List.mem_cons_of_mem _ (uw_M w h)) hown hK hP 0 rfl rfl 5 (by decide) (hG (.fieldLink R_M 22 "ValueSieveModel" "least" "[J") gx14) (fun _ h9 => h9) rfl d_M_join_84 ?_
      refine lv_iload_n hx hb d_M_join_87 rfl (lv_at hl 2 rfl) ?_
      refine top_i hf2 ?_
      refine ml_5 (P := p2.toNatClampNeg) hx hb hK hP rfl (Nat.lt_of_lt_of_le hf3 (by decide)) d_M_join_88 ?_
      refine lv_goto (tgt := 98) hx hb d_M_join_89 (by decide) ?_
      refine K98 ((r60n p2.toNatClampNeg).2.2.2.2.1) c14g r60n (hj.trans (by unfold f_M_join_60u; first | with_reducible exact if_pos e1_92 | exact if_pos e1_92)) hf0 hf1 hf2 hf3 hf4 hf5 H locs ?_ ?_ hS ls (lv_sub hl [0, 1, 2, 3, 4] rfl)
      · with_reducible exact hP
      · with_reducible exact hD
  have K38u : ∀ (c14g : Int32) (r38n : (Nat → VV)) (hj : f_M_join r0 w0 s0 p1 p2 p3 p4 = f_M_join_38u r0 w0 s0 p1 p2 p3 p4 c14g r38n) (hf0 : p1 = nI p1.toNatClampNeg) (hf1 : p1.toNatClampNeg < 16) (hf2 : p2 = nI p2.toNatClampNeg) (hf3 : p2.toNatClampNeg < 16) (hf4 : p3 = nI p3.toNatClampNeg) (hf5 : p3.toNatClampNeg < 16) (H : Heap) (locs : List Loc) (hP : va_P (dC, dI) classes (mW ad cJ cZ c14g r38n w0 s0) H) (hD : va_D A (mW ad cJ cZ c14g r38n w0 s0)) (hS : va_S A s.heap H locs) (ls : Array Slot) (hl : lv_has ls 5 [(0, .ref (ad 0)), (1, .int (p1)), (2, .int (p2)), (3, .int (p3)), (4, .int (bI p4))]), W p l e (headSpec w_M_join ({ frames := 6, cells := 0, slots := 0, locals := 183 } : Room)).room s m ([.ref (ad 0), .int (p1), .int (p2), .int (p3), .int (bI p4)] : List Value).toArray below meth c H locs 0 0 (MQ below (va_Qv (fun _ : Unit => True) (mB (dC, dI) A (mW ad cJ cZ (f_M_join r0 w0 s0 p1 p2 p3 p4).1 (f_M_join r0 w0 s0 p1 p2 p3 p4).2.1 (f_M_join r0 w0 s0 p1 p2 p3 p4).2.2.1 (f_M_join r0 w0 s0 p1 p2 p3 p4).2.2.2)) A) ([.ref (ad 0), .int (p1), .int (p2), .int (p3), .int (bI p4)] : List Value).toArray s 0 0 A) (F0 m 39 ls []) := by
    intro c14g r38n hj hf0 hf1 hf2 hf3 hf4 hf5 H locs hP hD hS ls hl
    refine lv_aload_n hx hb d_M_join_39 rfl (lv_at hl 0 rfl) ?_
    refine va_get (D := (dC, dI)) (ci := 2) (v := .ref (ad 4)) (C := R_M) (T := F_M) (N := 10) hx hb hts (fun w h => List.mem_cons_of_mem _ (uw_M w h)) hown hK hP 0 rfl rfl 4 (by decide) (hG (.fieldLink R_M 19 "ValueSieveModel" "high" "[J") gx13) (fun _ h9 => h9) rfl d_M_join_40 ?_
    refine lv_bipush (v := 18) hx hb d_M_join_43 (by decide) ?_
    refine lv_aload_n hx hb d_M_join_45 rfl (lv_at hl 0 rfl) ?_
    refine va_get (D := (dC, dI)) (ci := 2) (v := .ref (ad 4)) (C := R_M) (T := F_M) (N := 10) hx hb hts (fun w h => List.mem_cons_of_mem _ (uw_M w h)) hown hK hP 0 rfl rfl 4 (by decide) (hG (.fieldLink R_M 19 "ValueSieveModel" "high" "[J") gx13) (fun _ h9 => h9) rfl d_M_join_46 ?_
    refine lv_iload_n hx hb d_M_join_49 rfl (lv_at hl 2 rfl) ?_
    refine top_i hf2 ?_
    refine ml_4 (P := p2.toNatClampNeg) hx hb hK hP rfl (Nat.lt_of_lt_of_le hf3 (by decide)) d_M_join_50 ?_
    refine lv_aload_n hx hb d_M_join_51 rfl (lv_at hl 0 rfl) ?_
    refine va_get (D := (dC, dI)) (ci := 2) (v := .ref (ad 4)) (C := R_M) (T := F_M) (N := 10) hx hb hts (fun w h => List.mem_cons_of_mem _ (uw_M w h)) hown hK hP 0 rfl rfl 4 (by decide) (hG (.fieldLink R_M 19 "ValueSieveModel" "high" "[J") gx13) (fun _ h9 => h9) rfl d_M_join_52 ?_
    refine lv_iload_n hx hb d_M_join_55 rfl (lv_at hl 3 rfl) ?_
    refine top_i hf4 ?_
    refine ml_4 (P := p3.toNatClampNeg) hx hb hK hP rfl (Nat.lt_of_lt_of_le hf5 (by decide)) d_M_join_56 ?_
    refine rc_l (W.runS (As := [.long ((r38n p2.toNatClampNeg).2.2.2.1), .long ((r38n p3.toNatClampNeg).2.2.2.1)]) (rest := [.int (18), .ref (ad 4)]) ⟨hx, hb, hml, hown, hts⟩ (c_M_larger l ((r38n p2.toNatClampNeg).2.2.2.1) ((r38n p3.toNatClampNeg).2.2.2.1)) (va_cwS 2 hts (gxS gx81 gx82 gx0 gx83) rfl rfl rfl (by decide +kernel) ⟨(Nat.le_of_ble_eq_true rfl), (Nat.le_of_ble_eq_true rfl)⟩) ⟨bl0, fun U hU hW => ⟨rfl, trivial⟩⟩ rfl rfl hl.1 rfl (lv_room (Nat.le_of_ble_eq_true rfl)) d_M_join_57 ⟨Nat.zero_le _, Nat.zero_le _⟩) ?_
    refine ms_4 (P := 18) (x := f_M_larger ((r38n p2.toNatClampNeg).2.2.2.1) ((r38n p3.toNatClampNeg).2.2.2.1)) hx hb hK hP hD hS rfl (by decide) d_M_join_60 (fun H locs hP hD hS => ?_)
    obtain ⟨r60n, er60n⟩ : ∃ z, z = u4 r38n 18 (f_M_larger ((r38n p2.toNatClampNeg).2.2.2.1) ((r38n p3.toNatClampNeg).2.2.2.1)) := ⟨_, rfl⟩
    rw [← er60n] at hP hD
    refine K60u c14g r60n (Eq.trans (hj.trans rfl) (congrArg (fun r60n => f_M_join_60u r0 w0 s0 p1 p2 p3 p4 c14g r60n) er60n.symm)) hf0 hf1 hf2 hf3 hf4 hf5 H locs ?_ ?_ hS ls (lv_sub hl [0, 1, 2, 3, 4] rfl)
    · with_reducible exact hP
    · with_reducible exact hD
  have K14g : ∀ (c14g : Int32) (g14 : (Nat → VV)) (hj : f_M_join r0 w0 s0 p1 p2 p3 p4 = f_M_join_14g r0 w0 s0 p1 p2 p3 p4 c14g g14) (hf0 : p1 = nI p1.toNatClampNeg) (hf1 : p1.toNatClampNeg < 16) (hf2 : p2 = nI p2.toNatClampNeg) (hf3 : p2.toNatClampNeg < 16) (hf4 : p3 = nI p3.toNatClampNeg) (hf5 : p3.toNatClampNeg < 16) (H : Heap) (locs : List Loc) (hP : va_P (dC, dI) classes (mW ad cJ cZ c14g g14 w0 s0) H) (hD : va_D A (mW ad cJ cZ c14g g14 w0 s0)) (hS : va_S A s.heap H locs) (ls : Array Slot) (hl : lv_has ls 5 [(0, .ref (ad 0)), (1, .int (p1)), (2, .int (p2)), (3, .int (p3)), (4, .int (bI p4))]), W p l e (headSpec w_M_join ({ frames := 6, cells := 0, slots := 0, locals := 183 } : Room)).room s m ([.ref (ad 0), .int (p1), .int (p2), .int (p3), .int (bI p4)] : List Value).toArray below meth c H locs 0 0 (MQ below (va_Qv (fun _ : Unit => True) (mB (dC, dI) A (mW ad cJ cZ (f_M_join r0 w0 s0 p1 p2 p3 p4).1 (f_M_join r0 w0 s0 p1 p2 p3 p4).2.1 (f_M_join r0 w0 s0 p1 p2 p3 p4).2.2.1 (f_M_join r0 w0 s0 p1 p2 p3 p4).2.2.2)) A) ([.ref (ad 0), .int (p1), .int (p2), .int (p3), .int (bI p4)] : List Value).toArray s 0 0 A) (F0 m 17 ls []) := by
    intro c14g g14 hj hf0 hf1 hf2 hf3 hf4 hf5 H locs hP hD hS ls hl
    refine lv_aload_n hx hb d_M_join_17 rfl (lv_at hl 0 rfl) ?_
    refine va_get (D := (dC, dI)) (ci := 2) (v := .ref (ad 3)) (C := R_M) (T := F_M) (N := 10) hx hb hts (fun w h => List.mem_cons_of_mem _ (uw_M w h)) hown hK hP 0 rfl rfl 3 (by decide) (hG (.fieldLink R_M 16 "ValueSieveModel" "low" "[J") gx12) (fun _ h9 => h9) rfl d_M_join_18 ?_
    refine lv_bipush (v := 18) hx hb d_M_join_21 (by decide) ?_
    refine lv_aload_n hx hb d_M_join_23 rfl (lv_at hl 0 rfl) ?_
    refine va_get (D := (dC, dI)) (ci := 2) (v := .ref (ad 3)) (C := R_M) (T := F_M) (N := 10) hx hb hts (fun w h => List.mem_cons_of_mem _ (uw_M w h)) hown hK hP 0 rfl rfl 3 (by decide) (hG (.fieldLink R_M 16 "ValueSieveModel" "low" "[J") gx12) (fun _ h9 => h9) rfl d_M_join_24 ?_
    refine lv_iload_n hx hb d_M_join_27 rfl (lv_at hl 2 rfl) ?_
    refine top_i hf2 ?_
    refine ml_3 (P := p2.toNatClampNeg) hx hb hK hP rfl (Nat.lt_of_lt_of_le hf3 (by decide)) d_M_join_28 ?_
    refine lv_aload_n hx hb d_M_join_29 rfl (lv_at hl 0 rfl) ?_
    refine va_get (D := (dC, dI)) (ci := 2) (v := .ref (ad 3)) (C := R_M) (T := F_M) (N := 10) hx hb hts (fun w h => List.mem_cons_of_mem _ (uw_M w h)) hown hK hP 0 rfl rfl 3 (by decide) (hG (.fieldLink R_M 16 "ValueSieveModel" "low" "[J") gx12) (fun _ h9 => h9) rfl d_M_join_30 ?_
    refine lv_iload_n hx hb d_M_join_33 rfl (lv_at hl 3 rfl) ?_
    refine top_i hf4 ?_
    refine ml_3 (P := p3.toNatClampNeg) hx hb hK hP rfl (Nat.lt_of_lt_of_le hf5 (by decide)) d_M_join_34 ?_
    refine rc_l (W.runS (As := [.long ((g14 p2.toNatClampNeg).2.2.1), .long ((g14 p3.toNatClampNeg).2.2.1)]) (rest := [.int (18), .ref (ad 3)]) ⟨hx, hb, hml, hown, hts⟩ (c_M_lesser l ((g14 p2.toNatClampNeg).2.2.1) ((g14 p3.toNatClampNeg).2.2.1)) (va_cwS 2 hts (gxS gx84 gx85 gx0 gx86) rfl rfl rfl (by decide +kernel) ⟨(Nat.le_of_ble_eq_true rfl), (Nat.le_of_ble_eq_true rfl)⟩) ⟨bl0, fun U hU hW => ⟨rfl, trivial⟩⟩ rfl rfl hl.1 rfl (lv_room (Nat.le_of_ble_eq_true rfl)) d_M_join_35 ⟨Nat.zero_le _, Nat.zero_le _⟩) ?_
    refine ms_3 (P := 18) (x := f_M_lesser ((g14 p2.toNatClampNeg).2.2.1) ((g14 p3.toNatClampNeg).2.2.1)) hx hb hK hP hD hS rfl (by decide) d_M_join_38 (fun H locs hP hD hS => ?_)
    obtain ⟨r38n, er38n⟩ : ∃ z, z = u3 g14 18 (f_M_lesser ((g14 p2.toNatClampNeg).2.2.1) ((g14 p3.toNatClampNeg).2.2.1)) := ⟨_, rfl⟩
    rw [← er38n] at hP hD
    refine K38u c14g r38n (Eq.trans (hj.trans rfl) (congrArg (fun r38n => f_M_join_38u r0 w0 s0 p1 p2 p3 p4 c14g r38n) er38n.symm)) hf0 hf1 hf2 hf3 hf4 hf5 H locs ?_ ?_ hS ls (lv_sub hl [0, 1, 2, 3, 4] rfl)
    · with_reducible exact hP
    · with_reducible exact hD
  have K4g : ∀ (g4 : Bool × Int32) (hj : f_M_join r0 w0 s0 p1 p2 p3 p4 = f_M_join_4g r0 w0 s0 p1 p2 p3 p4 g4) (hf0 : npF g4.1 p1 p2 p3) (H : Heap) (locs : List Loc) (hP : va_P (dC, dI) classes (mW ad cJ cZ g4.2 r0 w0 s0) H) (hD : va_D A (mW ad cJ cZ g4.2 r0 w0 s0)) (hS : va_S A s.heap H locs) (ls : Array Slot) (hl : lv_has ls 5 [(0, .ref (ad 0)), (1, .int (p1)), (2, .int (p2)), (3, .int (p3)), (4, .int (bI p4))]), W p l e (headSpec w_M_join ({ frames := 6, cells := 0, slots := 0, locals := 183 } : Room)).room s m ([.ref (ad 0), .int (p1), .int (p2), .int (p3), .int (bI p4)] : List Value).toArray below meth c H locs 0 0 (MQ below (va_Qv (fun _ : Unit => True) (mB (dC, dI) A (mW ad cJ cZ (f_M_join r0 w0 s0 p1 p2 p3 p4).1 (f_M_join r0 w0 s0 p1 p2 p3 p4).2.1 (f_M_join r0 w0 s0 p1 p2 p3 p4).2.2.1 (f_M_join r0 w0 s0 p1 p2 p3 p4).2.2.2)) A) ([.ref (ad 0), .int (p1), .int (p2), .int (p3), .int (bI p4)] : List Value).toArray s 0 0 A) (F0 m 7 ls [.int (bI g4.1)]) := by
    intro g4 hj hf0 H locs hP hD hS ls hl
    refine wz_eq (tgt := 11) hx hb d_M_join_7 (by decide) (fun e1_11 => ?_) (fun e1_11 => ?_)
    · obtain ⟨⟨i1, j1⟩, ⟨i2, j2⟩, ⟨i3, j3⟩⟩ := npF_of hf0 e1_11
      refine lv_aload_n hx hb d_M_join_11 rfl (lv_at hl 0 rfl) ?_
      refine lv_iload_n hx hb d_M_join_12 rfl (lv_at hl 2 rfl) ?_
      refine top_i i2 ?_
      refine lv_iload_n hx hb d_M_join_13 rfl (lv_at hl 3 rfl) ?_
      refine top_i i3 ?_
      refine mm_v (F := f_M_joinBits r0 p2.toNatClampNeg p3.toNatClampNeg) (w1 := fun g14 => (mW ad cJ cZ g4.2 g14 w0 s0)) (va_runV (As := [.int (nI p2.toNatClampNeg), .int (nI p3.toNatClampNeg)]) (rest := []) ⟨hx, hb, hml, hown, hts⟩ (c_M_joinBits l dC dI ad cJ cZ H.size g4.2 r0 w0 s0 p2.toNatClampNeg p3.toNatClampNeg (Nat.lt_of_lt_of_le j2 (by decide)) (Nat.lt_of_lt_of_le j3 (by decide))) (cwV 2 hts (gxV gx201 gx202 gx298 gx0 gx203) rfl rfl rfl (by decide +kernel) ⟨(Nat.le_of_ble_eq_true rfl), (Nat.le_of_ble_eq_true rfl)⟩) ⟨blp, va_recv hK hP (ci := 2) (q0 := 0) rfl rfl, fun U hU hW => ⟨rfl, by rw [hU], by rw [hU]; exact hP, va_K.moved hW.alike hK, hD.weaken (fun _ _ _ _ => trivial)⟩⟩ rfl rfl hl.1 rfl (lv_room (Nat.le_of_ble_eq_true rfl)) d_M_join_14 ⟨Nat.zero_le _, Nat.zero_le _⟩) hD hS hA (fun g14 eg14 H locs hP hD hS => ?_)
      refine K14g g4.2 g14 (Eq.trans (hj.trans (by unfold f_M_join_4g; first | with_reducible exact if_neg e1_11 | exact if_neg e1_11)) (congrArg (fun g14 => f_M_join_14g r0 w0 s0 p1 p2 p3 p4 g4.2 g14) eg14)) i1 j1 i2 j2 i3 j3 H locs ?_ ?_ hS ls (lv_sub hl [0, 1, 2, 3, 4] rfl)
      · with_reducible exact hP
      · with_reducible exact hD
    · have fe : f_M_join r0 w0 s0 p1 p2 p3 p4 = (g4.2, r0, w0, s0) := hj.trans (by unfold f_M_join_4g; first | with_reducible exact if_pos e1_11 | exact if_pos e1_11)
      exact W.vret hx hb hr (fun t ht hW => ⟨⟨(), rfl, trivial, by rw [ht, fe]; exact hP, by rw [fe]; exact hD⟩, hS.F ht⟩) hS.2.2 d_M_join_10
  refine lv_aload_n hx hb d_M_join_0 rfl (lv_at hl 0 rfl) ?_
  refine lv_iload_n hx hb d_M_join_1 rfl (lv_at hl 1 rfl) ?_
  refine lv_iload_n hx hb d_M_join_2 rfl (lv_at hl 2 rfl) ?_
  refine lv_iload_n hx hb d_M_join_3 rfl (lv_at hl 3 rfl) ?_
  refine mm_z (F := f_M_noPlace p1 p2 p3) (w1 := fun g4 => (mW ad cJ cZ g4.2 r0 w0 s0)) (va_runV (As := [.int (p1), .int (p2), .int (p3)]) (rest := []) ⟨hx, hb, hml, hown, hts⟩ (c_M_noPlace l dC dI ad cJ cZ s.heap.size c0 r0 w0 s0 p1 p2 p3) (cwV 3 hts (gxV gx36 gx37 gx276 gx0 gx38) rfl rfl rfl (by decide +kernel) ⟨(Nat.le_of_ble_eq_true rfl), (Nat.le_of_ble_eq_true rfl)⟩) ⟨blp, va_recv hK hP (ci := 2) (q0 := 0) rfl rfl, fun U hU hW => ⟨rfl, by rw [hU], by rw [hU]; exact hP, va_K.moved hW.alike hK, hD.weaken (fun _ _ _ _ => trivial)⟩⟩ rfl rfl hl.1 rfl (lv_room (Nat.le_of_ble_eq_true rfl)) d_M_join_4 ⟨Nat.zero_le _, Nat.zero_le _⟩) hD hS hA (fun g4 eg4 H locs hP hD hS => ?_)
  have hpg4 := np_ok eg4
  refine K4g g4 (Eq.trans (rfl) (congrArg (fun g4 => f_M_join_4g r0 w0 s0 p1 p2 p3 p4 g4) eg4)) hpg4 H locs ?_ ?_ hS ls (lv_sub hl [0, 1, 2, 3, 4] rfl)
  · with_reducible exact hP
  · with_reducible exact hD
-- widen
theorem d_M_widen_0 : decode b_M_widen 0 = .ok (.aload_n 0, 1) := by decide +kernel
theorem d_M_widen_1 : decode b_M_widen 1 = .ok (.iload_n 1, 1) := by decide +kernel
theorem d_M_widen_2 : decode b_M_widen 2 = .ok (.iload_n 2, 1) := by decide +kernel
theorem d_M_widen_3 : decode b_M_widen 3 = .ok (.iload_n 3, 1) := by decide +kernel
theorem d_M_widen_4 : decode b_M_widen 4 = .ok (.invokevirtual 98, 3) := by decide +kernel
theorem d_M_widen_7 : decode b_M_widen 7 = .ok (.ifCond .eq 4, 3) := by decide +kernel
theorem d_M_widen_10 : decode b_M_widen 10 = .ok (.return_, 1) := by decide +kernel
theorem d_M_widen_11 : decode b_M_widen 11 = .ok (.aload_n 0, 1) := by decide +kernel
theorem d_M_widen_12 : decode b_M_widen 12 = .ok (.iload_n 2, 1) := by decide +kernel
theorem d_M_widen_13 : decode b_M_widen 13 = .ok (.iload_n 3, 1) := by decide +kernel
theorem d_M_widen_14 : decode b_M_widen 14 = .ok (.invokevirtual 208, 3) := by decide +kernel
theorem d_M_widen_17 : decode b_M_widen 17 = .ok (.aload_n 0, 1) := by decide +kernel
theorem d_M_widen_18 : decode b_M_widen 18 = .ok (.getfield 16, 3) := by decide +kernel
theorem d_M_widen_21 : decode b_M_widen 21 = .ok (.bipush 18, 2) := by decide +kernel
theorem d_M_widen_23 : decode b_M_widen 23 = .ok (.aload_n 0, 1) := by decide +kernel
theorem d_M_widen_24 : decode b_M_widen 24 = .ok (.getfield 16, 3) := by decide +kernel
theorem d_M_widen_27 : decode b_M_widen 27 = .ok (.iload_n 3, 1) := by decide +kernel
theorem d_M_widen_28 : decode b_M_widen 28 = .ok (.laload, 1) := by decide +kernel
theorem d_M_widen_29 : decode b_M_widen 29 = .ok (.aload_n 0, 1) := by decide +kernel
theorem d_M_widen_30 : decode b_M_widen 30 = .ok (.getfield 16, 3) := by decide +kernel
theorem d_M_widen_33 : decode b_M_widen 33 = .ok (.iload_n 2, 1) := by decide +kernel
theorem d_M_widen_34 : decode b_M_widen 34 = .ok (.laload, 1) := by decide +kernel
theorem d_M_widen_35 : decode b_M_widen 35 = .ok (.invokestatic 39, 3) := by decide +kernel
theorem d_M_widen_38 : decode b_M_widen 38 = .ok (.ifCond .eq 7, 3) := by decide +kernel
theorem d_M_widen_41 : decode b_M_widen 41 = .ok (.lconst 0, 1) := by decide +kernel
theorem d_M_widen_42 : decode b_M_widen 42 = .ok (.goto 9, 3) := by decide +kernel
theorem d_M_widen_45 : decode b_M_widen 45 = .ok (.aload_n 0, 1) := by decide +kernel
theorem d_M_widen_46 : decode b_M_widen 46 = .ok (.getfield 16, 3) := by decide +kernel
theorem d_M_widen_49 : decode b_M_widen 49 = .ok (.iload_n 2, 1) := by decide +kernel
theorem d_M_widen_50 : decode b_M_widen 50 = .ok (.laload, 1) := by decide +kernel
theorem d_M_widen_51 : decode b_M_widen 51 = .ok (.lastore, 1) := by decide +kernel
theorem d_M_widen_52 : decode b_M_widen 52 = .ok (.aload_n 0, 1) := by decide +kernel
theorem d_M_widen_53 : decode b_M_widen 53 = .ok (.getfield 19, 3) := by decide +kernel
theorem d_M_widen_56 : decode b_M_widen 56 = .ok (.bipush 18, 2) := by decide +kernel
theorem d_M_widen_58 : decode b_M_widen 58 = .ok (.aload_n 0, 1) := by decide +kernel
theorem d_M_widen_59 : decode b_M_widen 59 = .ok (.getfield 19, 3) := by decide +kernel
theorem d_M_widen_62 : decode b_M_widen 62 = .ok (.iload_n 2, 1) := by decide +kernel
theorem d_M_widen_63 : decode b_M_widen 63 = .ok (.laload, 1) := by decide +kernel
theorem d_M_widen_64 : decode b_M_widen 64 = .ok (.aload_n 0, 1) := by decide +kernel
theorem d_M_widen_65 : decode b_M_widen 65 = .ok (.getfield 19, 3) := by decide +kernel
theorem d_M_widen_68 : decode b_M_widen 68 = .ok (.iload_n 3, 1) := by decide +kernel
theorem d_M_widen_69 : decode b_M_widen 69 = .ok (.laload, 1) := by decide +kernel
theorem d_M_widen_70 : decode b_M_widen 70 = .ok (.invokestatic 39, 3) := by decide +kernel
theorem d_M_widen_73 : decode b_M_widen 73 = .ok (.ifCond .eq 9, 3) := by decide +kernel
theorem d_M_widen_76 : decode b_M_widen 76 = .ok (.ldc2_w 49, 3) := by decide +kernel
theorem d_M_widen_79 : decode b_M_widen 79 = .ok (.goto 9, 3) := by decide +kernel
theorem d_M_widen_82 : decode b_M_widen 82 = .ok (.aload_n 0, 1) := by decide +kernel
theorem d_M_widen_83 : decode b_M_widen 83 = .ok (.getfield 19, 3) := by decide +kernel
theorem d_M_widen_86 : decode b_M_widen 86 = .ok (.iload_n 2, 1) := by decide +kernel
theorem d_M_widen_87 : decode b_M_widen 87 = .ok (.laload, 1) := by decide +kernel
theorem d_M_widen_88 : decode b_M_widen 88 = .ok (.lastore, 1) := by decide +kernel
theorem d_M_widen_89 : decode b_M_widen 89 = .ok (.aload_n 0, 1) := by decide +kernel
theorem d_M_widen_90 : decode b_M_widen 90 = .ok (.getfield 22, 3) := by decide +kernel
theorem d_M_widen_93 : decode b_M_widen 93 = .ok (.bipush 18, 2) := by decide +kernel
theorem d_M_widen_95 : decode b_M_widen 95 = .ok (.aload_n 0, 1) := by decide +kernel
theorem d_M_widen_96 : decode b_M_widen 96 = .ok (.getfield 22, 3) := by decide +kernel
theorem d_M_widen_99 : decode b_M_widen 99 = .ok (.iload_n 3, 1) := by decide +kernel
theorem d_M_widen_100 : decode b_M_widen 100 = .ok (.laload, 1) := by decide +kernel
theorem d_M_widen_101 : decode b_M_widen 101 = .ok (.aload_n 0, 1) := by decide +kernel
theorem d_M_widen_102 : decode b_M_widen 102 = .ok (.getfield 22, 3) := by decide +kernel
theorem d_M_widen_105 : decode b_M_widen 105 = .ok (.iload_n 2, 1) := by decide +kernel
theorem d_M_widen_106 : decode b_M_widen 106 = .ok (.laload, 1) := by decide +kernel
theorem d_M_widen_107 : decode b_M_widen 107 = .ok (.lcmp, 1) := by decide +kernel
theorem d_M_widen_108 : decode b_M_widen 108 = .ok (.ifCond .ge 9, 3) := by decide +kernel
theorem d_M_widen_111 : decode b_M_widen 111 = .ok (.ldc2_w 54, 3) := by decide +kernel
theorem d_M_widen_114 : decode b_M_widen 114 = .ok (.goto 9, 3) := by decide +kernel
theorem d_M_widen_117 : decode b_M_widen 117 = .ok (.aload_n 0, 1) := by decide +kernel
theorem d_M_widen_118 : decode b_M_widen 118 = .ok (.getfield 22, 3) := by decide +kernel
theorem d_M_widen_121 : decode b_M_widen 121 = .ok (.iload_n 2, 1) := by decide +kernel
theorem d_M_widen_122 : decode b_M_widen 122 = .ok (.laload, 1) := by decide +kernel
theorem d_M_widen_123 : decode b_M_widen 123 = .ok (.lastore, 1) := by decide +kernel
theorem d_M_widen_124 : decode b_M_widen 124 = .ok (.aload_n 0, 1) := by decide +kernel
theorem d_M_widen_125 : decode b_M_widen 125 = .ok (.getfield 25, 3) := by decide +kernel
theorem d_M_widen_128 : decode b_M_widen 128 = .ok (.bipush 18, 2) := by decide +kernel
theorem d_M_widen_130 : decode b_M_widen 130 = .ok (.aload_n 0, 1) := by decide +kernel
theorem d_M_widen_131 : decode b_M_widen 131 = .ok (.getfield 25, 3) := by decide +kernel
theorem d_M_widen_134 : decode b_M_widen 134 = .ok (.iload_n 3, 1) := by decide +kernel
theorem d_M_widen_135 : decode b_M_widen 135 = .ok (.laload, 1) := by decide +kernel
theorem d_M_widen_136 : decode b_M_widen 136 = .ok (.aload_n 0, 1) := by decide +kernel
theorem d_M_widen_137 : decode b_M_widen 137 = .ok (.getfield 25, 3) := by decide +kernel
theorem d_M_widen_140 : decode b_M_widen 140 = .ok (.iload_n 2, 1) := by decide +kernel
theorem d_M_widen_141 : decode b_M_widen 141 = .ok (.laload, 1) := by decide +kernel
theorem d_M_widen_142 : decode b_M_widen 142 = .ok (.lcmp, 1) := by decide +kernel
theorem d_M_widen_143 : decode b_M_widen 143 = .ok (.ifCond .le 9, 3) := by decide +kernel
theorem d_M_widen_146 : decode b_M_widen 146 = .ok (.ldc2_w 56, 3) := by decide +kernel
theorem d_M_widen_149 : decode b_M_widen 149 = .ok (.goto 9, 3) := by decide +kernel
theorem d_M_widen_152 : decode b_M_widen 152 = .ok (.aload_n 0, 1) := by decide +kernel
theorem d_M_widen_153 : decode b_M_widen 153 = .ok (.getfield 25, 3) := by decide +kernel
theorem d_M_widen_156 : decode b_M_widen 156 = .ok (.iload_n 2, 1) := by decide +kernel
theorem d_M_widen_157 : decode b_M_widen 157 = .ok (.laload, 1) := by decide +kernel
theorem d_M_widen_158 : decode b_M_widen 158 = .ok (.lastore, 1) := by decide +kernel
theorem d_M_widen_159 : decode b_M_widen 159 = .ok (.aload_n 0, 1) := by decide +kernel
theorem d_M_widen_160 : decode b_M_widen 160 = .ok (.getfield 28, 3) := by decide +kernel
theorem d_M_widen_163 : decode b_M_widen 163 = .ok (.bipush 18, 2) := by decide +kernel
theorem d_M_widen_165 : decode b_M_widen 165 = .ok (.iconst 0, 1) := by decide +kernel
theorem d_M_widen_166 : decode b_M_widen 166 = .ok (.bastore, 1) := by decide +kernel
theorem d_M_widen_167 : decode b_M_widen 167 = .ok (.aload_n 0, 1) := by decide +kernel
theorem d_M_widen_168 : decode b_M_widen 168 = .ok (.bipush 18, 2) := by decide +kernel
theorem d_M_widen_170 : decode b_M_widen 170 = .ok (.invokevirtual 113, 3) := by decide +kernel
theorem d_M_widen_173 : decode b_M_widen 173 = .ok (.aload_n 0, 1) := by decide +kernel
theorem d_M_widen_174 : decode b_M_widen 174 = .ok (.iload_n 1, 1) := by decide +kernel
theorem d_M_widen_175 : decode b_M_widen 175 = .ok (.bipush 18, 2) := by decide +kernel
theorem d_M_widen_177 : decode b_M_widen 177 = .ok (.aload_n 0, 1) := by decide +kernel
theorem d_M_widen_178 : decode b_M_widen 178 = .ok (.getfield 32, 3) := by decide +kernel
theorem d_M_widen_181 : decode b_M_widen 181 = .ok (.iload_n 3, 1) := by decide +kernel
theorem d_M_widen_182 : decode b_M_widen 182 = .ok (.laload, 1) := by decide +kernel
theorem d_M_widen_183 : decode b_M_widen 183 = .ok (.invokevirtual 105, 3) := by decide +kernel
theorem d_M_widen_186 : decode b_M_widen 186 = .ok (.return_, 1) := by decide +kernel
def f_M_widen_183g (r0 : (Nat → VV)) (w0 : (Nat → Int64)) (s0 : Int32) (p1 : Int32) (p2 : Int32) (p3 : Int32) (c14g : Int32) (g183 : (Nat → VV) × (Nat → Int64) × Int32) : Int32 × (Nat → VV) × (Nat → Int64) × Int32 := (c14g, g183.1, g183.2.1, g183.2.2)
def f_M_widen_170g (r0 : (Nat → VV)) (w0 : (Nat → Int64)) (s0 : Int32) (p1 : Int32) (p2 : Int32) (p3 : Int32) (c14g : Int32) (g170 : (Nat → VV)) : Int32 × (Nat → VV) × (Nat → Int64) × Int32 := f_M_widen_183g r0 w0 s0 p1 p2 p3 c14g (f_M_put g170 w0 s0 p1.toNatClampNeg 18 (w0 p3.toNatClampNeg))
def f_M_widen_166u (r0 : (Nat → VV)) (w0 : (Nat → Int64)) (s0 : Int32) (p1 : Int32) (p2 : Int32) (p3 : Int32) (c14g : Int32) (r166n : (Nat → VV)) : Int32 × (Nat → VV) × (Nat → Int64) × Int32 := f_M_widen_170g r0 w0 s0 p1 p2 p3 c14g (f_M_tighten r166n 18)
def f_M_widen_158u (r0 : (Nat → VV)) (w0 : (Nat → Int64)) (s0 : Int32) (p1 : Int32) (p2 : Int32) (p3 : Int32) (c14g : Int32) (r158n : (Nat → VV)) : Int32 × (Nat → VV) × (Nat → Int64) × Int32 := f_M_widen_166u r0 w0 s0 p1 p2 p3 c14g (u7 r158n 18 false)
def f_M_widen_158 (r0 : (Nat → VV)) (w0 : (Nat → Int64)) (s0 : Int32) (p1 : Int32) (p2 : Int32) (p3 : Int32) (s158_0 : Int64) (c14g : Int32) (r123n : (Nat → VV)) : Int32 × (Nat → VV) × (Nat → Int64) × Int32 := f_M_widen_158u r0 w0 s0 p1 p2 p3 c14g (u6 r123n 18 s158_0)
def f_M_widen_123u (r0 : (Nat → VV)) (w0 : (Nat → Int64)) (s0 : Int32) (p1 : Int32) (p2 : Int32) (p3 : Int32) (c14g : Int32) (r123n : (Nat → VV)) : Int32 × (Nat → VV) × (Nat → Int64) × Int32 := (if ((r123n p2.toNatClampNeg).2.2.2.2.2.1) < ((r123n p3.toNatClampNeg).2.2.2.2.2.1) then f_M_widen_158 r0 w0 s0 p1 p2 p3 9223372036854775807 c14g r123n else f_M_widen_158 r0 w0 s0 p1 p2 p3 ((r123n p2.toNatClampNeg).2.2.2.2.2.1) c14g r123n)
def f_M_widen_123 (r0 : (Nat → VV)) (w0 : (Nat → Int64)) (s0 : Int32) (p1 : Int32) (p2 : Int32) (p3 : Int32) (s123_0 : Int64) (c14g : Int32) (r88n : (Nat → VV)) : Int32 × (Nat → VV) × (Nat → Int64) × Int32 := f_M_widen_123u r0 w0 s0 p1 p2 p3 c14g (u5 r88n 18 s123_0)
def f_M_widen_88u (r0 : (Nat → VV)) (w0 : (Nat → Int64)) (s0 : Int32) (p1 : Int32) (p2 : Int32) (p3 : Int32) (c14g : Int32) (r88n : (Nat → VV)) : Int32 × (Nat → VV) × (Nat → Int64) × Int32 := (if ((r88n p3.toNatClampNeg).2.2.2.2.1) < ((r88n p2.toNatClampNeg).2.2.2.2.1) then f_M_widen_123 r0 w0 s0 p1 p2 p3 (-9223372036854775808) c14g r88n else f_M_widen_123 r0 w0 s0 p1 p2 p3 ((r88n p2.toNatClampNeg).2.2.2.2.1) c14g r88n)
def f_M_widen_88 (r0 : (Nat → VV)) (w0 : (Nat → Int64)) (s0 : Int32) (p1 : Int32) (p2 : Int32) (p3 : Int32) (s88_0 : Int64) (c14g : Int32) (r51n : (Nat → VV)) : Int32 × (Nat → VV) × (Nat → Int64) × Int32 := f_M_widen_88u r0 w0 s0 p1 p2 p3 c14g (u4 r51n 18 s88_0)
def f_M_widen_51u (r0 : (Nat → VV)) (w0 : (Nat → Int64)) (s0 : Int32) (p1 : Int32) (p2 : Int32) (p3 : Int32) (c14g : Int32) (r51n : (Nat → VV)) : Int32 × (Nat → VV) × (Nat → Int64) × Int32 := (if (f_M_below ((r51n p2.toNatClampNeg).2.2.2.1) ((r51n p3.toNatClampNeg).2.2.2.1)) = true then f_M_widen_88 r0 w0 s0 p1 p2 p3 (-1) c14g r51n else f_M_widen_88 r0 w0 s0 p1 p2 p3 ((r51n p2.toNatClampNeg).2.2.2.1) c14g r51n)
def f_M_widen_51 (r0 : (Nat → VV)) (w0 : (Nat → Int64)) (s0 : Int32) (p1 : Int32) (p2 : Int32) (p3 : Int32) (s51_0 : Int64) (c14g : Int32) (g14 : (Nat → VV)) : Int32 × (Nat → VV) × (Nat → Int64) × Int32 := f_M_widen_51u r0 w0 s0 p1 p2 p3 c14g (u3 g14 18 s51_0)
def f_M_widen_14g (r0 : (Nat → VV)) (w0 : (Nat → Int64)) (s0 : Int32) (p1 : Int32) (p2 : Int32) (p3 : Int32) (c14g : Int32) (g14 : (Nat → VV)) : Int32 × (Nat → VV) × (Nat → Int64) × Int32 := (if (f_M_below ((g14 p3.toNatClampNeg).2.2.1) ((g14 p2.toNatClampNeg).2.2.1)) = true then f_M_widen_51 r0 w0 s0 p1 p2 p3 0 c14g g14 else f_M_widen_51 r0 w0 s0 p1 p2 p3 ((g14 p2.toNatClampNeg).2.2.1) c14g g14)
def f_M_widen_4g (r0 : (Nat → VV)) (w0 : (Nat → Int64)) (s0 : Int32) (p1 : Int32) (p2 : Int32) (p3 : Int32) (g4 : Bool × Int32) : Int32 × (Nat → VV) × (Nat → Int64) × Int32 := (if g4.1 = true then (g4.2, r0, w0, s0) else f_M_widen_14g r0 w0 s0 p1 p2 p3 g4.2 (f_M_joinBits r0 p2.toNatClampNeg p3.toNatClampNeg))
def f_M_widen (r0 : (Nat → VV)) (w0 : (Nat → Int64)) (s0 : Int32) (p1 : Int32) (p2 : Int32) (p3 : Int32) : Int32 × (Nat → VV) × (Nat → Int64) × Int32 := f_M_widen_4g r0 w0 s0 p1 p2 p3 (f_M_noPlace p1 p2 p3)
set_option maxRecDepth 100000 in
set_option maxHeartbeats 4000000 in
theorem c_M_widen (l : Launch) (dC : Nat → ClassId) (dI : Nat → Nat → Nat) (ad : Nat → Nat) (cJ cZ : ClassId) (sz : Nat) (c0 : Int32) (r0 : (Nat → VV)) (w0 : (Nat → Int64)) (s0 : Int32) (p1 : Int32) (p2 : Int32) (p3 : Int32) : Met l y_M_widen w_M_widen ({ frames := 6, cells := 0, slots := 0, locals := 183 } : Room) (va_Pc [.ref (ad 0), .int (p1), .int (p2), .int (p3)] (nP (dC, dI) (mT cJ cZ) (mW ad cJ cZ c0 r0 w0 s0) sz)) (va_Qv (fun _ : Unit => True) (mB (dC, dI) (va_A (mW ad cJ cZ c0 r0 w0 s0) sz) (mW ad cJ cZ (f_M_widen r0 w0 s0 p1 p2 p3).1 (f_M_widen r0 w0 s0 p1 p2 p3).2.1 (f_M_widen r0 w0 s0 p1 p2 p3).2.2.1 (f_M_widen r0 w0 s0 p1 p2 p3).2.2.2)) (va_A (mW ad cJ cZ c0 r0 w0 s0) sz)) 0 0 (va_A (mW ad cJ cZ c0 r0 w0 s0) sz) := by
  refine Met.ofW (cc := b_M_widen) (maxL := 4) (ret := none) (by decide) rfl ?_
  intro p e s m args below meth c s₁ B hml hv
  obtain ⟨rfl, hsz, hP, hK, hD0⟩ := hv
  have hx := B.exec
  have hb := B.bytes
  have hr := B.returns
  have hts := atoms_spec (ws := w_M_widen) B.pre
  have hG : ∀ w ∈ gM, w.before _ s = true := fun w h => hts w (List.mem_cons_of_mem _ h)
  have hown : s.vm.findClass R_M = some m.cls := findClass_of_methodNamed B.named
  have hlocks := B.notSynchronized
  subst hsz
  have hD := hD0.self (sz := s.heap.size)
  generalize hAe : va_A (mW ad cJ cZ c0 r0 w0 s0) s.heap.size = A at hD ⊢
  have hA : ∀ q : Nat, s.heap.size ≤ q → A q := fun q h => by rw [← hAe]; exact Or.inr h
  have hS : va_S A s.heap s.heap [] := va_S.rf
  have hl := lv_entry ([.ref (ad 0), .int (p1), .int (p2), .int (p3)]) (n := 4) (Nat.le_of_ble_eq_true rfl)
  rw [lg_entry_eq]
  generalize (lg_sl ([.ref (ad 0), .int (p1), .int (p2), .int (p3)]) ++ List.replicate (4 - (lg_sl ([.ref (ad 0), .int (p1), .int (p2), .int (p3)])).length) Slot.unset).toArray = ls at hl ⊢
  have hl : lv_has ls 4 [(0, .ref (ad 0)), (1, .int (p1)), (2, .int (p2)), (3, .int (p3))] := hl
  have K183g : ∀ (c14g : Int32) (g183 : (Nat → VV) × (Nat → Int64) × Int32) (hj : f_M_widen r0 w0 s0 p1 p2 p3 = f_M_widen_183g r0 w0 s0 p1 p2 p3 c14g g183) (hf0 : p1 = nI p1.toNatClampNeg) (hf1 : p1.toNatClampNeg < 16) (hf2 : p2 = nI p2.toNatClampNeg) (hf3 : p2.toNatClampNeg < 16) (hf4 : p3 = nI p3.toNatClampNeg) (hf5 : p3.toNatClampNeg < 16) (H : Heap) (locs : List Loc) (hP : va_P (dC, dI) classes (mW ad cJ cZ c14g g183.1 g183.2.1 g183.2.2) H) (hD : va_D A (mW ad cJ cZ c14g g183.1 g183.2.1 g183.2.2)) (hS : va_S A s.heap H locs) (ls : Array Slot) (hl : lv_has ls 4 []), W p l e (headSpec w_M_widen ({ frames := 6, cells := 0, slots := 0, locals := 183 } : Room)).room s m ([.ref (ad 0), .int (p1), .int (p2), .int (p3)] : List Value).toArray below meth c H locs 0 0 (MQ below (va_Qv (fun _ : Unit => True) (mB (dC, dI) A (mW ad cJ cZ (f_M_widen r0 w0 s0 p1 p2 p3).1 (f_M_widen r0 w0 s0 p1 p2 p3).2.1 (f_M_widen r0 w0 s0 p1 p2 p3).2.2.1 (f_M_widen r0 w0 s0 p1 p2 p3).2.2.2)) A) ([.ref (ad 0), .int (p1), .int (p2), .int (p3)] : List Value).toArray s 0 0 A) (F0 m 186 ls []) := by
    intro c14g g183 hj hf0 hf1 hf2 hf3 hf4 hf5 H locs hP hD hS ls hl
    have fe : f_M_widen r0 w0 s0 p1 p2 p3 = (c14g, g183.1, g183.2.1, g183.2.2) := hj.trans rfl
    exact W.vret hx hb hr (fun t ht hW => ⟨⟨(), rfl, trivial, by rw [ht, fe]; exact hP, by rw [fe]; exact hD⟩, hS.F ht⟩) hS.2.2 d_M_widen_186
  have K170g : ∀ (c14g : Int32) (g170 : (Nat → VV)) (hj : f_M_widen r0 w0 s0 p1 p2 p3 = f_M_widen_170g r0 w0 s0 p1 p2 p3 c14g g170) (hf0 : p1 = nI p1.toNatClampNeg) (hf1 : p1.toNatClampNeg < 16) (hf2 : p2 = nI p2.toNatClampNeg) (hf3 : p2.toNatClampNeg < 16) (hf4 : p3 = nI p3.toNatClampNeg) (hf5 : p3.toNatClampNeg < 16) (H : Heap) (locs : List Loc) (hP : va_P (dC, dI) classes (mW ad cJ cZ c14g g170 w0 s0) H) (hD : va_D A (mW ad cJ cZ c14g g170 w0 s0)) (hS : va_S A s.heap H locs) (ls : Array Slot) (hl : lv_has ls 4 [(0, .ref (ad 0)), (1, .int (p1)), (3, .int (p3))]), W p l e (headSpec w_M_widen ({ frames := 6, cells := 0, slots := 0, locals := 183 } : Room)).room s m ([.ref (ad 0), .int (p1), .int (p2), .int (p3)] : List Value).toArray below meth c H locs 0 0 (MQ below (va_Qv (fun _ : Unit => True) (mB (dC, dI) A (mW ad cJ cZ (f_M_widen r0 w0 s0 p1 p2 p3).1 (f_M_widen r0 w0 s0 p1 p2 p3).2.1 (f_M_widen r0 w0 s0 p1 p2 p3).2.2.1 (f_M_widen r0 w0 s0 p1 p2 p3).2.2.2)) A) ([.ref (ad 0), .int (p1), .int (p2), .int (p3)] : List Value).toArray s 0 0 A) (F0 m 173 ls []) := by
    intro c14g g170 hj hf0 hf1 hf2 hf3 hf4 hf5 H locs hP hD hS ls hl
    refine lv_aload_n hx hb d_M_widen_173 rfl (lv_at hl 0 rfl) ?_
    refine lv_iload_n hx hb d_M_widen_174 rfl (lv_at hl 1 rfl) ?_
    refine top_i hf0 ?_
    refine lv_bipush (v := 18) hx hb d_M_widen_175 (by decide) ?_
    refine lv_aload_n hx hb d_M_widen_177 rfl (lv_at hl 0 rfl) ?_
    refine va_get (D := (dC, dI)) (ci := 2) (v := .ref (ad 8)) (C := R_M) (T := F_M) (N := 10) hx hb hts (fun w h => List.mem_cons_of_mem _ (uw_M w h)) hown hK hP 0 rfl rfl 8 (by decide) (hG (.fieldLink R_M 32 "ValueSieveModel" "witness" "[J") gx17) (fun _ h9 => h9) rfl d_M_widen_178 ?_
    refine lv_iload_n hx hb d_M_widen_181 rfl (lv_at hl 2 rfl) ?_
    refine top_i hf4 ?_
    refine ml_8 (P := p3.toNatClampNeg) hx hb hK hP rfl hf5 d_M_widen_182 ?_
    refine mm_v (F := f_M_put g170 w0 s0 p1.toNatClampNeg 18 (w0 p3.toNatClampNeg)) (w1 := fun g183 => (mW ad cJ cZ c14g g183.1 g183.2.1 g183.2.2)) (va_runV (As := [.int (nI p1.toNatClampNeg), .int (18), .long (w0 p3.toNatClampNeg)]) (rest := []) ⟨hx, hb, hml, hown, hts⟩ (c_M_put l dC dI ad cJ cZ H.size c14g g170 w0 s0 p1.toNatClampNeg 18 (w0 p3.toNatClampNeg) hf1 (by decide)) (cwV 3 hts (gxV gx45 gx46 gx278 gx0 gx47) rfl rfl rfl (by decide +kernel) ⟨(Nat.le_of_ble_eq_true rfl), (Nat.le_of_ble_eq_true rfl)⟩) ⟨blp, va_recv hK hP (ci := 2) (q0 := 0) rfl rfl, fun U hU hW => ⟨rfl, by rw [hU], by rw [hU]; exact hP, va_K.moved hW.alike hK, hD.weaken (fun _ _ _ _ => trivial)⟩⟩ rfl rfl hl.1 rfl (lv_room (Nat.le_of_ble_eq_true rfl)) d_M_widen_183 ⟨Nat.zero_le _, Nat.zero_le _⟩) hD hS hA (fun g183 eg183 H locs hP hD hS => ?_)
    refine K183g c14g g183 (Eq.trans (hj.trans rfl) (congrArg (fun g183 => f_M_widen_183g r0 w0 s0 p1 p2 p3 c14g g183) eg183)) hf0 hf1 hf2 hf3 hf4 hf5 H locs ?_ ?_ hS ls (lv_sub hl [] rfl)
    · with_reducible exact hP
    · with_reducible exact hD
  have K166u : ∀ (c14g : Int32) (r166n : (Nat → VV)) (hj : f_M_widen r0 w0 s0 p1 p2 p3 = f_M_widen_166u r0 w0 s0 p1 p2 p3 c14g r166n) (hf0 : p1 = nI p1.toNatClampNeg) (hf1 : p1.toNatClampNeg < 16) (hf2 : p2 = nI p2.toNatClampNeg) (hf3 : p2.toNatClampNeg < 16) (hf4 : p3 = nI p3.toNatClampNeg) (hf5 : p3.toNatClampNeg < 16) (H : Heap) (locs : List Loc) (hP : va_P (dC, dI) classes (mW ad cJ cZ c14g r166n w0 s0) H) (hD : va_D A (mW ad cJ cZ c14g r166n w0 s0)) (hS : va_S A s.heap H locs) (ls : Array Slot) (hl : lv_has ls 4 [(0, .ref (ad 0)), (1, .int (p1)), (3, .int (p3))]), W p l e (headSpec w_M_widen ({ frames := 6, cells := 0, slots := 0, locals := 183 } : Room)).room s m ([.ref (ad 0), .int (p1), .int (p2), .int (p3)] : List Value).toArray below meth c H locs 0 0 (MQ below (va_Qv (fun _ : Unit => True) (mB (dC, dI) A (mW ad cJ cZ (f_M_widen r0 w0 s0 p1 p2 p3).1 (f_M_widen r0 w0 s0 p1 p2 p3).2.1 (f_M_widen r0 w0 s0 p1 p2 p3).2.2.1 (f_M_widen r0 w0 s0 p1 p2 p3).2.2.2)) A) ([.ref (ad 0), .int (p1), .int (p2), .int (p3)] : List Value).toArray s 0 0 A) (F0 m 167 ls []) := by
    intro c14g r166n hj hf0 hf1 hf2 hf3 hf4 hf5 H locs hP hD hS ls hl
    refine lv_aload_n hx hb d_M_widen_167 rfl (lv_at hl 0 rfl) ?_
    refine lv_bipush (v := 18) hx hb d_M_widen_168 (by decide) ?_
    refine mm_v (F := f_M_tighten r166n 18) (w1 := fun g170 => (mW ad cJ cZ c14g g170 w0 s0)) (va_runV (As := [.int (18)]) (rest := []) ⟨hx, hb, hml, hown, hts⟩ (c_M_tighten l dC dI ad cJ cZ H.size c14g r166n w0 s0 18 (by decide)) (cwV 1 hts (gxV gx69 gx70 gx274 gx0 gx71) rfl rfl rfl (by decide +kernel) ⟨(Nat.le_of_ble_eq_true rfl), (Nat.le_of_ble_eq_true rfl)⟩) ⟨blp, va_recv hK hP (ci := 2) (q0 := 0) rfl rfl, fun U hU hW => ⟨rfl, by rw [hU], by rw [hU]; exact hP, va_K.moved hW.alike hK, hD.weaken (fun _ _ _ _ => trivial)⟩⟩ rfl rfl hl.1 rfl (lv_room (Nat.le_of_ble_eq_true rfl)) d_M_widen_170 ⟨Nat.zero_le _, Nat.zero_le _⟩) hD hS hA (fun g170 eg170 H locs hP hD hS => ?_)
    refine K170g c14g g170 (Eq.trans (hj.trans rfl) (congrArg (fun g170 => f_M_widen_170g r0 w0 s0 p1 p2 p3 c14g g170) eg170)) hf0 hf1 hf2 hf3 hf4 hf5 H locs ?_ ?_ hS ls (lv_sub hl [0, 1, 2] rfl)
    · with_reducible exact hP
    · with_reducible exact hD
  have K158u : ∀ (c14g : Int32) (r158n : (Nat → VV)) (hj : f_M_widen r0 w0 s0 p1 p2 p3 = f_M_widen_158u r0 w0 s0 p1 p2 p3 c14g r158n) (hf0 : p1 = nI p1.toNatClampNeg) (hf1 : p1.toNatClampNeg < 16) (hf2 : p2 = nI p2.toNatClampNeg) (hf3 : p2.toNatClampNeg < 16) (hf4 : p3 = nI p3.toNatClampNeg) (hf5 : p3.toNatClampNeg < 16) (H : Heap) (locs : List Loc) (hP : va_P (dC, dI) classes (mW ad cJ cZ c14g r158n w0 s0) H) (hD : va_D A (mW ad cJ cZ c14g r158n w0 s0)) (hS : va_S A s.heap H locs) (ls : Array Slot) (hl : lv_has ls 4 [(0, .ref (ad 0)), (1, .int (p1)), (3, .int (p3))]), W p l e (headSpec w_M_widen ({ frames := 6, cells := 0, slots := 0, locals := 183 } : Room)).room s m ([.ref (ad 0), .int (p1), .int (p2), .int (p3)] : List Value).toArray below meth c H locs 0 0 (MQ below (va_Qv (fun _ : Unit => True) (mB (dC, dI) A (mW ad cJ cZ (f_M_widen r0 w0 s0 p1 p2 p3).1 (f_M_widen r0 w0 s0 p1 p2 p3).2.1 (f_M_widen r0 w0 s0 p1 p2 p3).2.2.1 (f_M_widen r0 w0 s0 p1 p2 p3).2.2.2)) A) ([.ref (ad 0), .int (p1), .int (p2), .int (p3)] : List Value).toArray s 0 0 A) (F0 m 159 ls []) := by
    intro c14g r158n hj hf0 hf1 hf2 hf3 hf4 hf5 H locs hP hD hS ls hl
    refine lv_aload_n hx hb d_M_widen_159 rfl (lv_at hl 0 rfl) ?_
    refine va_get (D := (dC, dI)) (ci := 2) (v := .ref (ad 7)) (C := R_M) (T := F_M) (N := 10) hx hb hts (fun w h => List.mem_cons_of_mem _ (uw_M w h)) hown hK hP 0 rfl rfl 7 (by decide) (hG (.fieldLink R_M 28 "ValueSieveModel" "empty" "[Z") gx16) (fun _ h9 => h9) rfl d_M_widen_160 ?_
    refine lv_bipush (v := 18) hx hb d_M_widen_163 (by decide) ?_
    refine lv_iconst (v := 0) hx hb d_M_widen_165 (by decide) ?_
    refine ms_7 (P := 18) (x := false) hx hb hK hP hD hS rfl (by decide) d_M_widen_166 (fun H locs hP hD hS => ?_)
    obtain ⟨r166n, er166n⟩ : ∃ z, z = u7 r158n 18 false := ⟨_, rfl⟩
    rw [← er166n] at hP hD
    refine K166u c14g r166n (Eq.trans (hj.trans rfl) (congrArg (fun r166n => f_M_widen_166u r0 w0 s0 p1 p2 p3 c14g r166n) er166n.symm)) hf0 hf1 hf2 hf3 hf4 hf5 H locs ?_ ?_ hS ls (lv_sub hl [0, 1, 2] rfl)
    · with_reducible exact hP
    · with_reducible exact hD
  have K158 : ∀ (s158_0 : Int64) (c14g : Int32) (r123n : (Nat → VV)) (hj : f_M_widen r0 w0 s0 p1 p2 p3 = f_M_widen_158 r0 w0 s0 p1 p2 p3 s158_0 c14g r123n) (hf0 : p1 = nI p1.toNatClampNeg) (hf1 : p1.toNatClampNeg < 16) (hf2 : p2 = nI p2.toNatClampNeg) (hf3 : p2.toNatClampNeg < 16) (hf4 : p3 = nI p3.toNatClampNeg) (hf5 : p3.toNatClampNeg < 16) (H : Heap) (locs : List Loc) (hP : va_P (dC, dI) classes (mW ad cJ cZ c14g r123n w0 s0) H) (hD : va_D A (mW ad cJ cZ c14g r123n w0 s0)) (hS : va_S A s.heap H locs) (ls : Array Slot) (hl : lv_has ls 4 [(0, .ref (ad 0)), (1, .int (p1)), (3, .int (p3))]), W p l e (headSpec w_M_widen ({ frames := 6, cells := 0, slots := 0, locals := 183 } : Room)).room s m ([.ref (ad 0), .int (p1), .int (p2), .int (p3)] : List Value).toArray below meth c H locs 0 0 (MQ below (va_Qv (fun _ : Unit => True) (mB (dC, dI) A (mW ad cJ cZ (f_M_widen r0 w0 s0 p1 p2 p3).1 (f_M_widen r0 w0 s0 p1 p2 p3).2.1 (f_M_widen r0 w0 s0 p1 p2 p3).2.2.1 (f_M_widen r0 w0 s0 p1 p2 p3).2.2.2)) A) ([.ref (ad 0), .int (p1), .int (p2), .int (p3)] : List Value).toArray s 0 0 A) (F0 m 158 ls [.long (s158_0), .int (18), .ref (ad 6)]) := by
    intro s158_0 c14g r123n hj hf0 hf1 hf2 hf3 hf4 hf5 H locs hP hD hS ls hl
    refine ms_6 (P := 18) (x := s158_0) hx hb hK hP hD hS rfl (by decide) d_M_widen_158 (fun H locs hP hD hS => ?_)
    obtain ⟨r158n, er158n⟩ : ∃ z, z = u6 r123n 18 s158_0 := ⟨_, rfl⟩
    rw [← er158n] at hP hD
    refine K158u c14g r158n (Eq.trans (hj.trans rfl) (congrArg (fun r158n => f_M_widen_158u r0 w0 s0 p1 p2 p3 c14g r158n) er158n.symm)) hf0 hf1 hf2 hf3 hf4 hf5 H locs ?_ ?_ hS ls (lv_sub hl [0, 1, 2] rfl)
    · with_reducible exact hP
    · with_reducible exact hD
  have K123u : ∀ (c14g : Int32) (r123n : (Nat → VV)) (hj : f_M_widen r0 w0 s0 p1 p2 p3 = f_M_widen_123u r0 w0 s0 p1 p2 p3 c14g r123n) (hf0 : p1 = nI p1.toNatClampNeg) (hf1 : p1.toNatClampNeg < 16) (hf2 : p2 = nI p2.toNatClampNeg) (hf3 : p2.toNatClampNeg < 16) (hf4 : p3 = nI p3.toNatClampNeg) (hf5 : p3.toNatClampNeg < 16) (H : Heap) (locs : List Loc) (hP : va_P (dC, dI) classes (mW ad cJ cZ c14g r123n w0 s0) H) (hD : va_D A (mW ad cJ cZ c14g r123n w0 s0)) (hS : va_S A s.heap H locs) (ls : Array Slot) (hl : lv_has ls 4 [(0, .ref (ad 0)), (1, .int (p1)), (2, .int (p2)), (3, .int (p3))]), W p l e (headSpec w_M_widen ({ frames := 6, cells := 0, slots := 0, locals := 183 } : Room)).room s m ([.ref (ad 0), .int (p1), .int (p2), .int (p3)] : List Value).toArray below meth c H locs 0 0 (MQ below (va_Qv (fun _ : Unit => True) (mB (dC, dI) A (mW ad cJ cZ (f_M_widen r0 w0 s0 p1 p2 p3).1 (f_M_widen r0 w0 s0 p1 p2 p3).2.1 (f_M_widen r0 w0 s0 p1 p2 p3).2.2.1 (f_M_widen r0 w0 s0 p1 p2 p3).2.2.2)) A) ([.ref (ad 0), .int (p1), .int (p2), .int (p3)] : List Value).toArray s 0 0 A) (F0 m 124 ls []) := by
    intro c14g r123n hj hf0 hf1 hf2 hf3 hf4 hf5 H locs hP hD hS ls hl
    refine lv_aload_n hx hb d_M_widen_124 rfl (lv_at hl 0 rfl) ?_
    refine va_get (D := (dC, dI)) (ci := 2) (v := .ref (ad 6)) (C := R_M) (T := F_M) (N := 10) hx hb hts (fun w h => List.mem_cons_of_mem _ (uw_M w h)) hown hK hP 0 rfl rfl 6 (by decide) (hG (.fieldLink R_M 25 "ValueSieveModel" "greatest" "[J") gx15) (fun _ h9 => h9) rfl d_M_widen_125 ?_
    refine lv_bipush (v := 18) hx hb d_M_widen_128 (by decide) ?_
    refine lv_aload_n hx hb d_M_widen_130 rfl (lv_at hl 0 rfl) ?_
    refine va_get (D := (dC, dI)) (ci := 2) (v := .ref (ad 6)) (C := R_M) (T := F_M) (N := 10) hx hb hts (fun w h => List.mem_cons_of_mem _ (uw_M w h)) hown hK hP 0 rfl rfl 6 (by decide) (hG (.fieldLink R_M 25 "ValueSieveModel" "greatest" "[J") gx15) (fun _ h9 => h9) rfl d_M_widen_131 ?_
    refine lv_iload_n hx hb d_M_widen_134 rfl (lv_at hl 3 rfl) ?_
    refine top_i hf4 ?_
    refine ml_6 (P := p3.toNatClampNeg) hx hb hK hP rfl (Nat.lt_of_lt_of_le hf5 (by decide)) d_M_widen_135 ?_
    refine lv_aload_n hx hb d_M_widen_136 rfl (lv_at hl 0 rfl) ?_
    refine va_get (D := (dC, dI)) (ci := 2) (v := .ref (ad 6)) (C := R_M) (T := F_M) (N := 10) hx hb hts (fun w h => List.mem_cons_of_mem _ (uw_M w h)) hown hK hP 0 rfl rfl 6 (by decide) (hG (.fieldLink R_M 25 "ValueSieveModel" "greatest" "[J") gx15) (fun _ h9 => h9) rfl d_M_widen_137 ?_
    refine lv_iload_n hx hb d_M_widen_140 rfl (lv_at hl 2 rfl) ?_
    refine top_i hf2 ?_
    refine ml_6 (P := p2.toNatClampNeg) hx hb hK hP rfl (Nat.lt_of_lt_of_le hf3 (by decide)) d_M_widen_141 ?_
    refine wl_le (tgt := 152) hx hb d_M_widen_142 d_M_widen_143 (by decide) (fun e1_152 => ?_) (fun e1_152 => ?_)
    · refine lv_aload_n hx hb d_M_widen_152 rfl (lv_at hl 0 rfl) ?_
      refine va_get (D := (dC, dI)) (ci := 2) (v := .ref (ad 6)) (C := R_M) (T := F_M) (N := 10) hx hb hts (fun w h => List.mem_cons_of_mem _ (uw_M w h)) hown hK hP 0 rfl rfl 6 (by decide) (hG (.fieldLink R_M 25 "ValueSieveModel" "greatest" "[J") gx15) (fun _ h9 => h9) rfl d_M_widen_153 ?_
      refine lv_iload_n hx hb d_M_widen_156 rfl (lv_at hl 2 rfl) ?_
      refine top_i hf2 ?_
      refine ml_6 (P := p2.toNatClampNeg) hx hb hK hP rfl (Nat.lt_of_lt_of_le hf3 (by decide)) d_M_widen_157 ?_
      refine K158 ((r123n p2.toNatClampNeg).2.2.2.2.2.1) c14g r123n (hj.trans (by unfold f_M_widen_123u; first | with_reducible exact if_neg e1_152 | exact if_neg e1_152)) hf0 hf1 hf2 hf3 hf4 hf5 H locs ?_ ?_ hS ls (lv_sub hl [0, 1, 3] rfl)
      · with_reducible exact hP
      · with_reducible exact hD
    · refine lv_ldc2 (v := 9223372036854775807) hx hb hown (hG (.constantLong R_M 56 (9223372036854775807)) gx44) d_M_widen_146 ?_
      refine lv_goto (tgt := 158) hx hb d_M_widen_149 (by decide) ?_
      refine K158 9223372036854775807 c14g r123n (hj.trans (by unfold f_M_widen_123u; first | with_reducible exact if_pos e1_152 | exact if_pos e1_152)) hf0 hf1 hf2 hf3 hf4 hf5 H locs ?_ ?_ hS ls (lv_sub hl [0, 1, 3] rfl)
      · with_reducible exact hP
      · with_reducible exact hD
  have K123 : ∀ (s123_0 : Int64) (c14g : Int32) (r88n : (Nat → VV)) (hj : f_M_widen r0 w0 s0 p1 p2 p3 = f_M_widen_123 r0 w0 s0 p1 p2 p3 s123_0 c14g r88n) (hf0 : p1 = nI p1.toNatClampNeg) (hf1 : p1.toNatClampNeg < 16) (hf2 : p2 = nI p2.toNatClampNeg) (hf3 : p2.toNatClampNeg < 16) (hf4 : p3 = nI p3.toNatClampNeg) (hf5 : p3.toNatClampNeg < 16) (H : Heap) (locs : List Loc) (hP : va_P (dC, dI) classes (mW ad cJ cZ c14g r88n w0 s0) H) (hD : va_D A (mW ad cJ cZ c14g r88n w0 s0)) (hS : va_S A s.heap H locs) (ls : Array Slot) (hl : lv_has ls 4 [(0, .ref (ad 0)), (1, .int (p1)), (2, .int (p2)), (3, .int (p3))]), W p l e (headSpec w_M_widen ({ frames := 6, cells := 0, slots := 0, locals := 183 } : Room)).room s m ([.ref (ad 0), .int (p1), .int (p2), .int (p3)] : List Value).toArray below meth c H locs 0 0 (MQ below (va_Qv (fun _ : Unit => True) (mB (dC, dI) A (mW ad cJ cZ (f_M_widen r0 w0 s0 p1 p2 p3).1 (f_M_widen r0 w0 s0 p1 p2 p3).2.1 (f_M_widen r0 w0 s0 p1 p2 p3).2.2.1 (f_M_widen r0 w0 s0 p1 p2 p3).2.2.2)) A) ([.ref (ad 0), .int (p1), .int (p2), .int (p3)] : List Value).toArray s 0 0 A) (F0 m 123 ls [.long (s123_0), .int (18), .ref (ad 5)]) := by
    intro s123_0 c14g r88n hj hf0 hf1 hf2 hf3 hf4 hf5 H locs hP hD hS ls hl
    refine ms_5 (P := 18) (x := s123_0) hx hb hK hP hD hS rfl (by decide) d_M_widen_123 (fun H locs hP hD hS => ?_)
    obtain ⟨r123n, er123n⟩ : ∃ z, z = u5 r88n 18 s123_0 := ⟨_, rfl⟩
    rw [← er123n] at hP hD
    refine K123u c14g r123n (Eq.trans (hj.trans rfl) (congrArg (fun r123n => f_M_widen_123u r0 w0 s0 p1 p2 p3 c14g r123n) er123n.symm)) hf0 hf1 hf2 hf3 hf4 hf5 H locs ?_ ?_ hS ls (lv_sub hl [0, 1, 2, 3] rfl)
    · with_reducible exact hP
    · with_reducible exact hD
  have K88u : ∀ (c14g : Int32) (r88n : (Nat → VV)) (hj : f_M_widen r0 w0 s0 p1 p2 p3 = f_M_widen_88u r0 w0 s0 p1 p2 p3 c14g r88n) (hf0 : p1 = nI p1.toNatClampNeg) (hf1 : p1.toNatClampNeg < 16) (hf2 : p2 = nI p2.toNatClampNeg) (hf3 : p2.toNatClampNeg < 16) (hf4 : p3 = nI p3.toNatClampNeg) (hf5 : p3.toNatClampNeg < 16) (H : Heap) (locs : List Loc) (hP : va_P (dC, dI) classes (mW ad cJ cZ c14g r88n w0 s0) H) (hD : va_D A (mW ad cJ cZ c14g r88n w0 s0)) (hS : va_S A s.heap H locs) (ls : Array Slot) (hl : lv_has ls 4 [(0, .ref (ad 0)), (1, .int (p1)), (2, .int (p2)), (3, .int (p3))]), W p l e (headSpec w_M_widen ({ frames := 6, cells := 0, slots := 0, locals := 183 } : Room)).room s m ([.ref (ad 0), .int (p1), .int (p2), .int (p3)] : List Value).toArray below meth c H locs 0 0 (MQ below (va_Qv (fun _ : Unit => True) (mB (dC, dI) A (mW ad cJ cZ (f_M_widen r0 w0 s0 p1 p2 p3).1 (f_M_widen r0 w0 s0 p1 p2 p3).2.1 (f_M_widen r0 w0 s0 p1 p2 p3).2.2.1 (f_M_widen r0 w0 s0 p1 p2 p3).2.2.2)) A) ([.ref (ad 0), .int (p1), .int (p2), .int (p3)] : List Value).toArray s 0 0 A) (F0 m 89 ls []) := by
    intro c14g r88n hj hf0 hf1 hf2 hf3 hf4 hf5 H locs hP hD hS ls hl
    refine lv_aload_n hx hb d_M_widen_89 rfl (lv_at hl 0 rfl) ?_
    refine va_get (D := (dC, dI)) (ci := 2) (v := .ref (ad 5)) (C := R_M) (T := F_M) (N := 10) hx hb hts (fun w h => List.mem_cons_of_mem _ (uw_M w h)) hown hK hP 0 rfl rfl 5 (by decide) (hG (.fieldLink R_M 22 "ValueSieveModel" "least" "[J") gx14) (fun _ h9 => h9) rfl d_M_widen_90 ?_
    refine lv_bipush (v := 18) hx hb d_M_widen_93 (by decide) ?_
    refine lv_aload_n hx hb d_M_widen_95 rfl (lv_at hl 0 rfl) ?_
    refine va_get (D := (dC, dI)) (ci := 2) (v := .ref (ad 5)) (C := R_M) (T := F_M) (N := 10) hx hb hts (fun w h => List.mem_cons_of_mem _ (uw_M w h)) hown hK hP 0 rfl rfl 5 (by decide) (hG (.fieldLink R_M 22 "ValueSieveModel" "least" "[J") gx14) (fun _ h9 => h9) rfl d_M_widen_96 ?_
    refine lv_iload_n hx hb d_M_widen_99 rfl (lv_at hl 3 rfl) ?_
    refine top_i hf4 ?_
    refine ml_5 (P := p3.toNatClampNeg) hx hb hK hP rfl (Nat.lt_of_lt_of_le hf5 (by decide)) d_M_widen_100 ?_
    refine lv_aload_n hx hb d_M_widen_101 rfl (lv_at hl 0 rfl) ?_
    refine va_get (D := (dC, dI)) (ci := 2) (v := .ref (ad 5)) (C := R_M) (T := F_M) (N := 10) hx hb hts (fun w h => List.mem_cons_of_mem _ (uw_M w h)) hown hK hP 0 rfl rfl 5 (by decide) (hG (.fieldLink R_M 22 "ValueSieveModel" "least" "[J") gx14) (fun _ h9 => h9) rfl d_M_widen_102 ?_
    refine lv_iload_n hx hb d_M_widen_105 rfl (lv_at hl 2 rfl) ?_
    refine top_i hf2 ?_
    refine ml_5 (P := p2.toNatClampNeg) hx hb hK hP rfl (Nat.lt_of_lt_of_le hf3 (by decide)) d_M_widen_106 ?_
    refine wl_ge (tgt := 117) hx hb d_M_widen_107 d_M_widen_108 (by decide) (fun e1_117 => ?_) (fun e1_117 => ?_)
    · refine lv_aload_n hx hb d_M_widen_117 rfl (lv_at hl 0 rfl) ?_
      refine va_get (D := (dC, dI)) (ci := 2) (v := .ref (ad 5)) (C := R_M) (T := F_M) (N := 10) hx hb hts (fun w h => List.mem_cons_of_mem _ (uw_M w h)) hown hK hP 0 rfl rfl 5 (by decide) (hG (.fieldLink R_M 22 "ValueSieveModel" "least" "[J") gx14) (fun _ h9 => h9) rfl d_M_widen_118 ?_
      refine lv_iload_n hx hb d_M_widen_121 rfl (lv_at hl 2 rfl) ?_
      refine top_i hf2 ?_
      refine ml_5 (P := p2.toNatClampNeg) hx hb hK hP rfl (Nat.lt_of_lt_of_le hf3 (by decide)) d_M_widen_122 ?_
      refine K123 ((r88n p2.toNatClampNeg).2.2.2.2.1) c14g r88n (hj.trans (by unfold f_M_widen_88u; first | with_reducible exact if_neg e1_117 | exact if_neg e1_117)) hf0 hf1 hf2 hf3 hf4 hf5 H locs ?_ ?_ hS ls (lv_sub hl [0, 1, 2, 3] rfl)
      · with_reducible exact hP
      · with_reducible exact hD
    · refine lv_ldc2 (v := -9223372036854775808) hx hb hown (hG (.constantLong R_M 54 (-9223372036854775808)) gx43) d_M_widen_111 ?_
      refine lv_goto (tgt := 123) hx hb d_M_widen_114 (by decide) ?_
      refine K123 (-9223372036854775808) c14g r88n (hj.trans (by unfold f_M_widen_88u; first | with_reducible exact if_pos e1_117 | exact if_pos e1_117)) hf0 hf1 hf2 hf3 hf4 hf5 H locs ?_ ?_ hS ls (lv_sub hl [0, 1, 2, 3] rfl)
      · with_reducible exact hP
      · with_reducible exact hD
  have K88 : ∀ (s88_0 : Int64) (c14g : Int32) (r51n : (Nat → VV)) (hj : f_M_widen r0 w0 s0 p1 p2 p3 = f_M_widen_88 r0 w0 s0 p1 p2 p3 s88_0 c14g r51n) (hf0 : p1 = nI p1.toNatClampNeg) (hf1 : p1.toNatClampNeg < 16) (hf2 : p2 = nI p2.toNatClampNeg) (hf3 : p2.toNatClampNeg < 16) (hf4 : p3 = nI p3.toNatClampNeg) (hf5 : p3.toNatClampNeg < 16) (H : Heap) (locs : List Loc) (hP : va_P (dC, dI) classes (mW ad cJ cZ c14g r51n w0 s0) H) (hD : va_D A (mW ad cJ cZ c14g r51n w0 s0)) (hS : va_S A s.heap H locs) (ls : Array Slot) (hl : lv_has ls 4 [(0, .ref (ad 0)), (1, .int (p1)), (2, .int (p2)), (3, .int (p3))]), W p l e (headSpec w_M_widen ({ frames := 6, cells := 0, slots := 0, locals := 183 } : Room)).room s m ([.ref (ad 0), .int (p1), .int (p2), .int (p3)] : List Value).toArray below meth c H locs 0 0 (MQ below (va_Qv (fun _ : Unit => True) (mB (dC, dI) A (mW ad cJ cZ (f_M_widen r0 w0 s0 p1 p2 p3).1 (f_M_widen r0 w0 s0 p1 p2 p3).2.1 (f_M_widen r0 w0 s0 p1 p2 p3).2.2.1 (f_M_widen r0 w0 s0 p1 p2 p3).2.2.2)) A) ([.ref (ad 0), .int (p1), .int (p2), .int (p3)] : List Value).toArray s 0 0 A) (F0 m 88 ls [.long (s88_0), .int (18), .ref (ad 4)]) := by
    intro s88_0 c14g r51n hj hf0 hf1 hf2 hf3 hf4 hf5 H locs hP hD hS ls hl
    refine ms_4 (P := 18) (x := s88_0) hx hb hK hP hD hS rfl (by decide) d_M_widen_88 (fun H locs hP hD hS => ?_)
    obtain ⟨r88n, er88n⟩ : ∃ z, z = u4 r51n 18 s88_0 := ⟨_, rfl⟩
    rw [← er88n] at hP hD
    refine K88u c14g r88n (Eq.trans (hj.trans rfl) (congrArg (fun r88n => f_M_widen_88u r0 w0 s0 p1 p2 p3 c14g r88n) er88n.symm)) hf0 hf1 hf2 hf3 hf4 hf5 H locs ?_ ?_ hS ls (lv_sub hl [0, 1, 2, 3] rfl)
    · with_reducible exact hP
    · with_reducible exact hD
  have K51u : ∀ (c14g : Int32) (r51n : (Nat → VV)) (hj : f_M_widen r0 w0 s0 p1 p2 p3 = f_M_widen_51u r0 w0 s0 p1 p2 p3 c14g r51n) (hf0 : p1 = nI p1.toNatClampNeg) (hf1 : p1.toNatClampNeg < 16) (hf2 : p2 = nI p2.toNatClampNeg) (hf3 : p2.toNatClampNeg < 16) (hf4 : p3 = nI p3.toNatClampNeg) (hf5 : p3.toNatClampNeg < 16) (H : Heap) (locs : List Loc) (hP : va_P (dC, dI) classes (mW ad cJ cZ c14g r51n w0 s0) H) (hD : va_D A (mW ad cJ cZ c14g r51n w0 s0)) (hS : va_S A s.heap H locs) (ls : Array Slot) (hl : lv_has ls 4 [(0, .ref (ad 0)), (1, .int (p1)), (2, .int (p2)), (3, .int (p3))]), W p l e (headSpec w_M_widen ({ frames := 6, cells := 0, slots := 0, locals := 183 } : Room)).room s m ([.ref (ad 0), .int (p1), .int (p2), .int (p3)] : List Value).toArray below meth c H locs 0 0 (MQ below (va_Qv (fun _ : Unit => True) (mB (dC, dI) A (mW ad cJ cZ (f_M_widen r0 w0 s0 p1 p2 p3).1 (f_M_widen r0 w0 s0 p1 p2 p3).2.1 (f_M_widen r0 w0 s0 p1 p2 p3).2.2.1 (f_M_widen r0 w0 s0 p1 p2 p3).2.2.2)) A) ([.ref (ad 0), .int (p1), .int (p2), .int (p3)] : List Value).toArray s 0 0 A) (F0 m 52 ls []) := by
    intro c14g r51n hj hf0 hf1 hf2 hf3 hf4 hf5 H locs hP hD hS ls hl
    refine lv_aload_n hx hb d_M_widen_52 rfl (lv_at hl 0 rfl) ?_
    refine va_get (D := (dC, dI)) (ci := 2) (v := .ref (ad 4)) (C := R_M) (T := F_M) (N := 10) hx hb hts (fun w h => List.mem_cons_of_mem _ (uw_M w h)) hown hK hP 0 rfl rfl 4 (by decide) (hG (.fieldLink R_M 19 "ValueSieveModel" "high" "[J") gx13) (fun _ h9 => h9) rfl d_M_widen_53 ?_
    refine lv_bipush (v := 18) hx hb d_M_widen_56 (by decide) ?_
    refine lv_aload_n hx hb d_M_widen_58 rfl (lv_at hl 0 rfl) ?_
    refine va_get (D := (dC, dI)) (ci := 2) (v := .ref (ad 4)) (C := R_M) (T := F_M) (N := 10) hx hb hts (fun w h => List.mem_cons_of_mem _ (uw_M w h)) hown hK hP 0 rfl rfl 4 (by decide) (hG (.fieldLink R_M 19 "ValueSieveModel" "high" "[J") gx13) (fun _ h9 => h9) rfl d_M_widen_59 ?_
    refine lv_iload_n hx hb d_M_widen_62 rfl (lv_at hl 2 rfl) ?_
    refine top_i hf2 ?_
    refine ml_4 (P := p2.toNatClampNeg) hx hb hK hP rfl (Nat.lt_of_lt_of_le hf3 (by decide)) d_M_widen_63 ?_
    refine lv_aload_n hx hb d_M_widen_64 rfl (lv_at hl 0 rfl) ?_
    refine va_get (D := (dC, dI)) (ci := 2) (v := .ref (ad 4)) (C := R_M) (T := F_M) (N := 10) hx hb hts (fun w h => List.mem_cons_of_mem _ (uw_M w h)) hown hK hP 0 rfl rfl 4 (by decide) (hG (.fieldLink R_M 19 "ValueSieveModel" "high" "[J") gx13) (fun _ h9 => h9) rfl d_M_widen_65 ?_
    refine lv_iload_n hx hb d_M_widen_68 rfl (lv_at hl 3 rfl) ?_
    refine top_i hf4 ?_
    refine ml_4 (P := p3.toNatClampNeg) hx hb hK hP rfl (Nat.lt_of_lt_of_le hf5 (by decide)) d_M_widen_69 ?_
    refine rc_i (W.runS (As := [.long ((r51n p2.toNatClampNeg).2.2.2.1), .long ((r51n p3.toNatClampNeg).2.2.2.1)]) (rest := [.int (18), .ref (ad 4)]) ⟨hx, hb, hml, hown, hts⟩ (c_M_below l ((r51n p2.toNatClampNeg).2.2.2.1) ((r51n p3.toNatClampNeg).2.2.2.1)) (va_cwS 2 hts (gxS gx57 gx58 gx0 gx59) rfl rfl rfl (by decide +kernel) ⟨(Nat.le_of_ble_eq_true rfl), (Nat.le_of_ble_eq_true rfl)⟩) ⟨bl0, fun U hU hW => ⟨rfl, trivial⟩⟩ rfl rfl hl.1 rfl (lv_room (Nat.le_of_ble_eq_true rfl)) d_M_widen_70 ⟨Nat.zero_le _, Nat.zero_le _⟩) ?_
    refine wz_eq (tgt := 82) hx hb d_M_widen_73 (by decide) (fun e1_82 => ?_) (fun e1_82 => ?_)
    · refine lv_aload_n hx hb d_M_widen_82 rfl (lv_at hl 0 rfl) ?_
      refine va_get (D := (dC, dI)) (ci := 2) (v := .ref (ad 4)) (C := R_M) (T := F_M) (N := 10) hx hb hts (fun w h => List.mem_cons_of_mem _ (uw_M w h)) hown hK hP 0 rfl rfl 4 (by decide) (hG (.fieldLink R_M 19 "ValueSieveModel" "high" "[J") gx13) (fun _ h9 => h9) rfl d_M_widen_83 ?_
      refine lv_iload_n hx hb d_M_widen_86 rfl (lv_at hl 2 rfl) ?_
      refine top_i hf2 ?_
      refine ml_4 (P := p2.toNatClampNeg) hx hb hK hP rfl (Nat.lt_of_lt_of_le hf3 (by decide)) d_M_widen_87 ?_
      refine K88 ((r51n p2.toNatClampNeg).2.2.2.1) c14g r51n (hj.trans (by unfold f_M_widen_51u; first | with_reducible exact if_neg e1_82 | exact if_neg e1_82)) hf0 hf1 hf2 hf3 hf4 hf5 H locs ?_ ?_ hS ls (lv_sub hl [0, 1, 2, 3] rfl)
      · with_reducible exact hP
      · with_reducible exact hD
    · refine lv_ldc2 (v := -1) hx hb hown (hG (.constantLong R_M 49 (-1)) gx42) d_M_widen_76 ?_
      refine lv_goto (tgt := 88) hx hb d_M_widen_79 (by decide) ?_
      refine K88 (-1) c14g r51n (hj.trans (by unfold f_M_widen_51u; first | with_reducible exact if_pos e1_82 | exact if_pos e1_82)) hf0 hf1 hf2 hf3 hf4 hf5 H locs ?_ ?_ hS ls (lv_sub hl [0, 1, 2, 3] rfl)
      · with_reducible exact hP
      · with_reducible exact hD
  have K51 : ∀ (s51_0 : Int64) (c14g : Int32) (g14 : (Nat → VV)) (hj : f_M_widen r0 w0 s0 p1 p2 p3 = f_M_widen_51 r0 w0 s0 p1 p2 p3 s51_0 c14g g14) (hf0 : p1 = nI p1.toNatClampNeg) (hf1 : p1.toNatClampNeg < 16) (hf2 : p2 = nI p2.toNatClampNeg) (hf3 : p2.toNatClampNeg < 16) (hf4 : p3 = nI p3.toNatClampNeg) (hf5 : p3.toNatClampNeg < 16) (H : Heap) (locs : List Loc) (hP : va_P (dC, dI) classes (mW ad cJ cZ c14g g14 w0 s0) H) (hD : va_D A (mW ad cJ cZ c14g g14 w0 s0)) (hS : va_S A s.heap H locs) (ls : Array Slot) (hl : lv_has ls 4 [(0, .ref (ad 0)), (1, .int (p1)), (2, .int (p2)), (3, .int (p3))]), W p l e (headSpec w_M_widen ({ frames := 6, cells := 0, slots := 0, locals := 183 } : Room)).room s m ([.ref (ad 0), .int (p1), .int (p2), .int (p3)] : List Value).toArray below meth c H locs 0 0 (MQ below (va_Qv (fun _ : Unit => True) (mB (dC, dI) A (mW ad cJ cZ (f_M_widen r0 w0 s0 p1 p2 p3).1 (f_M_widen r0 w0 s0 p1 p2 p3).2.1 (f_M_widen r0 w0 s0 p1 p2 p3).2.2.1 (f_M_widen r0 w0 s0 p1 p2 p3).2.2.2)) A) ([.ref (ad 0), .int (p1), .int (p2), .int (p3)] : List Value).toArray s 0 0 A) (F0 m 51 ls [.long (s51_0), .int (18), .ref (ad 3)]) := by
    intro s51_0 c14g g14 hj hf0 hf1 hf2 hf3 hf4 hf5 H locs hP hD hS ls hl
    refine ms_3 (P := 18) (x := s51_0) hx hb hK hP hD hS rfl (by decide) d_M_widen_51 (fun H locs hP hD hS => ?_)
    obtain ⟨r51n, er51n⟩ : ∃ z, z = u3 g14 18 s51_0 := ⟨_, rfl⟩
    rw [← er51n] at hP hD
    refine K51u c14g r51n (Eq.trans (hj.trans rfl) (congrArg (fun r51n => f_M_widen_51u r0 w0 s0 p1 p2 p3 c14g r51n) er51n.symm)) hf0 hf1 hf2 hf3 hf4 hf5 H locs ?_ ?_ hS ls (lv_sub hl [0, 1, 2, 3] rfl)
    · with_reducible exact hP
    · with_reducible exact hD
  have K14g : ∀ (c14g : Int32) (g14 : (Nat → VV)) (hj : f_M_widen r0 w0 s0 p1 p2 p3 = f_M_widen_14g r0 w0 s0 p1 p2 p3 c14g g14) (hf0 : p1 = nI p1.toNatClampNeg) (hf1 : p1.toNatClampNeg < 16) (hf2 : p2 = nI p2.toNatClampNeg) (hf3 : p2.toNatClampNeg < 16) (hf4 : p3 = nI p3.toNatClampNeg) (hf5 : p3.toNatClampNeg < 16) (H : Heap) (locs : List Loc) (hP : va_P (dC, dI) classes (mW ad cJ cZ c14g g14 w0 s0) H) (hD : va_D A (mW ad cJ cZ c14g g14 w0 s0)) (hS : va_S A s.heap H locs) (ls : Array Slot) (hl : lv_has ls 4 [(0, .ref (ad 0)), (1, .int (p1)), (2, .int (p2)), (3, .int (p3))]), W p l e (headSpec w_M_widen ({ frames := 6, cells := 0, slots := 0, locals := 183 } : Room)).room s m ([.ref (ad 0), .int (p1), .int (p2), .int (p3)] : List Value).toArray below meth c H locs 0 0 (MQ below (va_Qv (fun _ : Unit => True) (mB (dC, dI) A (mW ad cJ cZ (f_M_widen r0 w0 s0 p1 p2 p3).1 (f_M_widen r0 w0 s0 p1 p2 p3).2.1 (f_M_widen r0 w0 s0 p1 p2 p3).2.2.1 (f_M_widen r0 w0 s0 p1 p2 p3).2.2.2)) A) ([.ref (ad 0), .int (p1), .int (p2), .int (p3)] : List Value).toArray s 0 0 A) (F0 m 17 ls []) := by
    intro c14g g14 hj hf0 hf1 hf2 hf3 hf4 hf5 H locs hP hD hS ls hl
    refine lv_aload_n hx hb d_M_widen_17 rfl (lv_at hl 0 rfl) ?_
    refine va_get (D := (dC, dI)) (ci := 2) (v := .ref (ad 3)) (C := R_M) (T := F_M) (N := 10) hx hb hts (fun w h => List.mem_cons_of_mem _ (uw_M w h)) hown hK hP 0 rfl rfl 3 (by decide) (hG (.fieldLink R_M 16 "ValueSieveModel" "low" "[J") gx12) (fun _ h9 => h9) rfl d_M_widen_18 ?_
    refine lv_bipush (v := 18) hx hb d_M_widen_21 (by decide) ?_
    refine lv_aload_n hx hb d_M_widen_23 rfl (lv_at hl 0 rfl) ?_
    refine va_get (D := (dC, dI)) (ci := 2) (v := .ref (ad 3)) (C := R_M) (T := F_M) (N := 10) hx hb hts (fun w h => List.mem_cons_of_mem _ (uw_M w h)) hown hK hP 0 rfl rfl 3 (by decide) (hG (.fieldLink R_M 16 "ValueSieveModel" "low" "[J") gx12) (fun _ h9 => h9) rfl d_M_widen_24 ?_
    refine lv_iload_n hx hb d_M_widen_27 rfl (lv_at hl 3 rfl) ?_
    refine top_i hf4 ?_
    refine ml_3 (P := p3.toNatClampNeg) hx hb hK hP rfl (Nat.lt_of_lt_of_le hf5 (by decide)) d_M_widen_28 ?_
    refine lv_aload_n hx hb d_M_widen_29 rfl (lv_at hl 0 rfl) ?_
    refine va_get (D := (dC, dI)) (ci := 2) (v := .ref (ad 3)) (C := R_M) (T := F_M) (N := 10) hx hb hts (fun w h => List.mem_cons_of_mem _ (uw_M w h)) hown hK hP 0 rfl rfl 3 (by decide) (hG (.fieldLink R_M 16 "ValueSieveModel" "low" "[J") gx12) (fun _ h9 => h9) rfl d_M_widen_30 ?_
    refine lv_iload_n hx hb d_M_widen_33 rfl (lv_at hl 2 rfl) ?_
    refine top_i hf2 ?_
    refine ml_3 (P := p2.toNatClampNeg) hx hb hK hP rfl (Nat.lt_of_lt_of_le hf3 (by decide)) d_M_widen_34 ?_
    refine rc_i (W.runS (As := [.long ((g14 p3.toNatClampNeg).2.2.1), .long ((g14 p2.toNatClampNeg).2.2.1)]) (rest := [.int (18), .ref (ad 3)]) ⟨hx, hb, hml, hown, hts⟩ (c_M_below l ((g14 p3.toNatClampNeg).2.2.1) ((g14 p2.toNatClampNeg).2.2.1)) (va_cwS 2 hts (gxS gx57 gx58 gx0 gx59) rfl rfl rfl (by decide +kernel) ⟨(Nat.le_of_ble_eq_true rfl), (Nat.le_of_ble_eq_true rfl)⟩) ⟨bl0, fun U hU hW => ⟨rfl, trivial⟩⟩ rfl rfl hl.1 rfl (lv_room (Nat.le_of_ble_eq_true rfl)) d_M_widen_35 ⟨Nat.zero_le _, Nat.zero_le _⟩) ?_
    refine wz_eq (tgt := 45) hx hb d_M_widen_38 (by decide) (fun e1_45 => ?_) (fun e1_45 => ?_)
    · refine lv_aload_n hx hb d_M_widen_45 rfl (lv_at hl 0 rfl) ?_
      refine va_get (D := (dC, dI)) (ci := 2) (v := .ref (ad 3)) (C := R_M) (T := F_M) (N := 10) hx hb hts (fun w h => List.mem_cons_of_mem _ (uw_M w h)) hown hK hP 0 rfl rfl 3 (by decide) (hG (.fieldLink R_M 16 "ValueSieveModel" "low" "[J") gx12) (fun _ h9 => h9) rfl d_M_widen_46 ?_
      refine lv_iload_n hx hb d_M_widen_49 rfl (lv_at hl 2 rfl) ?_
      refine top_i hf2 ?_
      refine ml_3 (P := p2.toNatClampNeg) hx hb hK hP rfl (Nat.lt_of_lt_of_le hf3 (by decide)) d_M_widen_50 ?_
      refine K51 ((g14 p2.toNatClampNeg).2.2.1) c14g g14 (hj.trans (by unfold f_M_widen_14g; first | with_reducible exact if_neg e1_45 | exact if_neg e1_45)) hf0 hf1 hf2 hf3 hf4 hf5 H locs ?_ ?_ hS ls (lv_sub hl [0, 1, 2, 3] rfl)
      · with_reducible exact hP
      · with_reducible exact hD
    · refine lv_lconst (v := 0) hx hb d_M_widen_41 (by decide) ?_
      refine lv_goto (tgt := 51) hx hb d_M_widen_42 (by decide) ?_
      refine K51 0 c14g g14 (hj.trans (by unfold f_M_widen_14g; first | with_reducible exact if_pos e1_45 | exact if_pos e1_45)) hf0 hf1 hf2 hf3 hf4 hf5 H locs ?_ ?_ hS ls (lv_sub hl [0, 1, 2, 3] rfl)
      · with_reducible exact hP
      · with_reducible exact hD
  have K4g : ∀ (g4 : Bool × Int32) (hj : f_M_widen r0 w0 s0 p1 p2 p3 = f_M_widen_4g r0 w0 s0 p1 p2 p3 g4) (hf0 : npF g4.1 p1 p2 p3) (H : Heap) (locs : List Loc) (hP : va_P (dC, dI) classes (mW ad cJ cZ g4.2 r0 w0 s0) H) (hD : va_D A (mW ad cJ cZ g4.2 r0 w0 s0)) (hS : va_S A s.heap H locs) (ls : Array Slot) (hl : lv_has ls 4 [(0, .ref (ad 0)), (1, .int (p1)), (2, .int (p2)), (3, .int (p3))]), W p l e (headSpec w_M_widen ({ frames := 6, cells := 0, slots := 0, locals := 183 } : Room)).room s m ([.ref (ad 0), .int (p1), .int (p2), .int (p3)] : List Value).toArray below meth c H locs 0 0 (MQ below (va_Qv (fun _ : Unit => True) (mB (dC, dI) A (mW ad cJ cZ (f_M_widen r0 w0 s0 p1 p2 p3).1 (f_M_widen r0 w0 s0 p1 p2 p3).2.1 (f_M_widen r0 w0 s0 p1 p2 p3).2.2.1 (f_M_widen r0 w0 s0 p1 p2 p3).2.2.2)) A) ([.ref (ad 0), .int (p1), .int (p2), .int (p3)] : List Value).toArray s 0 0 A) (F0 m 7 ls [.int (bI g4.1)]) := by
    intro g4 hj hf0 H locs hP hD hS ls hl
    refine wz_eq (tgt := 11) hx hb d_M_widen_7 (by decide) (fun e1_11 => ?_) (fun e1_11 => ?_)
    · obtain ⟨⟨i1, j1⟩, ⟨i2, j2⟩, ⟨i3, j3⟩⟩ := npF_of hf0 e1_11
      refine lv_aload_n hx hb d_M_widen_11 rfl (lv_at hl 0 rfl) ?_
      refine lv_iload_n hx hb d_M_widen_12 rfl (lv_at hl 2 rfl) ?_
      refine top_i i2 ?_
      refine lv_iload_n hx hb d_M_widen_13 rfl (lv_at hl 3 rfl) ?_
      refine top_i i3 ?_
      refine mm_v (F := f_M_joinBits r0 p2.toNatClampNeg p3.toNatClampNeg) (w1 := fun g14 => (mW ad cJ cZ g4.2 g14 w0 s0)) (va_runV (As := [.int (nI p2.toNatClampNeg), .int (nI p3.toNatClampNeg)]) (rest := []) ⟨hx, hb, hml, hown, hts⟩ (c_M_joinBits l dC dI ad cJ cZ H.size g4.2 r0 w0 s0 p2.toNatClampNeg p3.toNatClampNeg (Nat.lt_of_lt_of_le j2 (by decide)) (Nat.lt_of_lt_of_le j3 (by decide))) (cwV 2 hts (gxV gx201 gx202 gx298 gx0 gx203) rfl rfl rfl (by decide +kernel) ⟨(Nat.le_of_ble_eq_true rfl), (Nat.le_of_ble_eq_true rfl)⟩) ⟨blp, va_recv hK hP (ci := 2) (q0 := 0) rfl rfl, fun U hU hW => ⟨rfl, by rw [hU], by rw [hU]; exact hP, va_K.moved hW.alike hK, hD.weaken (fun _ _ _ _ => trivial)⟩⟩ rfl rfl hl.1 rfl (lv_room (Nat.le_of_ble_eq_true rfl)) d_M_widen_14 ⟨Nat.zero_le _, Nat.zero_le _⟩) hD hS hA (fun g14 eg14 H locs hP hD hS => ?_)
      refine K14g g4.2 g14 (Eq.trans (hj.trans (by unfold f_M_widen_4g; first | with_reducible exact if_neg e1_11 | exact if_neg e1_11)) (congrArg (fun g14 => f_M_widen_14g r0 w0 s0 p1 p2 p3 g4.2 g14) eg14)) i1 j1 i2 j2 i3 j3 H locs ?_ ?_ hS ls (lv_sub hl [0, 1, 2, 3] rfl)
      · with_reducible exact hP
      · with_reducible exact hD
    · have fe : f_M_widen r0 w0 s0 p1 p2 p3 = (g4.2, r0, w0, s0) := hj.trans (by unfold f_M_widen_4g; first | with_reducible exact if_pos e1_11 | exact if_pos e1_11)
      exact W.vret hx hb hr (fun t ht hW => ⟨⟨(), rfl, trivial, by rw [ht, fe]; exact hP, by rw [fe]; exact hD⟩, hS.F ht⟩) hS.2.2 d_M_widen_10
  refine lv_aload_n hx hb d_M_widen_0 rfl (lv_at hl 0 rfl) ?_
  refine lv_iload_n hx hb d_M_widen_1 rfl (lv_at hl 1 rfl) ?_
  refine lv_iload_n hx hb d_M_widen_2 rfl (lv_at hl 2 rfl) ?_
  refine lv_iload_n hx hb d_M_widen_3 rfl (lv_at hl 3 rfl) ?_
  refine mm_z (F := f_M_noPlace p1 p2 p3) (w1 := fun g4 => (mW ad cJ cZ g4.2 r0 w0 s0)) (va_runV (As := [.int (p1), .int (p2), .int (p3)]) (rest := []) ⟨hx, hb, hml, hown, hts⟩ (c_M_noPlace l dC dI ad cJ cZ s.heap.size c0 r0 w0 s0 p1 p2 p3) (cwV 3 hts (gxV gx36 gx37 gx276 gx0 gx38) rfl rfl rfl (by decide +kernel) ⟨(Nat.le_of_ble_eq_true rfl), (Nat.le_of_ble_eq_true rfl)⟩) ⟨blp, va_recv hK hP (ci := 2) (q0 := 0) rfl rfl, fun U hU hW => ⟨rfl, by rw [hU], by rw [hU]; exact hP, va_K.moved hW.alike hK, hD.weaken (fun _ _ _ _ => trivial)⟩⟩ rfl rfl hl.1 rfl (lv_room (Nat.le_of_ble_eq_true rfl)) d_M_widen_4 ⟨Nat.zero_le _, Nat.zero_le _⟩) hD hS hA (fun g4 eg4 H locs hP hD hS => ?_)
  have hpg4 := np_ok eg4
  refine K4g g4 (Eq.trans (rfl) (congrArg (fun g4 => f_M_widen_4g r0 w0 s0 p1 p2 p3 g4) eg4)) hpg4 H locs ?_ ?_ hS ls (lv_sub hl [0, 1, 2, 3] rfl)
  · with_reducible exact hP
  · with_reducible exact hD
-- branch
theorem d_M_branch_0 : decode b_M_branch 0 = .ok (.aload_n 0, 1) := by decide +kernel
theorem d_M_branch_1 : decode b_M_branch 1 = .ok (.iload_n 1, 1) := by decide +kernel
theorem d_M_branch_2 : decode b_M_branch 2 = .ok (.iload_n 2, 1) := by decide +kernel
theorem d_M_branch_3 : decode b_M_branch 3 = .ok (.iload_n 3, 1) := by decide +kernel
theorem d_M_branch_4 : decode b_M_branch 4 = .ok (.invokevirtual 236, 3) := by decide +kernel
theorem d_M_branch_7 : decode b_M_branch 7 = .ok (.ifCond .eq 5, 3) := by decide +kernel
theorem d_M_branch_10 : decode b_M_branch 10 = .ok (.iconst 0, 1) := by decide +kernel
theorem d_M_branch_11 : decode b_M_branch 11 = .ok (.ireturn, 1) := by decide +kernel
theorem d_M_branch_12 : decode b_M_branch 12 = .ok (.iload_n 1, 1) := by decide +kernel
theorem d_M_branch_13 : decode b_M_branch 13 = .ok (.aload_n 0, 1) := by decide +kernel
theorem d_M_branch_14 : decode b_M_branch 14 = .ok (.getfield 32, 3) := by decide +kernel
theorem d_M_branch_17 : decode b_M_branch 17 = .ok (.iload_n 2, 1) := by decide +kernel
theorem d_M_branch_18 : decode b_M_branch 18 = .ok (.laload, 1) := by decide +kernel
theorem d_M_branch_19 : decode b_M_branch 19 = .ok (.aload_n 0, 1) := by decide +kernel
theorem d_M_branch_20 : decode b_M_branch 20 = .ok (.getfield 32, 3) := by decide +kernel
theorem d_M_branch_23 : decode b_M_branch 23 = .ok (.iload_n 3, 1) := by decide +kernel
theorem d_M_branch_24 : decode b_M_branch 24 = .ok (.laload, 1) := by decide +kernel
theorem d_M_branch_25 : decode b_M_branch 25 = .ok (.invokestatic 239, 3) := by decide +kernel
theorem d_M_branch_28 : decode b_M_branch 28 = .ok (.istore 4, 2) := by decide +kernel
theorem d_M_branch_30 : decode b_M_branch 30 = .ok (.aload_n 0, 1) := by decide +kernel
theorem d_M_branch_31 : decode b_M_branch 31 = .ok (.iload 4, 2) := by decide +kernel
theorem d_M_branch_33 : decode b_M_branch 33 = .ok (.ifCond .eq 7, 3) := by decide +kernel
theorem d_M_branch_36 : decode b_M_branch 36 = .ok (.iload_n 1, 1) := by decide +kernel
theorem d_M_branch_37 : decode b_M_branch 37 = .ok (.goto 7, 3) := by decide +kernel
theorem d_M_branch_40 : decode b_M_branch 40 = .ok (.iload_n 1, 1) := by decide +kernel
theorem d_M_branch_41 : decode b_M_branch 41 = .ok (.invokestatic 242, 3) := by decide +kernel
theorem d_M_branch_44 : decode b_M_branch 44 = .ok (.iload_n 2, 1) := by decide +kernel
theorem d_M_branch_45 : decode b_M_branch 45 = .ok (.iload_n 3, 1) := by decide +kernel
theorem d_M_branch_46 : decode b_M_branch 46 = .ok (.invokevirtual 246, 3) := by decide +kernel
theorem d_M_branch_49 : decode b_M_branch 49 = .ok (.pop, 1) := by decide +kernel
theorem d_M_branch_50 : decode b_M_branch 50 = .ok (.aload_n 0, 1) := by decide +kernel
theorem d_M_branch_51 : decode b_M_branch 51 = .ok (.iload_n 2, 1) := by decide +kernel
theorem d_M_branch_52 : decode b_M_branch 52 = .ok (.bipush 16, 2) := by decide +kernel
theorem d_M_branch_54 : decode b_M_branch 54 = .ok (.aload_n 0, 1) := by decide +kernel
theorem d_M_branch_55 : decode b_M_branch 55 = .ok (.getfield 32, 3) := by decide +kernel
theorem d_M_branch_58 : decode b_M_branch 58 = .ok (.iload_n 2, 1) := by decide +kernel
theorem d_M_branch_59 : decode b_M_branch 59 = .ok (.laload, 1) := by decide +kernel
theorem d_M_branch_60 : decode b_M_branch 60 = .ok (.invokevirtual 105, 3) := by decide +kernel
theorem d_M_branch_63 : decode b_M_branch 63 = .ok (.aload_n 0, 1) := by decide +kernel
theorem d_M_branch_64 : decode b_M_branch 64 = .ok (.iload_n 3, 1) := by decide +kernel
theorem d_M_branch_65 : decode b_M_branch 65 = .ok (.bipush 17, 2) := by decide +kernel
theorem d_M_branch_67 : decode b_M_branch 67 = .ok (.aload_n 0, 1) := by decide +kernel
theorem d_M_branch_68 : decode b_M_branch 68 = .ok (.getfield 32, 3) := by decide +kernel
theorem d_M_branch_71 : decode b_M_branch 71 = .ok (.iload_n 3, 1) := by decide +kernel
theorem d_M_branch_72 : decode b_M_branch 72 = .ok (.laload, 1) := by decide +kernel
theorem d_M_branch_73 : decode b_M_branch 73 = .ok (.invokevirtual 105, 3) := by decide +kernel
theorem d_M_branch_76 : decode b_M_branch 76 = .ok (.iload 4, 2) := by decide +kernel
theorem d_M_branch_78 : decode b_M_branch 78 = .ok (.ireturn, 1) := by decide +kernel
def f_M_branch_73g (r0 : (Nat → VV)) (w0 : (Nat → Int64)) (s0 : Int32) (p1 : Int32) (p2 : Int32) (p3 : Int32) (v28 : Bool) (c28v : Int32) (g73 : (Nat → VV) × (Nat → Int64) × Int32) : Bool × Int32 × (Nat → VV) × (Nat → Int64) × Int32 := (v28, c28v, g73.1, g73.2.1, g73.2.2)
def f_M_branch_60g (r0 : (Nat → VV)) (w0 : (Nat → Int64)) (s0 : Int32) (p1 : Int32) (p2 : Int32) (p3 : Int32) (v28 : Bool) (c28v : Int32) (g60 : (Nat → VV) × (Nat → Int64) × Int32) : Bool × Int32 × (Nat → VV) × (Nat → Int64) × Int32 := f_M_branch_73g r0 w0 s0 p1 p2 p3 v28 c28v (f_M_put g60.1 g60.2.1 g60.2.2 p3.toNatClampNeg 17 (g60.2.1 p3.toNatClampNeg))
def f_M_branch_46g (r0 : (Nat → VV)) (w0 : (Nat → Int64)) (s0 : Int32) (p1 : Int32) (p2 : Int32) (p3 : Int32) (v28 : Bool) (c28v : Int32) (g46 : Bool × (Nat → VV)) : Bool × Int32 × (Nat → VV) × (Nat → Int64) × Int32 := f_M_branch_60g r0 w0 s0 p1 p2 p3 v28 c28v (f_M_put g46.2 w0 s0 p2.toNatClampNeg 16 (w0 p2.toNatClampNeg))
def f_M_branch_44 (r0 : (Nat → VV)) (w0 : (Nat → Int64)) (s0 : Int32) (p1 : Int32) (p2 : Int32) (p3 : Int32) (v28 : Bool) (s44_0 : Int32) (c28v : Int32) : Bool × Int32 × (Nat → VV) × (Nat → Int64) × Int32 := f_M_branch_46g r0 w0 s0 p1 p2 p3 v28 c28v (f_M_canBe r0 s44_0 p2.toNatClampNeg p3.toNatClampNeg)
def f_M_branch_28v (r0 : (Nat → VV)) (w0 : (Nat → Int64)) (s0 : Int32) (p1 : Int32) (p2 : Int32) (p3 : Int32) (v28 : Bool) (c28v : Int32) : Bool × Int32 × (Nat → VV) × (Nat → Int64) × Int32 := (if v28 = true then f_M_branch_44 r0 w0 s0 p1 p2 p3 v28 p1 c28v else f_M_branch_44 r0 w0 s0 p1 p2 p3 v28 (f_M_opposite p1) c28v)
def f_M_branch_4g (r0 : (Nat → VV)) (w0 : (Nat → Int64)) (s0 : Int32) (p1 : Int32) (p2 : Int32) (p3 : Int32) (g4 : Bool × Int32) : Bool × Int32 × (Nat → VV) × (Nat → Int64) × Int32 := (if g4.1 = true then (false, g4.2, r0, w0, s0) else f_M_branch_28v r0 w0 s0 p1 p2 p3 (f_M_isSo p1 (w0 p2.toNatClampNeg) (w0 p3.toNatClampNeg)) g4.2)
def f_M_branch (r0 : (Nat → VV)) (w0 : (Nat → Int64)) (s0 : Int32) (p1 : Int32) (p2 : Int32) (p3 : Int32) : Bool × Int32 × (Nat → VV) × (Nat → Int64) × Int32 := f_M_branch_4g r0 w0 s0 p1 p2 p3 (f_M_noComparison p1 p2 p3)
set_option maxRecDepth 100000 in
set_option maxHeartbeats 4000000 in
theorem c_M_branch (l : Launch) (dC : Nat → ClassId) (dI : Nat → Nat → Nat) (ad : Nat → Nat) (cJ cZ : ClassId) (sz : Nat) (c0 : Int32) (r0 : (Nat → VV)) (w0 : (Nat → Int64)) (s0 : Int32) (p1 : Int32) (p2 : Int32) (p3 : Int32) : Met l y_M_branch w_M_branch ({ frames := 8, cells := 0, slots := 0, locals := 227 } : Room) (va_Pc [.ref (ad 0), .int (p1), .int (p2), .int (p3)] (nP (dC, dI) (mT cJ cZ) (mW ad cJ cZ c0 r0 w0 s0) sz)) (va_Qi (fun r (_ : Unit) => r = bI (f_M_branch r0 w0 s0 p1 p2 p3).1) (mB (dC, dI) (va_A (mW ad cJ cZ c0 r0 w0 s0) sz) (mW ad cJ cZ (f_M_branch r0 w0 s0 p1 p2 p3).2.1 (f_M_branch r0 w0 s0 p1 p2 p3).2.2.1 (f_M_branch r0 w0 s0 p1 p2 p3).2.2.2.1 (f_M_branch r0 w0 s0 p1 p2 p3).2.2.2.2)) (va_A (mW ad cJ cZ c0 r0 w0 s0) sz)) 0 0 (va_A (mW ad cJ cZ c0 r0 w0 s0) sz) := by
  refine Met.ofW (cc := b_M_branch) (maxL := 5) (ret := (some .boolean)) (by decide) rfl ?_
  intro p e s m args below meth c s₁ B hml hv
  obtain ⟨rfl, hsz, hP, hK, hD0⟩ := hv
  have hx := B.exec
  have hb := B.bytes
  have hr := B.returns
  have hts := atoms_spec (ws := w_M_branch) B.pre
  have hG : ∀ w ∈ gM, w.before _ s = true := fun w h => hts w (List.mem_cons_of_mem _ h)
  have hown : s.vm.findClass R_M = some m.cls := findClass_of_methodNamed B.named
  have hlocks := B.notSynchronized
  subst hsz
  have hD := hD0.self (sz := s.heap.size)
  generalize hAe : va_A (mW ad cJ cZ c0 r0 w0 s0) s.heap.size = A at hD ⊢
  have hA : ∀ q : Nat, s.heap.size ≤ q → A q := fun q h => by rw [← hAe]; exact Or.inr h
  have hS : va_S A s.heap s.heap [] := va_S.rf
  have hl := lv_entry ([.ref (ad 0), .int (p1), .int (p2), .int (p3)]) (n := 5) (Nat.le_of_ble_eq_true rfl)
  rw [lg_entry_eq]
  generalize (lg_sl ([.ref (ad 0), .int (p1), .int (p2), .int (p3)]) ++ List.replicate (5 - (lg_sl ([.ref (ad 0), .int (p1), .int (p2), .int (p3)])).length) Slot.unset).toArray = ls at hl ⊢
  have hl : lv_has ls 5 [(0, .ref (ad 0)), (1, .int (p1)), (2, .int (p2)), (3, .int (p3))] := hl
  have K73g : ∀ (v28 : Bool) (c28v : Int32) (g73 : (Nat → VV) × (Nat → Int64) × Int32) (hj : f_M_branch r0 w0 s0 p1 p2 p3 = f_M_branch_73g r0 w0 s0 p1 p2 p3 v28 c28v g73) (hf0 : p2 = nI p2.toNatClampNeg) (hf1 : p2.toNatClampNeg < 16) (hf2 : p3 = nI p3.toNatClampNeg) (hf3 : p3.toNatClampNeg < 16) (H : Heap) (locs : List Loc) (hP : va_P (dC, dI) classes (mW ad cJ cZ c28v g73.1 g73.2.1 g73.2.2) H) (hD : va_D A (mW ad cJ cZ c28v g73.1 g73.2.1 g73.2.2)) (hS : va_S A s.heap H locs) (ls : Array Slot) (hl : lv_has ls 5 [(4, .int (bI v28))]), W p l e (headSpec w_M_branch ({ frames := 8, cells := 0, slots := 0, locals := 227 } : Room)).room s m ([.ref (ad 0), .int (p1), .int (p2), .int (p3)] : List Value).toArray below meth c H locs 0 0 (MQ below (va_Qi (fun r (_ : Unit) => r = bI (f_M_branch r0 w0 s0 p1 p2 p3).1) (mB (dC, dI) A (mW ad cJ cZ (f_M_branch r0 w0 s0 p1 p2 p3).2.1 (f_M_branch r0 w0 s0 p1 p2 p3).2.2.1 (f_M_branch r0 w0 s0 p1 p2 p3).2.2.2.1 (f_M_branch r0 w0 s0 p1 p2 p3).2.2.2.2)) A) ([.ref (ad 0), .int (p1), .int (p2), .int (p3)] : List Value).toArray s 0 0 A) (F0 m 76 ls []) := by
    intro v28 c28v g73 hj hf0 hf1 hf2 hf3 H locs hP hD hS ls hl
    refine lv_iload hx hb d_M_branch_76 (lv_at hl 0 rfl) ?_
    have fe : f_M_branch r0 w0 s0 p1 p2 p3 = (v28, c28v, g73.1, g73.2.1, g73.2.2) := hj.trans rfl
    exact W.zret (v := bI v28) hx hb hr (bI_n v28) (fun t ht hW => ⟨⟨_, (), rfl, by rw [fe], by rw [ht, fe]; exact hP, by rw [fe]; exact hD⟩, hS.F ht⟩) hS.2.2 d_M_branch_78
  have K60g : ∀ (v28 : Bool) (c28v : Int32) (g60 : (Nat → VV) × (Nat → Int64) × Int32) (hj : f_M_branch r0 w0 s0 p1 p2 p3 = f_M_branch_60g r0 w0 s0 p1 p2 p3 v28 c28v g60) (hf0 : p2 = nI p2.toNatClampNeg) (hf1 : p2.toNatClampNeg < 16) (hf2 : p3 = nI p3.toNatClampNeg) (hf3 : p3.toNatClampNeg < 16) (H : Heap) (locs : List Loc) (hP : va_P (dC, dI) classes (mW ad cJ cZ c28v g60.1 g60.2.1 g60.2.2) H) (hD : va_D A (mW ad cJ cZ c28v g60.1 g60.2.1 g60.2.2)) (hS : va_S A s.heap H locs) (ls : Array Slot) (hl : lv_has ls 5 [(4, .int (bI v28)), (0, .ref (ad 0)), (3, .int (p3))]), W p l e (headSpec w_M_branch ({ frames := 8, cells := 0, slots := 0, locals := 227 } : Room)).room s m ([.ref (ad 0), .int (p1), .int (p2), .int (p3)] : List Value).toArray below meth c H locs 0 0 (MQ below (va_Qi (fun r (_ : Unit) => r = bI (f_M_branch r0 w0 s0 p1 p2 p3).1) (mB (dC, dI) A (mW ad cJ cZ (f_M_branch r0 w0 s0 p1 p2 p3).2.1 (f_M_branch r0 w0 s0 p1 p2 p3).2.2.1 (f_M_branch r0 w0 s0 p1 p2 p3).2.2.2.1 (f_M_branch r0 w0 s0 p1 p2 p3).2.2.2.2)) A) ([.ref (ad 0), .int (p1), .int (p2), .int (p3)] : List Value).toArray s 0 0 A) (F0 m 63 ls []) := by
    intro v28 c28v g60 hj hf0 hf1 hf2 hf3 H locs hP hD hS ls hl
    refine lv_aload_n hx hb d_M_branch_63 rfl (lv_at hl 1 rfl) ?_
    refine lv_iload_n hx hb d_M_branch_64 rfl (lv_at hl 2 rfl) ?_
    refine top_i hf2 ?_
    refine lv_bipush (v := 17) hx hb d_M_branch_65 (by decide) ?_
    refine lv_aload_n hx hb d_M_branch_67 rfl (lv_at hl 1 rfl) ?_
    refine va_get (D := (dC, dI)) (ci := 2) (v := .ref (ad 8)) (C := R_M) (T := F_M) (N := 10) hx hb hts (fun w h => List.mem_cons_of_mem _ (uw_M w h)) hown hK hP 0 rfl rfl 8 (by decide) (hG (.fieldLink R_M 32 "ValueSieveModel" "witness" "[J") gx17) (fun _ h9 => h9) rfl d_M_branch_68 ?_
    refine lv_iload_n hx hb d_M_branch_71 rfl (lv_at hl 2 rfl) ?_
    refine top_i hf2 ?_
    refine ml_8 (P := p3.toNatClampNeg) hx hb hK hP rfl hf3 d_M_branch_72 ?_
    refine mm_v (F := f_M_put g60.1 g60.2.1 g60.2.2 p3.toNatClampNeg 17 (g60.2.1 p3.toNatClampNeg)) (w1 := fun g73 => (mW ad cJ cZ c28v g73.1 g73.2.1 g73.2.2)) (va_runV (As := [.int (nI p3.toNatClampNeg), .int (17), .long (g60.2.1 p3.toNatClampNeg)]) (rest := []) ⟨hx, hb, hml, hown, hts⟩ (c_M_put l dC dI ad cJ cZ H.size c28v g60.1 g60.2.1 g60.2.2 p3.toNatClampNeg 17 (g60.2.1 p3.toNatClampNeg) hf3 (by decide)) (cwV 3 hts (gxV gx45 gx46 gx278 gx0 gx47) rfl rfl rfl (by decide +kernel) ⟨(Nat.le_of_ble_eq_true rfl), (Nat.le_of_ble_eq_true rfl)⟩) ⟨blp, va_recv hK hP (ci := 2) (q0 := 0) rfl rfl, fun U hU hW => ⟨rfl, by rw [hU], by rw [hU]; exact hP, va_K.moved hW.alike hK, hD.weaken (fun _ _ _ _ => trivial)⟩⟩ rfl rfl hl.1 rfl (lv_room (Nat.le_of_ble_eq_true rfl)) d_M_branch_73 ⟨Nat.zero_le _, Nat.zero_le _⟩) hD hS hA (fun g73 eg73 H locs hP hD hS => ?_)
    refine K73g v28 c28v g73 (Eq.trans (hj.trans rfl) (congrArg (fun g73 => f_M_branch_73g r0 w0 s0 p1 p2 p3 v28 c28v g73) eg73)) hf0 hf1 hf2 hf3 H locs ?_ ?_ hS ls (lv_sub hl [0] rfl)
    · with_reducible exact hP
    · with_reducible exact hD
  have K46g : ∀ (v28 : Bool) (c28v : Int32) (g46 : Bool × (Nat → VV)) (hj : f_M_branch r0 w0 s0 p1 p2 p3 = f_M_branch_46g r0 w0 s0 p1 p2 p3 v28 c28v g46) (hf0 : p2 = nI p2.toNatClampNeg) (hf1 : p2.toNatClampNeg < 16) (hf2 : p3 = nI p3.toNatClampNeg) (hf3 : p3.toNatClampNeg < 16) (H : Heap) (locs : List Loc) (hP : va_P (dC, dI) classes (mW ad cJ cZ c28v g46.2 w0 s0) H) (hD : va_D A (mW ad cJ cZ c28v g46.2 w0 s0)) (hS : va_S A s.heap H locs) (ls : Array Slot) (hl : lv_has ls 5 [(4, .int (bI v28)), (0, .ref (ad 0)), (2, .int (p2)), (3, .int (p3))]), W p l e (headSpec w_M_branch ({ frames := 8, cells := 0, slots := 0, locals := 227 } : Room)).room s m ([.ref (ad 0), .int (p1), .int (p2), .int (p3)] : List Value).toArray below meth c H locs 0 0 (MQ below (va_Qi (fun r (_ : Unit) => r = bI (f_M_branch r0 w0 s0 p1 p2 p3).1) (mB (dC, dI) A (mW ad cJ cZ (f_M_branch r0 w0 s0 p1 p2 p3).2.1 (f_M_branch r0 w0 s0 p1 p2 p3).2.2.1 (f_M_branch r0 w0 s0 p1 p2 p3).2.2.2.1 (f_M_branch r0 w0 s0 p1 p2 p3).2.2.2.2)) A) ([.ref (ad 0), .int (p1), .int (p2), .int (p3)] : List Value).toArray s 0 0 A) (F0 m 49 ls [.int (bI g46.1)]) := by
    intro v28 c28v g46 hj hf0 hf1 hf2 hf3 H locs hP hD hS ls hl
    refine lv_pop hx hb d_M_branch_49 rfl ?_
    refine lv_aload_n hx hb d_M_branch_50 rfl (lv_at hl 1 rfl) ?_
    refine lv_iload_n hx hb d_M_branch_51 rfl (lv_at hl 2 rfl) ?_
    refine top_i hf0 ?_
    refine lv_bipush (v := 16) hx hb d_M_branch_52 (by decide) ?_
    refine lv_aload_n hx hb d_M_branch_54 rfl (lv_at hl 1 rfl) ?_
    refine va_get (D := (dC, dI)) (ci := 2) (v := .ref (ad 8)) (C := R_M) (T := F_M) (N := 10) hx hb hts (fun w h => List.mem_cons_of_mem _ (uw_M w h)) hown hK hP 0 rfl rfl 8 (by decide) (hG (.fieldLink R_M 32 "ValueSieveModel" "witness" "[J") gx17) (fun _ h9 => h9) rfl d_M_branch_55 ?_
    refine lv_iload_n hx hb d_M_branch_58 rfl (lv_at hl 2 rfl) ?_
    refine top_i hf0 ?_
    refine ml_8 (P := p2.toNatClampNeg) hx hb hK hP rfl hf1 d_M_branch_59 ?_
    refine mm_v (F := f_M_put g46.2 w0 s0 p2.toNatClampNeg 16 (w0 p2.toNatClampNeg)) (w1 := fun g60 => (mW ad cJ cZ c28v g60.1 g60.2.1 g60.2.2)) (va_runV (As := [.int (nI p2.toNatClampNeg), .int (16), .long (w0 p2.toNatClampNeg)]) (rest := []) ⟨hx, hb, hml, hown, hts⟩ (c_M_put l dC dI ad cJ cZ H.size c28v g46.2 w0 s0 p2.toNatClampNeg 16 (w0 p2.toNatClampNeg) hf1 (by decide)) (cwV 3 hts (gxV gx45 gx46 gx278 gx0 gx47) rfl rfl rfl (by decide +kernel) ⟨(Nat.le_of_ble_eq_true rfl), (Nat.le_of_ble_eq_true rfl)⟩) ⟨blp, va_recv hK hP (ci := 2) (q0 := 0) rfl rfl, fun U hU hW => ⟨rfl, by rw [hU], by rw [hU]; exact hP, va_K.moved hW.alike hK, hD.weaken (fun _ _ _ _ => trivial)⟩⟩ rfl rfl hl.1 rfl (lv_room (Nat.le_of_ble_eq_true rfl)) d_M_branch_60 ⟨Nat.zero_le _, Nat.zero_le _⟩) hD hS hA (fun g60 eg60 H locs hP hD hS => ?_)
    refine K60g v28 c28v g60 (Eq.trans (hj.trans rfl) (congrArg (fun g60 => f_M_branch_60g r0 w0 s0 p1 p2 p3 v28 c28v g60) eg60)) hf0 hf1 hf2 hf3 H locs ?_ ?_ hS ls (lv_sub hl [0, 1, 3] rfl)
    · with_reducible exact hP
    · with_reducible exact hD
  have K44 : ∀ (v28 : Bool) (s44_0 : Int32) (c28v : Int32) (hj : f_M_branch r0 w0 s0 p1 p2 p3 = f_M_branch_44 r0 w0 s0 p1 p2 p3 v28 s44_0 c28v) (hf0 : p2 = nI p2.toNatClampNeg) (hf1 : p2.toNatClampNeg < 16) (hf2 : p3 = nI p3.toNatClampNeg) (hf3 : p3.toNatClampNeg < 16) (H : Heap) (locs : List Loc) (hP : va_P (dC, dI) classes (mW ad cJ cZ c28v r0 w0 s0) H) (hD : va_D A (mW ad cJ cZ c28v r0 w0 s0)) (hS : va_S A s.heap H locs) (ls : Array Slot) (hl : lv_has ls 5 [(4, .int (bI v28)), (0, .ref (ad 0)), (2, .int (p2)), (3, .int (p3))]), W p l e (headSpec w_M_branch ({ frames := 8, cells := 0, slots := 0, locals := 227 } : Room)).room s m ([.ref (ad 0), .int (p1), .int (p2), .int (p3)] : List Value).toArray below meth c H locs 0 0 (MQ below (va_Qi (fun r (_ : Unit) => r = bI (f_M_branch r0 w0 s0 p1 p2 p3).1) (mB (dC, dI) A (mW ad cJ cZ (f_M_branch r0 w0 s0 p1 p2 p3).2.1 (f_M_branch r0 w0 s0 p1 p2 p3).2.2.1 (f_M_branch r0 w0 s0 p1 p2 p3).2.2.2.1 (f_M_branch r0 w0 s0 p1 p2 p3).2.2.2.2)) A) ([.ref (ad 0), .int (p1), .int (p2), .int (p3)] : List Value).toArray s 0 0 A) (F0 m 44 ls [.int (s44_0), .ref (ad 0)]) := by
    intro v28 s44_0 c28v hj hf0 hf1 hf2 hf3 H locs hP hD hS ls hl
    refine lv_iload_n hx hb d_M_branch_44 rfl (lv_at hl 2 rfl) ?_
    refine top_i hf0 ?_
    refine lv_iload_n hx hb d_M_branch_45 rfl (lv_at hl 3 rfl) ?_
    refine top_i hf2 ?_
    refine mm_z (F := f_M_canBe r0 s44_0 p2.toNatClampNeg p3.toNatClampNeg) (w1 := fun g46 => (mW ad cJ cZ c28v g46.2 w0 s0)) (va_runV (As := [.int (s44_0), .int (nI p2.toNatClampNeg), .int (nI p3.toNatClampNeg)]) (rest := []) ⟨hx, hb, hml, hown, hts⟩ (c_M_canBe l dC dI ad cJ cZ H.size c28v r0 w0 s0 s44_0 p2.toNatClampNeg p3.toNatClampNeg (Nat.lt_of_lt_of_le hf1 (by decide)) (Nat.lt_of_lt_of_le hf3 (by decide))) (cwV 3 hts (gxV gx219 gx220 gx305 gx0 gx221) rfl rfl rfl (by decide +kernel) ⟨(Nat.le_of_ble_eq_true rfl), (Nat.le_of_ble_eq_true rfl)⟩) ⟨blp, va_recv hK hP (ci := 2) (q0 := 0) rfl rfl, fun U hU hW => ⟨rfl, by rw [hU], by rw [hU]; exact hP, va_K.moved hW.alike hK, hD.weaken (fun _ _ _ _ => trivial)⟩⟩ rfl rfl hl.1 rfl (lv_room (Nat.le_of_ble_eq_true rfl)) d_M_branch_46 ⟨Nat.zero_le _, Nat.zero_le _⟩) hD hS hA (fun g46 eg46 H locs hP hD hS => ?_)
    refine K46g v28 c28v g46 (Eq.trans (hj.trans rfl) (congrArg (fun g46 => f_M_branch_46g r0 w0 s0 p1 p2 p3 v28 c28v g46) eg46)) hf0 hf1 hf2 hf3 H locs ?_ ?_ hS ls (lv_sub hl [0, 1, 2, 3] rfl)
    · with_reducible exact hP
    · with_reducible exact hD
  have K28v : ∀ (v28 : Bool) (c28v : Int32) (hj : f_M_branch r0 w0 s0 p1 p2 p3 = f_M_branch_28v r0 w0 s0 p1 p2 p3 v28 c28v) (hf0 : p2 = nI p2.toNatClampNeg) (hf1 : p2.toNatClampNeg < 16) (hf2 : p3 = nI p3.toNatClampNeg) (hf3 : p3.toNatClampNeg < 16) (H : Heap) (locs : List Loc) (hP : va_P (dC, dI) classes (mW ad cJ cZ c28v r0 w0 s0) H) (hD : va_D A (mW ad cJ cZ c28v r0 w0 s0)) (hS : va_S A s.heap H locs) (ls : Array Slot) (hl : lv_has ls 5 [(4, .int (bI v28)), (0, .ref (ad 0)), (1, .int (p1)), (2, .int (p2)), (3, .int (p3))]), W p l e (headSpec w_M_branch ({ frames := 8, cells := 0, slots := 0, locals := 227 } : Room)).room s m ([.ref (ad 0), .int (p1), .int (p2), .int (p3)] : List Value).toArray below meth c H locs 0 0 (MQ below (va_Qi (fun r (_ : Unit) => r = bI (f_M_branch r0 w0 s0 p1 p2 p3).1) (mB (dC, dI) A (mW ad cJ cZ (f_M_branch r0 w0 s0 p1 p2 p3).2.1 (f_M_branch r0 w0 s0 p1 p2 p3).2.2.1 (f_M_branch r0 w0 s0 p1 p2 p3).2.2.2.1 (f_M_branch r0 w0 s0 p1 p2 p3).2.2.2.2)) A) ([.ref (ad 0), .int (p1), .int (p2), .int (p3)] : List Value).toArray s 0 0 A) (F0 m 30 ls []) := by
    intro v28 c28v hj hf0 hf1 hf2 hf3 H locs hP hD hS ls hl
    refine lv_aload_n hx hb d_M_branch_30 rfl (lv_at hl 1 rfl) ?_
    refine lv_iload hx hb d_M_branch_31 (lv_at hl 0 rfl) ?_
    refine wz_eq (tgt := 40) hx hb d_M_branch_33 (by decide) (fun e1_40 => ?_) (fun e1_40 => ?_)
    · refine lv_iload_n hx hb d_M_branch_40 rfl (lv_at hl 2 rfl) ?_
      refine rc_i (W.runS (As := [.int (p1)]) (rest := [.ref (ad 0)]) ⟨hx, hb, hml, hown, hts⟩ (c_M_opposite l p1) (va_cwS 1 hts (gxS gx216 gx217 gx0 gx218) rfl rfl rfl (by decide +kernel) ⟨(Nat.le_of_ble_eq_true rfl), (Nat.le_of_ble_eq_true rfl)⟩) ⟨bl0, fun U hU hW => ⟨rfl, trivial⟩⟩ rfl rfl hl.1 rfl (lv_room (Nat.le_of_ble_eq_true rfl)) d_M_branch_41 ⟨Nat.zero_le _, Nat.zero_le _⟩) ?_
      refine K44 v28 (f_M_opposite p1) c28v (hj.trans (by unfold f_M_branch_28v; first | with_reducible exact if_neg e1_40 | exact if_neg e1_40)) hf0 hf1 hf2 hf3 H locs ?_ ?_ hS ls (lv_sub hl [0, 1, 3, 4] rfl)
      · with_reducible exact hP
      · with_reducible exact hD
    · refine lv_iload_n hx hb d_M_branch_36 rfl (lv_at hl 2 rfl) ?_
      refine lv_goto (tgt := 44) hx hb d_M_branch_37 (by decide) ?_
      refine K44 v28 p1 c28v (hj.trans (by unfold f_M_branch_28v; first | with_reducible exact if_pos e1_40 | exact if_pos e1_40)) hf0 hf1 hf2 hf3 H locs ?_ ?_ hS ls (lv_sub hl [0, 1, 3, 4] rfl)
      · with_reducible exact hP
      · with_reducible exact hD
  have K4g : ∀ (g4 : Bool × Int32) (hj : f_M_branch r0 w0 s0 p1 p2 p3 = f_M_branch_4g r0 w0 s0 p1 p2 p3 g4) (hf0 : npF g4.1 0 p2 p3) (H : Heap) (locs : List Loc) (hP : va_P (dC, dI) classes (mW ad cJ cZ g4.2 r0 w0 s0) H) (hD : va_D A (mW ad cJ cZ g4.2 r0 w0 s0)) (hS : va_S A s.heap H locs) (ls : Array Slot) (hl : lv_has ls 5 [(0, .ref (ad 0)), (1, .int (p1)), (2, .int (p2)), (3, .int (p3))]), W p l e (headSpec w_M_branch ({ frames := 8, cells := 0, slots := 0, locals := 227 } : Room)).room s m ([.ref (ad 0), .int (p1), .int (p2), .int (p3)] : List Value).toArray below meth c H locs 0 0 (MQ below (va_Qi (fun r (_ : Unit) => r = bI (f_M_branch r0 w0 s0 p1 p2 p3).1) (mB (dC, dI) A (mW ad cJ cZ (f_M_branch r0 w0 s0 p1 p2 p3).2.1 (f_M_branch r0 w0 s0 p1 p2 p3).2.2.1 (f_M_branch r0 w0 s0 p1 p2 p3).2.2.2.1 (f_M_branch r0 w0 s0 p1 p2 p3).2.2.2.2)) A) ([.ref (ad 0), .int (p1), .int (p2), .int (p3)] : List Value).toArray s 0 0 A) (F0 m 7 ls [.int (bI g4.1)]) := by
    intro g4 hj hf0 H locs hP hD hS ls hl
    refine wz_eq (tgt := 12) hx hb d_M_branch_7 (by decide) (fun e1_12 => ?_) (fun e1_12 => ?_)
    · obtain ⟨⟨i1, j1⟩, ⟨i2, j2⟩, ⟨i3, j3⟩⟩ := npF_of hf0 e1_12
      refine lv_iload_n hx hb d_M_branch_12 rfl (lv_at hl 1 rfl) ?_
      refine lv_aload_n hx hb d_M_branch_13 rfl (lv_at hl 0 rfl) ?_
      refine va_get (D := (dC, dI)) (ci := 2) (v := .ref (ad 8)) (C := R_M) (T := F_M) (N := 10) hx hb hts (fun w h => List.mem_cons_of_mem _ (uw_M w h)) hown hK hP 0 rfl rfl 8 (by decide) (hG (.fieldLink R_M 32 "ValueSieveModel" "witness" "[J") gx17) (fun _ h9 => h9) rfl d_M_branch_14 ?_
      refine lv_iload_n hx hb d_M_branch_17 rfl (lv_at hl 2 rfl) ?_
      refine top_i i2 ?_
      refine ml_8 (P := p2.toNatClampNeg) hx hb hK hP rfl j2 d_M_branch_18 ?_
      refine lv_aload_n hx hb d_M_branch_19 rfl (lv_at hl 0 rfl) ?_
      refine va_get (D := (dC, dI)) (ci := 2) (v := .ref (ad 8)) (C := R_M) (T := F_M) (N := 10) hx hb hts (fun w h => List.mem_cons_of_mem _ (uw_M w h)) hown hK hP 0 rfl rfl 8 (by decide) (hG (.fieldLink R_M 32 "ValueSieveModel" "witness" "[J") gx17) (fun _ h9 => h9) rfl d_M_branch_20 ?_
      refine lv_iload_n hx hb d_M_branch_23 rfl (lv_at hl 3 rfl) ?_
      refine top_i i3 ?_
      refine ml_8 (P := p3.toNatClampNeg) hx hb hK hP rfl j3 d_M_branch_24 ?_
      refine rc_i (W.runS (As := [.int (p1), .long (w0 p2.toNatClampNeg), .long (w0 p3.toNatClampNeg)]) (rest := []) ⟨hx, hb, hml, hown, hts⟩ (c_M_isSo l p1 (w0 p2.toNatClampNeg) (w0 p3.toNatClampNeg)) (va_cwS 3 hts (gxS gx213 gx214 gx0 gx215) rfl rfl rfl (by decide +kernel) ⟨(Nat.le_of_ble_eq_true rfl), (Nat.le_of_ble_eq_true rfl)⟩) ⟨bl0, fun U hU hW => ⟨rfl, trivial⟩⟩ rfl rfl hl.1 rfl (lv_room (Nat.le_of_ble_eq_true rfl)) d_M_branch_25 ⟨Nat.zero_le _, Nat.zero_le _⟩) ?_
      refine top_b (fun v28 ev28 => ?_)
      refine lv_istore (lv' := [(4, .int (bI v28)), (0, .ref (ad 0)), (1, .int (p1)), (2, .int (p2)), (3, .int (p3))]) hx hb d_M_branch_28 hl (by decide) rfl (fun ls hl => ?_)
      refine K28v v28 g4.2 (Eq.trans (hj.trans (by unfold f_M_branch_4g; first | with_reducible exact if_neg e1_12 | exact if_neg e1_12)) (congrArg (fun v28 => f_M_branch_28v r0 w0 s0 p1 p2 p3 v28 g4.2) ev28.symm)) i2 j2 i3 j3 H locs ?_ ?_ hS ls (lv_sub hl [0, 1, 2, 3, 4] rfl)
      · with_reducible exact hP
      · with_reducible exact hD
    · refine lv_iconst (v := 0) hx hb d_M_branch_10 (by decide) ?_
      have fe : f_M_branch r0 w0 s0 p1 p2 p3 = (false, g4.2, r0, w0, s0) := hj.trans (by unfold f_M_branch_4g; first | with_reducible exact if_pos e1_12 | exact if_pos e1_12)
      exact W.zret (v := bI false) hx hb hr (bI_n false) (fun t ht hW => ⟨⟨_, (), rfl, by rw [fe], by rw [ht, fe]; exact hP, by rw [fe]; exact hD⟩, hS.F ht⟩) hS.2.2 d_M_branch_11
  refine lv_aload_n hx hb d_M_branch_0 rfl (lv_at hl 0 rfl) ?_
  refine lv_iload_n hx hb d_M_branch_1 rfl (lv_at hl 1 rfl) ?_
  refine lv_iload_n hx hb d_M_branch_2 rfl (lv_at hl 2 rfl) ?_
  refine lv_iload_n hx hb d_M_branch_3 rfl (lv_at hl 3 rfl) ?_
  refine mm_z (F := f_M_noComparison p1 p2 p3) (w1 := fun g4 => (mW ad cJ cZ g4.2 r0 w0 s0)) (va_runV (As := [.int (p1), .int (p2), .int (p3)]) (rest := []) ⟨hx, hb, hml, hown, hts⟩ (c_M_noComparison l dC dI ad cJ cZ s.heap.size c0 r0 w0 s0 p1 p2 p3) (cwV 3 hts (gxV gx210 gx211 gx306 gx0 gx212) rfl rfl rfl (by decide +kernel) ⟨(Nat.le_of_ble_eq_true rfl), (Nat.le_of_ble_eq_true rfl)⟩) ⟨blp, va_recv hK hP (ci := 2) (q0 := 0) rfl rfl, fun U hU hW => ⟨rfl, by rw [hU], by rw [hU]; exact hP, va_K.moved hW.alike hK, hD.weaken (fun _ _ _ _ => trivial)⟩⟩ rfl rfl hl.1 rfl (lv_room (Nat.le_of_ble_eq_true rfl)) d_M_branch_4 ⟨Nat.zero_le _, Nat.zero_le _⟩) hD hS hA (fun g4 eg4 H locs hP hD hS => ?_)
  have hpg4 := nc_ok eg4
  refine K4g g4 (Eq.trans (rfl) (congrArg (fun g4 => f_M_branch_4g r0 w0 s0 p1 p2 p3 g4) eg4)) hpg4 H locs ?_ ?_ hS ls (lv_sub hl [0, 1, 2, 3] rfl)
  · with_reducible exact hP
  · with_reducible exact hD
