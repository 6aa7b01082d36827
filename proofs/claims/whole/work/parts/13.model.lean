theorem up_step8 {x : Int32} {n : Nat} (e : ¬ 8 ≤ x) (h : (8 - x.toInt).toNat < n + 1) : (8 - (x + 1).toInt).toNat < n := by
  rw [Int32.le_iff_toInt_le, show (8 : Int32).toInt = 8 by decide] at e
  have h1 := Int32.le_toInt x
  have h2 : (x + 1).toInt = x.toInt + 1 := by
    rw [Int32.toInt_add, show (1 : Int32).toInt = 1 by decide]
    rw [Int.bmod_eq_of_le (by omega) (by omega)]
  rw [h2]
  omega
theorem sw_init {p : Int32} (h : p ≤ 64) : (p.toInt - (0 : Int32).toInt).toNat < 65 := by
  rw [Int32.le_iff_toInt_le, show (64 : Int32).toInt = 64 by decide] at h
  rw [Int32.toInt_zero]
  omega
theorem sw_step {p x : Int32} {n : Nat} (h : p ≤ 64) (e : ¬ p ≤ x) (hm : (p.toInt - x.toInt).toNat < n + 1) : (p.toInt - (x + 8).toInt).toNat < n := by
  rw [Int32.le_iff_toInt_le, show (64 : Int32).toInt = 64 by decide] at h
  rw [Int32.le_iff_toInt_le] at e
  have h1 := Int32.le_toInt x
  have h2 : (x + 8).toInt = x.toInt + 8 := by
    rw [Int32.toInt_add, show (8 : Int32).toInt = 8 by decide]
    rw [Int.bmod_eq_of_le (by omega) (by omega)]
  rw [h2]
  omega
-- tighten
theorem d_M_tighten_0 : decode b_M_tighten 0 = .ok (.aload_n 0, 1) := by decide +kernel
theorem d_M_tighten_1 : decode b_M_tighten 1 = .ok (.getfield 28, 3) := by decide +kernel
theorem d_M_tighten_4 : decode b_M_tighten 4 = .ok (.iload_n 1, 1) := by decide +kernel
theorem d_M_tighten_5 : decode b_M_tighten 5 = .ok (.aload_n 0, 1) := by decide +kernel
theorem d_M_tighten_6 : decode b_M_tighten 6 = .ok (.getfield 28, 3) := by decide +kernel
theorem d_M_tighten_9 : decode b_M_tighten 9 = .ok (.iload_n 1, 1) := by decide +kernel
theorem d_M_tighten_10 : decode b_M_tighten 10 = .ok (.baload, 1) := by decide +kernel
theorem d_M_tighten_11 : decode b_M_tighten 11 = .ok (.ifCond .ne 23, 3) := by decide +kernel
theorem d_M_tighten_14 : decode b_M_tighten 14 = .ok (.aload_n 0, 1) := by decide +kernel
theorem d_M_tighten_15 : decode b_M_tighten 15 = .ok (.iload_n 1, 1) := by decide +kernel
theorem d_M_tighten_16 : decode b_M_tighten 16 = .ok (.aload_n 0, 1) := by decide +kernel
theorem d_M_tighten_17 : decode b_M_tighten 17 = .ok (.getfield 7, 3) := by decide +kernel
theorem d_M_tighten_20 : decode b_M_tighten 20 = .ok (.iload_n 1, 1) := by decide +kernel
theorem d_M_tighten_21 : decode b_M_tighten 21 = .ok (.laload, 1) := by decide +kernel
theorem d_M_tighten_22 : decode b_M_tighten 22 = .ok (.aload_n 0, 1) := by decide +kernel
theorem d_M_tighten_23 : decode b_M_tighten 23 = .ok (.getfield 13, 3) := by decide +kernel
theorem d_M_tighten_26 : decode b_M_tighten 26 = .ok (.iload_n 1, 1) := by decide +kernel
theorem d_M_tighten_27 : decode b_M_tighten 27 = .ok (.laload, 1) := by decide +kernel
theorem d_M_tighten_28 : decode b_M_tighten 28 = .ok (.invokevirtual 79, 3) := by decide +kernel
theorem d_M_tighten_31 : decode b_M_tighten 31 = .ok (.ifCond .ne 7, 3) := by decide +kernel
theorem d_M_tighten_34 : decode b_M_tighten 34 = .ok (.iconst 1, 1) := by decide +kernel
theorem d_M_tighten_35 : decode b_M_tighten 35 = .ok (.goto 4, 3) := by decide +kernel
theorem d_M_tighten_38 : decode b_M_tighten 38 = .ok (.iconst 0, 1) := by decide +kernel
theorem d_M_tighten_39 : decode b_M_tighten 39 = .ok (.bastore, 1) := by decide +kernel
theorem d_M_tighten_40 : decode b_M_tighten 40 = .ok (.aload_n 0, 1) := by decide +kernel
theorem d_M_tighten_41 : decode b_M_tighten 41 = .ok (.getfield 28, 3) := by decide +kernel
theorem d_M_tighten_44 : decode b_M_tighten 44 = .ok (.iload_n 1, 1) := by decide +kernel
theorem d_M_tighten_45 : decode b_M_tighten 45 = .ok (.baload, 1) := by decide +kernel
theorem d_M_tighten_46 : decode b_M_tighten 46 = .ok (.ifCond .eq 4, 3) := by decide +kernel
theorem d_M_tighten_49 : decode b_M_tighten 49 = .ok (.return_, 1) := by decide +kernel
theorem d_M_tighten_50 : decode b_M_tighten 50 = .ok (.aload_n 0, 1) := by decide +kernel
theorem d_M_tighten_51 : decode b_M_tighten 51 = .ok (.getfield 7, 3) := by decide +kernel
theorem d_M_tighten_54 : decode b_M_tighten 54 = .ok (.iload_n 1, 1) := by decide +kernel
theorem d_M_tighten_55 : decode b_M_tighten 55 = .ok (.laload, 1) := by decide +kernel
theorem d_M_tighten_56 : decode b_M_tighten 56 = .ok (.lstore_n 2, 1) := by decide +kernel
theorem d_M_tighten_57 : decode b_M_tighten 57 = .ok (.aload_n 0, 1) := by decide +kernel
theorem d_M_tighten_58 : decode b_M_tighten 58 = .ok (.getfield 13, 3) := by decide +kernel
theorem d_M_tighten_61 : decode b_M_tighten 61 = .ok (.iload_n 1, 1) := by decide +kernel
theorem d_M_tighten_62 : decode b_M_tighten 62 = .ok (.laload, 1) := by decide +kernel
theorem d_M_tighten_63 : decode b_M_tighten 63 = .ok (.lstore 4, 2) := by decide +kernel
theorem d_M_tighten_65 : decode b_M_tighten 65 = .ok (.aload_n 0, 1) := by decide +kernel
theorem d_M_tighten_66 : decode b_M_tighten 66 = .ok (.iload_n 1, 1) := by decide +kernel
theorem d_M_tighten_67 : decode b_M_tighten 67 = .ok (.lload_n 2, 1) := by decide +kernel
theorem d_M_tighten_68 : decode b_M_tighten 68 = .ok (.lload 4, 2) := by decide +kernel
theorem d_M_tighten_70 : decode b_M_tighten 70 = .ok (.iconst 0, 1) := by decide +kernel
theorem d_M_tighten_71 : decode b_M_tighten 71 = .ok (.invokevirtual 75, 3) := by decide +kernel
theorem d_M_tighten_74 : decode b_M_tighten 74 = .ok (.istore 6, 2) := by decide +kernel
theorem d_M_tighten_76 : decode b_M_tighten 76 = .ok (.aload_n 0, 1) := by decide +kernel
theorem d_M_tighten_77 : decode b_M_tighten 77 = .ok (.iload_n 1, 1) := by decide +kernel
theorem d_M_tighten_78 : decode b_M_tighten 78 = .ok (.lload_n 2, 1) := by decide +kernel
theorem d_M_tighten_79 : decode b_M_tighten 79 = .ok (.lload 4, 2) := by decide +kernel
theorem d_M_tighten_81 : decode b_M_tighten 81 = .ok (.iconst 1, 1) := by decide +kernel
theorem d_M_tighten_82 : decode b_M_tighten 82 = .ok (.invokevirtual 75, 3) := by decide +kernel
theorem d_M_tighten_85 : decode b_M_tighten 85 = .ok (.istore 7, 2) := by decide +kernel
theorem d_M_tighten_87 : decode b_M_tighten 87 = .ok (.aload_n 0, 1) := by decide +kernel
theorem d_M_tighten_88 : decode b_M_tighten 88 = .ok (.iload_n 1, 1) := by decide +kernel
theorem d_M_tighten_89 : decode b_M_tighten 89 = .ok (.lload_n 2, 1) := by decide +kernel
theorem d_M_tighten_90 : decode b_M_tighten 90 = .ok (.lload 4, 2) := by decide +kernel
theorem d_M_tighten_92 : decode b_M_tighten 92 = .ok (.iload 6, 2) := by decide +kernel
theorem d_M_tighten_94 : decode b_M_tighten 94 = .ok (.ifCond .ne 7, 3) := by decide +kernel
theorem d_M_tighten_97 : decode b_M_tighten 97 = .ok (.iconst 1, 1) := by decide +kernel
theorem d_M_tighten_98 : decode b_M_tighten 98 = .ok (.goto 4, 3) := by decide +kernel
theorem d_M_tighten_101 : decode b_M_tighten 101 = .ok (.iconst 0, 1) := by decide +kernel
theorem d_M_tighten_102 : decode b_M_tighten 102 = .ok (.iconst 1, 1) := by decide +kernel
theorem d_M_tighten_103 : decode b_M_tighten 103 = .ok (.invokevirtual 71, 3) := by decide +kernel
theorem d_M_tighten_106 : decode b_M_tighten 106 = .ok (.lstore 8, 2) := by decide +kernel
theorem d_M_tighten_108 : decode b_M_tighten 108 = .ok (.aload_n 0, 1) := by decide +kernel
theorem d_M_tighten_109 : decode b_M_tighten 109 = .ok (.iload_n 1, 1) := by decide +kernel
theorem d_M_tighten_110 : decode b_M_tighten 110 = .ok (.lload_n 2, 1) := by decide +kernel
theorem d_M_tighten_111 : decode b_M_tighten 111 = .ok (.lload 4, 2) := by decide +kernel
theorem d_M_tighten_113 : decode b_M_tighten 113 = .ok (.iload 7, 2) := by decide +kernel
theorem d_M_tighten_115 : decode b_M_tighten 115 = .ok (.iconst 0, 1) := by decide +kernel
theorem d_M_tighten_116 : decode b_M_tighten 116 = .ok (.invokevirtual 71, 3) := by decide +kernel
theorem d_M_tighten_119 : decode b_M_tighten 119 = .ok (.lstore 10, 2) := by decide +kernel
theorem d_M_tighten_121 : decode b_M_tighten 121 = .ok (.aload_n 0, 1) := by decide +kernel
theorem d_M_tighten_122 : decode b_M_tighten 122 = .ok (.iload_n 1, 1) := by decide +kernel
theorem d_M_tighten_123 : decode b_M_tighten 123 = .ok (.lload_n 2, 1) := by decide +kernel
theorem d_M_tighten_124 : decode b_M_tighten 124 = .ok (.lload 4, 2) := by decide +kernel
theorem d_M_tighten_126 : decode b_M_tighten 126 = .ok (.iload 7, 2) := by decide +kernel
theorem d_M_tighten_128 : decode b_M_tighten 128 = .ok (.iconst 1, 1) := by decide +kernel
theorem d_M_tighten_129 : decode b_M_tighten 129 = .ok (.invokevirtual 71, 3) := by decide +kernel
theorem d_M_tighten_132 : decode b_M_tighten 132 = .ok (.lstore 12, 2) := by decide +kernel
theorem d_M_tighten_134 : decode b_M_tighten 134 = .ok (.aload_n 0, 1) := by decide +kernel
theorem d_M_tighten_135 : decode b_M_tighten 135 = .ok (.iload_n 1, 1) := by decide +kernel
theorem d_M_tighten_136 : decode b_M_tighten 136 = .ok (.lload_n 2, 1) := by decide +kernel
theorem d_M_tighten_137 : decode b_M_tighten 137 = .ok (.lload 4, 2) := by decide +kernel
theorem d_M_tighten_139 : decode b_M_tighten 139 = .ok (.iload 6, 2) := by decide +kernel
theorem d_M_tighten_141 : decode b_M_tighten 141 = .ok (.ifCond .ne 7, 3) := by decide +kernel
theorem d_M_tighten_144 : decode b_M_tighten 144 = .ok (.iconst 1, 1) := by decide +kernel
theorem d_M_tighten_145 : decode b_M_tighten 145 = .ok (.goto 4, 3) := by decide +kernel
theorem d_M_tighten_148 : decode b_M_tighten 148 = .ok (.iconst 0, 1) := by decide +kernel
theorem d_M_tighten_149 : decode b_M_tighten 149 = .ok (.iconst 0, 1) := by decide +kernel
theorem d_M_tighten_150 : decode b_M_tighten 150 = .ok (.invokevirtual 71, 3) := by decide +kernel
theorem d_M_tighten_153 : decode b_M_tighten 153 = .ok (.lstore 14, 2) := by decide +kernel
theorem d_M_tighten_155 : decode b_M_tighten 155 = .ok (.iconst 0, 1) := by decide +kernel
theorem d_M_tighten_156 : decode b_M_tighten 156 = .ok (.istore 16, 2) := by decide +kernel
theorem d_M_tighten_158 : decode b_M_tighten 158 = .ok (.iload 16, 2) := by decide +kernel
theorem d_M_tighten_160 : decode b_M_tighten 160 = .ok (.bipush 64, 2) := by decide +kernel
theorem d_M_tighten_162 : decode b_M_tighten 162 = .ok (.if_icmp .ge 134, 3) := by decide +kernel
theorem d_M_tighten_165 : decode b_M_tighten 165 = .ok (.lconst 1, 1) := by decide +kernel
theorem d_M_tighten_166 : decode b_M_tighten 166 = .ok (.iload 16, 2) := by decide +kernel
theorem d_M_tighten_168 : decode b_M_tighten 168 = .ok (.lshl, 1) := by decide +kernel
theorem d_M_tighten_169 : decode b_M_tighten 169 = .ok (.lstore 17, 2) := by decide +kernel
theorem d_M_tighten_171 : decode b_M_tighten 171 = .ok (.lload 4, 2) := by decide +kernel
theorem d_M_tighten_173 : decode b_M_tighten 173 = .ok (.lload 17, 2) := by decide +kernel
theorem d_M_tighten_175 : decode b_M_tighten 175 = .ok (.land, 1) := by decide +kernel
theorem d_M_tighten_176 : decode b_M_tighten 176 = .ok (.lconst 0, 1) := by decide +kernel
theorem d_M_tighten_177 : decode b_M_tighten 177 = .ok (.lcmp, 1) := by decide +kernel
theorem d_M_tighten_178 : decode b_M_tighten 178 = .ok (.ifCond .eq 112, 3) := by decide +kernel
theorem d_M_tighten_181 : decode b_M_tighten 181 = .ok (.aload_n 0, 1) := by decide +kernel
theorem d_M_tighten_182 : decode b_M_tighten 182 = .ok (.iload_n 1, 1) := by decide +kernel
theorem d_M_tighten_183 : decode b_M_tighten 183 = .ok (.lload_n 2, 1) := by decide +kernel
theorem d_M_tighten_184 : decode b_M_tighten 184 = .ok (.lload 4, 2) := by decide +kernel
theorem d_M_tighten_186 : decode b_M_tighten 186 = .ok (.lload 17, 2) := by decide +kernel
theorem d_M_tighten_188 : decode b_M_tighten 188 = .ok (.ldc2_w 49, 3) := by decide +kernel
theorem d_M_tighten_191 : decode b_M_tighten 191 = .ok (.lxor, 1) := by decide +kernel
theorem d_M_tighten_192 : decode b_M_tighten 192 = .ok (.land, 1) := by decide +kernel
theorem d_M_tighten_193 : decode b_M_tighten 193 = .ok (.invokevirtual 79, 3) := by decide +kernel
theorem d_M_tighten_196 : decode b_M_tighten 196 = .ok (.istore 19, 2) := by decide +kernel
theorem d_M_tighten_198 : decode b_M_tighten 198 = .ok (.aload_n 0, 1) := by decide +kernel
theorem d_M_tighten_199 : decode b_M_tighten 199 = .ok (.iload_n 1, 1) := by decide +kernel
theorem d_M_tighten_200 : decode b_M_tighten 200 = .ok (.lload_n 2, 1) := by decide +kernel
theorem d_M_tighten_201 : decode b_M_tighten 201 = .ok (.lload 17, 2) := by decide +kernel
theorem d_M_tighten_203 : decode b_M_tighten 203 = .ok (.lor, 1) := by decide +kernel
theorem d_M_tighten_204 : decode b_M_tighten 204 = .ok (.lload 4, 2) := by decide +kernel
theorem d_M_tighten_206 : decode b_M_tighten 206 = .ok (.lload 17, 2) := by decide +kernel
theorem d_M_tighten_208 : decode b_M_tighten 208 = .ok (.ldc2_w 49, 3) := by decide +kernel
theorem d_M_tighten_211 : decode b_M_tighten 211 = .ok (.lxor, 1) := by decide +kernel
theorem d_M_tighten_212 : decode b_M_tighten 212 = .ok (.land, 1) := by decide +kernel
theorem d_M_tighten_213 : decode b_M_tighten 213 = .ok (.invokevirtual 79, 3) := by decide +kernel
theorem d_M_tighten_216 : decode b_M_tighten 216 = .ok (.istore 20, 2) := by decide +kernel
theorem d_M_tighten_218 : decode b_M_tighten 218 = .ok (.aload_n 0, 1) := by decide +kernel
theorem d_M_tighten_219 : decode b_M_tighten 219 = .ok (.getfield 13, 3) := by decide +kernel
theorem d_M_tighten_222 : decode b_M_tighten 222 = .ok (.iload_n 1, 1) := by decide +kernel
theorem d_M_tighten_223 : decode b_M_tighten 223 = .ok (.iload 19, 2) := by decide +kernel
theorem d_M_tighten_225 : decode b_M_tighten 225 = .ok (.ifCond .eq 17, 3) := by decide +kernel
theorem d_M_tighten_228 : decode b_M_tighten 228 = .ok (.iload 20, 2) := by decide +kernel
theorem d_M_tighten_230 : decode b_M_tighten 230 = .ok (.ifCond .eq 12, 3) := by decide +kernel
theorem d_M_tighten_233 : decode b_M_tighten 233 = .ok (.aload_n 0, 1) := by decide +kernel
theorem d_M_tighten_234 : decode b_M_tighten 234 = .ok (.getfield 13, 3) := by decide +kernel
theorem d_M_tighten_237 : decode b_M_tighten 237 = .ok (.iload_n 1, 1) := by decide +kernel
theorem d_M_tighten_238 : decode b_M_tighten 238 = .ok (.laload, 1) := by decide +kernel
theorem d_M_tighten_239 : decode b_M_tighten 239 = .ok (.goto 16, 3) := by decide +kernel
theorem d_M_tighten_242 : decode b_M_tighten 242 = .ok (.aload_n 0, 1) := by decide +kernel
theorem d_M_tighten_243 : decode b_M_tighten 243 = .ok (.getfield 13, 3) := by decide +kernel
theorem d_M_tighten_246 : decode b_M_tighten 246 = .ok (.iload_n 1, 1) := by decide +kernel
theorem d_M_tighten_247 : decode b_M_tighten 247 = .ok (.laload, 1) := by decide +kernel
theorem d_M_tighten_248 : decode b_M_tighten 248 = .ok (.lload 17, 2) := by decide +kernel
theorem d_M_tighten_250 : decode b_M_tighten 250 = .ok (.ldc2_w 49, 3) := by decide +kernel
theorem d_M_tighten_253 : decode b_M_tighten 253 = .ok (.lxor, 1) := by decide +kernel
theorem d_M_tighten_254 : decode b_M_tighten 254 = .ok (.land, 1) := by decide +kernel
theorem d_M_tighten_255 : decode b_M_tighten 255 = .ok (.lastore, 1) := by decide +kernel
theorem d_M_tighten_256 : decode b_M_tighten 256 = .ok (.aload_n 0, 1) := by decide +kernel
theorem d_M_tighten_257 : decode b_M_tighten 257 = .ok (.getfield 7, 3) := by decide +kernel
theorem d_M_tighten_260 : decode b_M_tighten 260 = .ok (.iload_n 1, 1) := by decide +kernel
theorem d_M_tighten_261 : decode b_M_tighten 261 = .ok (.iload 20, 2) := by decide +kernel
theorem d_M_tighten_263 : decode b_M_tighten 263 = .ok (.ifCond .eq 20, 3) := by decide +kernel
theorem d_M_tighten_266 : decode b_M_tighten 266 = .ok (.iload 19, 2) := by decide +kernel
theorem d_M_tighten_268 : decode b_M_tighten 268 = .ok (.ifCond .ne 15, 3) := by decide +kernel
theorem d_M_tighten_271 : decode b_M_tighten 271 = .ok (.aload_n 0, 1) := by decide +kernel
theorem d_M_tighten_272 : decode b_M_tighten 272 = .ok (.getfield 7, 3) := by decide +kernel
theorem d_M_tighten_275 : decode b_M_tighten 275 = .ok (.iload_n 1, 1) := by decide +kernel
theorem d_M_tighten_276 : decode b_M_tighten 276 = .ok (.laload, 1) := by decide +kernel
theorem d_M_tighten_277 : decode b_M_tighten 277 = .ok (.lload 17, 2) := by decide +kernel
theorem d_M_tighten_279 : decode b_M_tighten 279 = .ok (.lor, 1) := by decide +kernel
theorem d_M_tighten_280 : decode b_M_tighten 280 = .ok (.goto 9, 3) := by decide +kernel
theorem d_M_tighten_283 : decode b_M_tighten 283 = .ok (.aload_n 0, 1) := by decide +kernel
theorem d_M_tighten_284 : decode b_M_tighten 284 = .ok (.getfield 7, 3) := by decide +kernel
theorem d_M_tighten_287 : decode b_M_tighten 287 = .ok (.iload_n 1, 1) := by decide +kernel
theorem d_M_tighten_288 : decode b_M_tighten 288 = .ok (.laload, 1) := by decide +kernel
theorem d_M_tighten_289 : decode b_M_tighten 289 = .ok (.lastore, 1) := by decide +kernel
theorem d_M_tighten_290 : decode b_M_tighten 290 = .ok (.iinc 16 1, 3) := by decide +kernel
theorem d_M_tighten_293 : decode b_M_tighten 293 = .ok (.goto (-135), 3) := by decide +kernel
theorem d_M_tighten_296 : decode b_M_tighten 296 = .ok (.aload_n 0, 1) := by decide +kernel
theorem d_M_tighten_297 : decode b_M_tighten 297 = .ok (.getfield 16, 3) := by decide +kernel
theorem d_M_tighten_300 : decode b_M_tighten 300 = .ok (.iload_n 1, 1) := by decide +kernel
theorem d_M_tighten_301 : decode b_M_tighten 301 = .ok (.lload 8, 2) := by decide +kernel
theorem d_M_tighten_303 : decode b_M_tighten 303 = .ok (.lastore, 1) := by decide +kernel
theorem d_M_tighten_304 : decode b_M_tighten 304 = .ok (.aload_n 0, 1) := by decide +kernel
theorem d_M_tighten_305 : decode b_M_tighten 305 = .ok (.getfield 19, 3) := by decide +kernel
theorem d_M_tighten_308 : decode b_M_tighten 308 = .ok (.iload_n 1, 1) := by decide +kernel
theorem d_M_tighten_309 : decode b_M_tighten 309 = .ok (.lload 10, 2) := by decide +kernel
theorem d_M_tighten_311 : decode b_M_tighten 311 = .ok (.lastore, 1) := by decide +kernel
theorem d_M_tighten_312 : decode b_M_tighten 312 = .ok (.aload_n 0, 1) := by decide +kernel
theorem d_M_tighten_313 : decode b_M_tighten 313 = .ok (.getfield 22, 3) := by decide +kernel
theorem d_M_tighten_316 : decode b_M_tighten 316 = .ok (.iload_n 1, 1) := by decide +kernel
theorem d_M_tighten_317 : decode b_M_tighten 317 = .ok (.lload 12, 2) := by decide +kernel
theorem d_M_tighten_319 : decode b_M_tighten 319 = .ok (.lastore, 1) := by decide +kernel
theorem d_M_tighten_320 : decode b_M_tighten 320 = .ok (.aload_n 0, 1) := by decide +kernel
theorem d_M_tighten_321 : decode b_M_tighten 321 = .ok (.getfield 25, 3) := by decide +kernel
theorem d_M_tighten_324 : decode b_M_tighten 324 = .ok (.iload_n 1, 1) := by decide +kernel
theorem d_M_tighten_325 : decode b_M_tighten 325 = .ok (.lload 14, 2) := by decide +kernel
theorem d_M_tighten_327 : decode b_M_tighten 327 = .ok (.lastore, 1) := by decide +kernel
theorem d_M_tighten_328 : decode b_M_tighten 328 = .ok (.return_, 1) := by decide +kernel
def f_M_tighten_327u (r0 : (Nat → VV)) (p1 : Nat) (r327n : (Nat → VV)) : (Nat → VV) := r327n
def f_M_tighten_319u (r0 : (Nat → VV)) (p1 : Nat) (v153 : Int64) (r319n : (Nat → VV)) : (Nat → VV) := f_M_tighten_327u r0 p1 (u6 r319n p1 v153)
def f_M_tighten_311u (r0 : (Nat → VV)) (p1 : Nat) (v153 : Int64) (v132 : Int64) (r311n : (Nat → VV)) : (Nat → VV) := f_M_tighten_319u r0 p1 v153 (u5 r311n p1 v132)
def f_M_tighten_303u (r0 : (Nat → VV)) (p1 : Nat) (v153 : Int64) (v132 : Int64) (v119 : Int64) (r303n : (Nat → VV)) : (Nat → VV) := f_M_tighten_311u r0 p1 v153 v132 (u4 r303n p1 v119)
def f_M_tighten_290 (r0 : (Nat → VV)) (p1 : Nat) (x158_16 : Int32) (v153 : Int64) (v132 : Int64) (v119 : Int64) (v106 : Int64) (v63 : Int64) (v56 : Int64) (r158 : (Nat → VV)) (k158 : Int32 → Int64 → Int64 → Int64 → Int64 → Int64 → Int64 → (Nat → VV) → (Nat → VV)) (r290 : (Nat → VV)) : (Nat → VV) := k158 (x158_16 + 1) v153 v132 v119 v106 v63 v56 r290
def f_M_tighten_289u (r0 : (Nat → VV)) (p1 : Nat) (x158_16 : Int32) (v153 : Int64) (v132 : Int64) (v119 : Int64) (v106 : Int64) (v63 : Int64) (v56 : Int64) (r158 : (Nat → VV)) (k158 : Int32 → Int64 → Int64 → Int64 → Int64 → Int64 → Int64 → (Nat → VV) → (Nat → VV)) (r289n : (Nat → VV)) : (Nat → VV) := f_M_tighten_290 r0 p1 x158_16 v153 v132 v119 v106 v63 v56 r158 k158 r289n
def f_M_tighten_289 (r0 : (Nat → VV)) (p1 : Nat) (x158_16 : Int32) (v153 : Int64) (v132 : Int64) (v119 : Int64) (v106 : Int64) (v63 : Int64) (v56 : Int64) (r158 : (Nat → VV)) (k158 : Int32 → Int64 → Int64 → Int64 → Int64 → Int64 → Int64 → (Nat → VV) → (Nat → VV)) (s289_0 : Int64) (r255n : (Nat → VV)) : (Nat → VV) := f_M_tighten_289u r0 p1 x158_16 v153 v132 v119 v106 v63 v56 r158 k158 (u1 r255n p1 s289_0)
def f_M_tighten_283 (r0 : (Nat → VV)) (p1 : Nat) (x158_16 : Int32) (v153 : Int64) (v132 : Int64) (v119 : Int64) (v106 : Int64) (v63 : Int64) (v56 : Int64) (r158 : (Nat → VV)) (k158 : Int32 → Int64 → Int64 → Int64 → Int64 → Int64 → Int64 → (Nat → VV) → (Nat → VV)) (r255n : (Nat → VV)) : (Nat → VV) := f_M_tighten_289 r0 p1 x158_16 v153 v132 v119 v106 v63 v56 r158 k158 ((r255n p1).1) r255n
def f_M_tighten_255u (r0 : (Nat → VV)) (p1 : Nat) (x158_16 : Int32) (v153 : Int64) (v132 : Int64) (v119 : Int64) (v106 : Int64) (v63 : Int64) (v56 : Int64) (r158 : (Nat → VV)) (k158 : Int32 → Int64 → Int64 → Int64 → Int64 → Int64 → Int64 → (Nat → VV) → (Nat → VV)) (v216 : Bool) (v196 : Bool) (v169 : Int64) (r255n : (Nat → VV)) : (Nat → VV) := (if v216 = true then (if v196 = true then f_M_tighten_283 r0 p1 x158_16 v153 v132 v119 v106 v63 v56 r158 k158 r255n else f_M_tighten_289 r0 p1 x158_16 v153 v132 v119 v106 v63 v56 r158 k158 (((r255n p1).1) ||| v169) r255n) else f_M_tighten_283 r0 p1 x158_16 v153 v132 v119 v106 v63 v56 r158 k158 r255n)
def f_M_tighten_255 (r0 : (Nat → VV)) (p1 : Nat) (x158_16 : Int32) (v153 : Int64) (v132 : Int64) (v119 : Int64) (v106 : Int64) (v63 : Int64) (v56 : Int64) (r158 : (Nat → VV)) (k158 : Int32 → Int64 → Int64 → Int64 → Int64 → Int64 → Int64 → (Nat → VV) → (Nat → VV)) (v216 : Bool) (v196 : Bool) (v169 : Int64) (s255_0 : Int64) : (Nat → VV) := f_M_tighten_255u r0 p1 x158_16 v153 v132 v119 v106 v63 v56 r158 k158 v216 v196 v169 (u2 r158 p1 s255_0)
def f_M_tighten_242 (r0 : (Nat → VV)) (p1 : Nat) (x158_16 : Int32) (v153 : Int64) (v132 : Int64) (v119 : Int64) (v106 : Int64) (v63 : Int64) (v56 : Int64) (r158 : (Nat → VV)) (k158 : Int32 → Int64 → Int64 → Int64 → Int64 → Int64 → Int64 → (Nat → VV) → (Nat → VV)) (v216 : Bool) (v196 : Bool) (v169 : Int64) : (Nat → VV) := f_M_tighten_255 r0 p1 x158_16 v153 v132 v119 v106 v63 v56 r158 k158 v216 v196 v169 (((r158 p1).2.1) &&& (v169 ^^^ (-1 : Int64)))
def f_M_tighten_216v (r0 : (Nat → VV)) (p1 : Nat) (x158_16 : Int32) (v153 : Int64) (v132 : Int64) (v119 : Int64) (v106 : Int64) (v63 : Int64) (v56 : Int64) (r158 : (Nat → VV)) (k158 : Int32 → Int64 → Int64 → Int64 → Int64 → Int64 → Int64 → (Nat → VV) → (Nat → VV)) (v216 : Bool) (v196 : Bool) (v169 : Int64) : (Nat → VV) := (if v196 = true then (if v216 = true then f_M_tighten_255 r0 p1 x158_16 v153 v132 v119 v106 v63 v56 r158 k158 v216 v196 v169 ((r158 p1).2.1) else f_M_tighten_242 r0 p1 x158_16 v153 v132 v119 v106 v63 v56 r158 k158 v216 v196 v169) else f_M_tighten_242 r0 p1 x158_16 v153 v132 v119 v106 v63 v56 r158 k158 v216 v196 v169)
def f_M_tighten_196v (r0 : (Nat → VV)) (p1 : Nat) (x158_16 : Int32) (v153 : Int64) (v132 : Int64) (v119 : Int64) (v106 : Int64) (v63 : Int64) (v56 : Int64) (r158 : (Nat → VV)) (k158 : Int32 → Int64 → Int64 → Int64 → Int64 → Int64 → Int64 → (Nat → VV) → (Nat → VV)) (v196 : Bool) (v169 : Int64) : (Nat → VV) := f_M_tighten_216v r0 p1 x158_16 v153 v132 v119 v106 v63 v56 r158 k158 (f_M_hasAny r158 p1 (v56 ||| v169) (v63 &&& (v169 ^^^ (-1 : Int64)))) v196 v169
def f_M_tighten_169v (r0 : (Nat → VV)) (p1 : Nat) (x158_16 : Int32) (v153 : Int64) (v132 : Int64) (v119 : Int64) (v106 : Int64) (v63 : Int64) (v56 : Int64) (r158 : (Nat → VV)) (k158 : Int32 → Int64 → Int64 → Int64 → Int64 → Int64 → Int64 → (Nat → VV) → (Nat → VV)) (v169 : Int64) : (Nat → VV) := (if (v63 &&& v169) = 0 then f_M_tighten_290 r0 p1 x158_16 v153 v132 v119 v106 v63 v56 r158 k158 r158 else f_M_tighten_196v r0 p1 x158_16 v153 v132 v119 v106 v63 v56 r158 k158 (f_M_hasAny r158 p1 v56 (v63 &&& (v169 ^^^ (-1 : Int64)))) v169)
def f_M_tighten_158 (r0 : (Nat → VV)) (p1 : Nat) : Nat → Int32 → Int64 → Int64 → Int64 → Int64 → Int64 → Int64 → (Nat → VV) → (Nat → VV)
  | 0, _, _, _, _, _, _, _, _ => default
  | n158 + 1, x158_16, v153, v132, v119, v106, v63, v56, r158 => (if 64 ≤ x158_16 then f_M_tighten_303u r0 p1 v153 v132 v119 (u3 r158 p1 v106) else f_M_tighten_169v r0 p1 x158_16 v153 v132 v119 v106 v63 v56 r158 (fun y0 y1 y2 y3 y4 y5 y6 y7 => f_M_tighten_158 r0 p1 n158 y0 y1 y2 y3 y4 y5 y6 y7) ((1 : Int64) <<< (x158_16.toInt64 &&& 63)))
def f_M_tighten_153v (r0 : (Nat → VV)) (p1 : Nat) (v153 : Int64) (v132 : Int64) (v119 : Int64) (v106 : Int64) (v63 : Int64) (v56 : Int64) (r39n : (Nat → VV)) : (Nat → VV) := f_M_tighten_158 r0 p1 65 0 v153 v132 v119 v106 v63 v56 r39n
def f_M_tighten_149 (r0 : (Nat → VV)) (p1 : Nat) (v132 : Int64) (v119 : Int64) (v106 : Int64) (v63 : Int64) (v56 : Int64) (s149_0 : Bool) (s149_1 : Int64) (s149_2 : Int64) (r39n : (Nat → VV)) : (Nat → VV) := f_M_tighten_153v r0 p1 (f_M_end_ r39n p1 s149_2 s149_1 s149_0 false) v132 v119 v106 v63 v56 r39n
def f_M_tighten_132v (r0 : (Nat → VV)) (p1 : Nat) (v132 : Int64) (v119 : Int64) (v106 : Int64) (v74 : Bool) (v63 : Int64) (v56 : Int64) (r39n : (Nat → VV)) : (Nat → VV) := (if v74 = true then f_M_tighten_149 r0 p1 v132 v119 v106 v63 v56 false v63 v56 r39n else f_M_tighten_149 r0 p1 v132 v119 v106 v63 v56 true v63 v56 r39n)
def f_M_tighten_119v (r0 : (Nat → VV)) (p1 : Nat) (v119 : Int64) (v106 : Int64) (v85 : Bool) (v74 : Bool) (v63 : Int64) (v56 : Int64) (r39n : (Nat → VV)) : (Nat → VV) := f_M_tighten_132v r0 p1 (f_M_end_ r39n p1 v56 v63 v85 true) v119 v106 v74 v63 v56 r39n
def f_M_tighten_106v (r0 : (Nat → VV)) (p1 : Nat) (v106 : Int64) (v85 : Bool) (v74 : Bool) (v63 : Int64) (v56 : Int64) (r39n : (Nat → VV)) : (Nat → VV) := f_M_tighten_119v r0 p1 (f_M_end_ r39n p1 v56 v63 v85 false) v106 v85 v74 v63 v56 r39n
def f_M_tighten_102 (r0 : (Nat → VV)) (p1 : Nat) (v85 : Bool) (v74 : Bool) (v63 : Int64) (v56 : Int64) (s102_0 : Bool) (s102_1 : Int64) (s102_2 : Int64) (r39n : (Nat → VV)) : (Nat → VV) := f_M_tighten_106v r0 p1 (f_M_end_ r39n p1 s102_2 s102_1 s102_0 true) v85 v74 v63 v56 r39n
def f_M_tighten_85v (r0 : (Nat → VV)) (p1 : Nat) (v85 : Bool) (v74 : Bool) (v63 : Int64) (v56 : Int64) (r39n : (Nat → VV)) : (Nat → VV) := (if v74 = true then f_M_tighten_102 r0 p1 v85 v74 v63 v56 false v63 v56 r39n else f_M_tighten_102 r0 p1 v85 v74 v63 v56 true v63 v56 r39n)
def f_M_tighten_74v (r0 : (Nat → VV)) (p1 : Nat) (v74 : Bool) (v63 : Int64) (v56 : Int64) (r39n : (Nat → VV)) : (Nat → VV) := f_M_tighten_85v r0 p1 (f_M_has1 r39n p1 v56 v63 true) v74 v63 v56 r39n
def f_M_tighten_63v (r0 : (Nat → VV)) (p1 : Nat) (v63 : Int64) (v56 : Int64) (r39n : (Nat → VV)) : (Nat → VV) := f_M_tighten_74v r0 p1 (f_M_has1 r39n p1 v56 v63 false) v63 v56 r39n
def f_M_tighten_56v (r0 : (Nat → VV)) (p1 : Nat) (v56 : Int64) (r39n : (Nat → VV)) : (Nat → VV) := f_M_tighten_63v r0 p1 ((r39n p1).2.1) v56 r39n
def f_M_tighten_39u (r0 : (Nat → VV)) (p1 : Nat) (r39n : (Nat → VV)) : (Nat → VV) := (if ((r39n p1).2.2.2.2.2.2) = true then r39n else f_M_tighten_56v r0 p1 ((r39n p1).1) r39n)
def f_M_tighten_39 (r0 : (Nat → VV)) (p1 : Nat) (s39_0 : Bool) : (Nat → VV) := f_M_tighten_39u r0 p1 (u7 r0 p1 s39_0)
def f_M_tighten_34 (r0 : (Nat → VV)) (p1 : Nat) : (Nat → VV) := f_M_tighten_39 r0 p1 true
def f_M_tighten (r0 : (Nat → VV)) (p1 : Nat) : (Nat → VV) := (if ((r0 p1).2.2.2.2.2.2) = true then f_M_tighten_34 r0 p1 else (if (f_M_hasAny r0 p1 ((r0 p1).1) ((r0 p1).2.1)) = true then f_M_tighten_39 r0 p1 false else f_M_tighten_34 r0 p1))
set_option maxRecDepth 100000 in
set_option maxHeartbeats 4000000 in
theorem c_M_tighten (l : Launch) (dC : Nat → ClassId) (dI : Nat → Nat → Nat) (ad : Nat → Nat) (cJ cZ : ClassId) (sz : Nat) (c0 : Int32) (r0 : (Nat → VV)) (w0 : (Nat → Int64)) (s0 : Int32) (p1 : Nat) (b1 : p1 < 24) : Met l y_M_tighten w_M_tighten ({ frames := 5, cells := 0, slots := 0, locals := 143 } : Room) (va_Pc [.ref (ad 0), .int (nI p1)] (nP (dC, dI) (mT cJ cZ) (mW ad cJ cZ c0 r0 w0 s0) sz)) (va_Qv (fun _ : Unit => True) (mB (dC, dI) (va_A (mW ad cJ cZ c0 r0 w0 s0) sz) (mW ad cJ cZ c0 (f_M_tighten r0 p1) w0 s0)) (va_A (mW ad cJ cZ c0 r0 w0 s0) sz)) 0 0 (va_A (mW ad cJ cZ c0 r0 w0 s0) sz) := by
  refine Met.ofW (cc := b_M_tighten) (maxL := 21) (ret := none) (by decide) rfl ?_
  intro p e s m args below meth c s₁ B hml hv
  obtain ⟨rfl, hsz, hP, hK, hD0⟩ := hv
  have hx := B.exec
  have hb := B.bytes
  have hr := B.returns
  have hts := atoms_spec (ws := w_M_tighten) B.pre
  have hG : ∀ w ∈ gM, w.before _ s = true := fun w h => hts w (List.mem_cons_of_mem _ h)
  have hown : s.vm.findClass R_M = some m.cls := findClass_of_methodNamed B.named
  have hlocks := B.notSynchronized
  subst hsz
  have hD := hD0.self (sz := s.heap.size)
  generalize hAe : va_A (mW ad cJ cZ c0 r0 w0 s0) s.heap.size = A at hD ⊢
  have hA : ∀ q : Nat, s.heap.size ≤ q → A q := fun q h => by rw [← hAe]; exact Or.inr h
  have hS : va_S A s.heap s.heap [] := va_S.rf
  have hl := lv_entry ([.ref (ad 0), .int (nI p1)]) (n := 21) (Nat.le_of_ble_eq_true rfl)
  rw [lg_entry_eq]
  generalize (lg_sl ([.ref (ad 0), .int (nI p1)]) ++ List.replicate (21 - (lg_sl ([.ref (ad 0), .int (nI p1)])).length) Slot.unset).toArray = ls at hl ⊢
  have hl : lv_has ls 21 [(0, .ref (ad 0)), (1, .int (nI p1))] := hl
  have K327u : ∀ (r327n : (Nat → VV)) (hj : f_M_tighten r0 p1 = f_M_tighten_327u r0 p1 r327n) (H : Heap) (locs : List Loc) (hP : va_P (dC, dI) classes (mW ad cJ cZ c0 r327n w0 s0) H) (hD : va_D A (mW ad cJ cZ c0 r327n w0 s0)) (hS : va_S A s.heap H locs) (ls : Array Slot) (hl : lv_has ls 21 []), W p l e (headSpec w_M_tighten ({ frames := 5, cells := 0, slots := 0, locals := 143 } : Room)).room s m ([.ref (ad 0), .int (nI p1)] : List Value).toArray below meth c H locs 0 0 (MQ below (va_Qv (fun _ : Unit => True) (mB (dC, dI) A (mW ad cJ cZ c0 (f_M_tighten r0 p1) w0 s0)) A) ([.ref (ad 0), .int (nI p1)] : List Value).toArray s 0 0 A) (F0 m 328 ls []) := by
    intro r327n hj H locs hP hD hS ls hl
    have fe : f_M_tighten r0 p1 = r327n := hj.trans rfl
    exact W.vret hx hb hr (fun t ht hW => ⟨⟨(), rfl, trivial, by rw [ht, fe]; exact hP, by rw [fe]; exact hD⟩, hS.F ht⟩) hS.2.2 d_M_tighten_328
  have K319u : ∀ (v153 : Int64) (r319n : (Nat → VV)) (hj : f_M_tighten r0 p1 = f_M_tighten_319u r0 p1 v153 r319n) (H : Heap) (locs : List Loc) (hP : va_P (dC, dI) classes (mW ad cJ cZ c0 r319n w0 s0) H) (hD : va_D A (mW ad cJ cZ c0 r319n w0 s0)) (hS : va_S A s.heap H locs) (ls : Array Slot) (hl : lv_has ls 21 [(14, .long (v153)), (0, .ref (ad 0)), (1, .int (nI p1))]), W p l e (headSpec w_M_tighten ({ frames := 5, cells := 0, slots := 0, locals := 143 } : Room)).room s m ([.ref (ad 0), .int (nI p1)] : List Value).toArray below meth c H locs 0 0 (MQ below (va_Qv (fun _ : Unit => True) (mB (dC, dI) A (mW ad cJ cZ c0 (f_M_tighten r0 p1) w0 s0)) A) ([.ref (ad 0), .int (nI p1)] : List Value).toArray s 0 0 A) (F0 m 320 ls []) := by
    intro v153 r319n hj H locs hP hD hS ls hl
    refine lv_aload_n hx hb d_M_tighten_320 rfl (lv_at hl 1 rfl) ?_
    refine va_get (D := (dC, dI)) (ci := 2) (v := .ref (ad 6)) (C := R_M) (T := F_M) (N := 10) hx hb hts (fun w h => List.mem_cons_of_mem _ (uw_M w h)) hown hK hP 0 rfl rfl 6 (by decide) (hG (.fieldLink R_M 25 "ValueSieveModel" "greatest" "[J") gx15) (fun _ h9 => h9) rfl d_M_tighten_321 ?_
    refine lv_iload_n hx hb d_M_tighten_324 rfl (lv_at hl 2 rfl) ?_
    refine lv_lload hx hb d_M_tighten_325 (lv_at hl 0 rfl) ?_
    refine ms_6 (P := p1) (x := v153) hx hb hK hP hD hS rfl b1 d_M_tighten_327 (fun H locs hP hD hS => ?_)
    obtain ⟨r327n, er327n⟩ : ∃ z, z = u6 r319n p1 v153 := ⟨_, rfl⟩
    rw [← er327n] at hP hD
    refine K327u r327n (Eq.trans (hj.trans rfl) (congrArg (fun r327n => f_M_tighten_327u r0 p1 r327n) er327n.symm)) H locs ?_ ?_ hS ls (lv_sub hl [] rfl)
    · with_reducible exact hP
    · with_reducible exact hD
  have K311u : ∀ (v153 : Int64) (v132 : Int64) (r311n : (Nat → VV)) (hj : f_M_tighten r0 p1 = f_M_tighten_311u r0 p1 v153 v132 r311n) (H : Heap) (locs : List Loc) (hP : va_P (dC, dI) classes (mW ad cJ cZ c0 r311n w0 s0) H) (hD : va_D A (mW ad cJ cZ c0 r311n w0 s0)) (hS : va_S A s.heap H locs) (ls : Array Slot) (hl : lv_has ls 21 [(14, .long (v153)), (12, .long (v132)), (0, .ref (ad 0)), (1, .int (nI p1))]), W p l e (headSpec w_M_tighten ({ frames := 5, cells := 0, slots := 0, locals := 143 } : Room)).room s m ([.ref (ad 0), .int (nI p1)] : List Value).toArray below meth c H locs 0 0 (MQ below (va_Qv (fun _ : Unit => True) (mB (dC, dI) A (mW ad cJ cZ c0 (f_M_tighten r0 p1) w0 s0)) A) ([.ref (ad 0), .int (nI p1)] : List Value).toArray s 0 0 A) (F0 m 312 ls []) := by
    intro v153 v132 r311n hj H locs hP hD hS ls hl
    refine lv_aload_n hx hb d_M_tighten_312 rfl (lv_at hl 2 rfl) ?_
    refine va_get (D := (dC, dI)) (ci := 2) (v := .ref (ad 5)) (C := R_M) (T := F_M) (N := 10) hx hb hts (fun w h => List.mem_cons_of_mem _ (uw_M w h)) hown hK hP 0 rfl rfl 5 (by decide) (hG (.fieldLink R_M 22 "ValueSieveModel" "least" "[J") gx14) (fun _ h9 => h9) rfl d_M_tighten_313 ?_
    refine lv_iload_n hx hb d_M_tighten_316 rfl (lv_at hl 3 rfl) ?_
    refine lv_lload hx hb d_M_tighten_317 (lv_at hl 1 rfl) ?_
    refine ms_5 (P := p1) (x := v132) hx hb hK hP hD hS rfl b1 d_M_tighten_319 (fun H locs hP hD hS => ?_)
    obtain ⟨r319n, er319n⟩ : ∃ z, z = u5 r311n p1 v132 := ⟨_, rfl⟩
    rw [← er319n] at hP hD
    refine K319u v153 r319n (Eq.trans (hj.trans rfl) (congrArg (fun r319n => f_M_tighten_319u r0 p1 v153 r319n) er319n.symm)) H locs ?_ ?_ hS ls (lv_sub hl [0, 2, 3] rfl)
    · with_reducible exact hP
    · with_reducible exact hD
  have K303u : ∀ (v153 : Int64) (v132 : Int64) (v119 : Int64) (r303n : (Nat → VV)) (hj : f_M_tighten r0 p1 = f_M_tighten_303u r0 p1 v153 v132 v119 r303n) (H : Heap) (locs : List Loc) (hP : va_P (dC, dI) classes (mW ad cJ cZ c0 r303n w0 s0) H) (hD : va_D A (mW ad cJ cZ c0 r303n w0 s0)) (hS : va_S A s.heap H locs) (ls : Array Slot) (hl : lv_has ls 21 [(14, .long (v153)), (12, .long (v132)), (10, .long (v119)), (0, .ref (ad 0)), (1, .int (nI p1))]), W p l e (headSpec w_M_tighten ({ frames := 5, cells := 0, slots := 0, locals := 143 } : Room)).room s m ([.ref (ad 0), .int (nI p1)] : List Value).toArray below meth c H locs 0 0 (MQ below (va_Qv (fun _ : Unit => True) (mB (dC, dI) A (mW ad cJ cZ c0 (f_M_tighten r0 p1) w0 s0)) A) ([.ref (ad 0), .int (nI p1)] : List Value).toArray s 0 0 A) (F0 m 304 ls []) := by
    intro v153 v132 v119 r303n hj H locs hP hD hS ls hl
    refine lv_aload_n hx hb d_M_tighten_304 rfl (lv_at hl 3 rfl) ?_
    refine va_get (D := (dC, dI)) (ci := 2) (v := .ref (ad 4)) (C := R_M) (T := F_M) (N := 10) hx hb hts (fun w h => List.mem_cons_of_mem _ (uw_M w h)) hown hK hP 0 rfl rfl 4 (by decide) (hG (.fieldLink R_M 19 "ValueSieveModel" "high" "[J") gx13) (fun _ h9 => h9) rfl d_M_tighten_305 ?_
    refine lv_iload_n hx hb d_M_tighten_308 rfl (lv_at hl 4 rfl) ?_
    refine lv_lload hx hb d_M_tighten_309 (lv_at hl 2 rfl) ?_
    refine ms_4 (P := p1) (x := v119) hx hb hK hP hD hS rfl b1 d_M_tighten_311 (fun H locs hP hD hS => ?_)
    obtain ⟨r311n, er311n⟩ : ∃ z, z = u4 r303n p1 v119 := ⟨_, rfl⟩
    rw [← er311n] at hP hD
    refine K311u v153 v132 r311n (Eq.trans (hj.trans rfl) (congrArg (fun r311n => f_M_tighten_311u r0 p1 v153 v132 r311n) er311n.symm)) H locs ?_ ?_ hS ls (lv_sub hl [0, 1, 3, 4] rfl)
    · with_reducible exact hP
    · with_reducible exact hD
  have K158 : ∀ (n158 : Nat) (x158_16 : Int32) (v153 : Int64) (v132 : Int64) (v119 : Int64) (v106 : Int64) (v63 : Int64) (v56 : Int64) (r158 : (Nat → VV)) (hm158 : (64 - x158_16.toInt).toNat < n158) (hj : f_M_tighten r0 p1 = f_M_tighten_158 r0 p1 n158 x158_16 v153 v132 v119 v106 v63 v56 r158) (H : Heap) (locs : List Loc) (hP : va_P (dC, dI) classes (mW ad cJ cZ c0 r158 w0 s0) H) (hD : va_D A (mW ad cJ cZ c0 r158 w0 s0)) (hS : va_S A s.heap H locs) (ls : Array Slot) (hl : lv_has ls 21 [(16, .int (x158_16)), (14, .long (v153)), (12, .long (v132)), (10, .long (v119)), (8, .long (v106)), (4, .long (v63)), (2, .long (v56)), (0, .ref (ad 0)), (1, .int (nI p1))]), W p l e (headSpec w_M_tighten ({ frames := 5, cells := 0, slots := 0, locals := 143 } : Room)).room s m ([.ref (ad 0), .int (nI p1)] : List Value).toArray below meth c H locs 0 0 (MQ below (va_Qv (fun _ : Unit => True) (mB (dC, dI) A (mW ad cJ cZ c0 (f_M_tighten r0 p1) w0 s0)) A) ([.ref (ad 0), .int (nI p1)] : List Value).toArray s 0 0 A) (F0 m 158 ls []) := by
    intro n158
    induction n158 with
    | zero => intro x158_16 v153 v132 v119 v106 v63 v56 r158 hm158 hj H locs hP hD hS ls hl; exact absurd hm158 (Nat.not_lt_zero _)
    | succ n158 ih158 =>
      intro x158_16 v153 v132 v119 v106 v63 v56 r158 hm158 hj H locs hP hD hS ls hl
      have K290 : ∀ (r290 : (Nat → VV)) (hj : f_M_tighten r0 p1 = f_M_tighten_290 r0 p1 x158_16 v153 v132 v119 v106 v63 v56 r158 (fun y0 y1 y2 y3 y4 y5 y6 y7 => f_M_tighten_158 r0 p1 n158 y0 y1 y2 y3 y4 y5 y6 y7) r290) (hf0 : ¬ 64 ≤ x158_16) (H : Heap) (locs : List Loc) (hP : va_P (dC, dI) classes (mW ad cJ cZ c0 r290 w0 s0) H) (hD : va_D A (mW ad cJ cZ c0 r290 w0 s0)) (hS : va_S A s.heap H locs) (ls : Array Slot) (hl : lv_has ls 21 [(16, .int (x158_16)), (14, .long (v153)), (12, .long (v132)), (10, .long (v119)), (8, .long (v106)), (4, .long (v63)), (2, .long (v56)), (0, .ref (ad 0)), (1, .int (nI p1))]), W p l e (headSpec w_M_tighten ({ frames := 5, cells := 0, slots := 0, locals := 143 } : Room)).room s m ([.ref (ad 0), .int (nI p1)] : List Value).toArray below meth c H locs 0 0 (MQ below (va_Qv (fun _ : Unit => True) (mB (dC, dI) A (mW ad cJ cZ c0 (f_M_tighten r0 p1) w0 s0)) A) ([.ref (ad 0), .int (nI p1)] : List Value).toArray s 0 0 A) (F0 m 290 ls []) := by
        intro r290 hj hf0 H locs hP hD hS ls hl
        refine lv_iinc (v := x158_16 + 1) (lv' := [(16, .int (x158_16 + 1)), (14, .long (v153)), (12, .long (v132)), (10, .long (v119)), (8, .long (v106)), (4, .long (v63)), (2, .long (v56)), (0, .ref (ad 0)), (1, .int (nI p1))]) hx hb d_M_tighten_290 hl (k := 0) rfl rfl (by decide) rfl (fun ls hl => ?_)
        refine lv_goto (tgt := 158) hx hb d_M_tighten_293 (by decide) ?_
        refine ih158 (x158_16 + 1) v153 v132 v119 v106 v63 v56 r290 (up_step hf0 hm158) (hj.trans rfl) H locs ?_ ?_ hS ls (lv_sub hl [0, 1, 2, 3, 4, 5, 6, 7, 8] rfl)
        · with_reducible exact hP
        · with_reducible exact hD
      have K289u : ∀ (r289n : (Nat → VV)) (hj : f_M_tighten r0 p1 = f_M_tighten_289u r0 p1 x158_16 v153 v132 v119 v106 v63 v56 r158 (fun y0 y1 y2 y3 y4 y5 y6 y7 => f_M_tighten_158 r0 p1 n158 y0 y1 y2 y3 y4 y5 y6 y7) r289n) (hf0 : ¬ 64 ≤ x158_16) (H : Heap) (locs : List Loc) (hP : va_P (dC, dI) classes (mW ad cJ cZ c0 r289n w0 s0) H) (hD : va_D A (mW ad cJ cZ c0 r289n w0 s0)) (hS : va_S A s.heap H locs) (ls : Array Slot) (hl : lv_has ls 21 [(16, .int (x158_16)), (14, .long (v153)), (12, .long (v132)), (10, .long (v119)), (8, .long (v106)), (4, .long (v63)), (2, .long (v56)), (0, .ref (ad 0)), (1, .int (nI p1))]), W p l e (headSpec w_M_tighten ({ frames := 5, cells := 0, slots := 0, locals := 143 } : Room)).room s m ([.ref (ad 0), .int (nI p1)] : List Value).toArray below meth c H locs 0 0 (MQ below (va_Qv (fun _ : Unit => True) (mB (dC, dI) A (mW ad cJ cZ c0 (f_M_tighten r0 p1) w0 s0)) A) ([.ref (ad 0), .int (nI p1)] : List Value).toArray s 0 0 A) (F0 m 290 ls []) := by
        intro r289n hj hf0 H locs hP hD hS ls hl
        refine K290 r289n (hj.trans rfl) hf0 H locs ?_ ?_ hS ls (lv_sub hl [0, 1, 2, 3, 4, 5, 6, 7, 8] rfl)
        · with_reducible exact hP
        · with_reducible exact hD
      have K289 : ∀ (s289_0 : Int64) (r255n : (Nat → VV)) (hj : f_M_tighten r0 p1 = f_M_tighten_289 r0 p1 x158_16 v153 v132 v119 v106 v63 v56 r158 (fun y0 y1 y2 y3 y4 y5 y6 y7 => f_M_tighten_158 r0 p1 n158 y0 y1 y2 y3 y4 y5 y6 y7) s289_0 r255n) (hf0 : ¬ 64 ≤ x158_16) (H : Heap) (locs : List Loc) (hP : va_P (dC, dI) classes (mW ad cJ cZ c0 r255n w0 s0) H) (hD : va_D A (mW ad cJ cZ c0 r255n w0 s0)) (hS : va_S A s.heap H locs) (ls : Array Slot) (hl : lv_has ls 21 [(16, .int (x158_16)), (14, .long (v153)), (12, .long (v132)), (10, .long (v119)), (8, .long (v106)), (4, .long (v63)), (2, .long (v56)), (0, .ref (ad 0)), (1, .int (nI p1))]), W p l e (headSpec w_M_tighten ({ frames := 5, cells := 0, slots := 0, locals := 143 } : Room)).room s m ([.ref (ad 0), .int (nI p1)] : List Value).toArray below meth c H locs 0 0 (MQ below (va_Qv (fun _ : Unit => True) (mB (dC, dI) A (mW ad cJ cZ c0 (f_M_tighten r0 p1) w0 s0)) A) ([.ref (ad 0), .int (nI p1)] : List Value).toArray s 0 0 A) (F0 m 289 ls [.long (s289_0), .int (nI p1), .ref (ad 1)]) := by
        intro s289_0 r255n hj hf0 H locs hP hD hS ls hl
        refine ms_1 (P := p1) (x := s289_0) hx hb hK hP hD hS rfl b1 d_M_tighten_289 (fun H locs hP hD hS => ?_)
        obtain ⟨r289n, er289n⟩ : ∃ z, z = u1 r255n p1 s289_0 := ⟨_, rfl⟩
        rw [← er289n] at hP hD
        refine K289u r289n (Eq.trans (hj.trans rfl) (congrArg (fun r289n => f_M_tighten_289u r0 p1 x158_16 v153 v132 v119 v106 v63 v56 r158 (fun y0 y1 y2 y3 y4 y5 y6 y7 => f_M_tighten_158 r0 p1 n158 y0 y1 y2 y3 y4 y5 y6 y7) r289n) er289n.symm)) hf0 H locs ?_ ?_ hS ls (lv_sub hl [0, 1, 2, 3, 4, 5, 6, 7, 8] rfl)
        · with_reducible exact hP
        · with_reducible exact hD
      have K283 : ∀ (r255n : (Nat → VV)) (hj : f_M_tighten r0 p1 = f_M_tighten_283 r0 p1 x158_16 v153 v132 v119 v106 v63 v56 r158 (fun y0 y1 y2 y3 y4 y5 y6 y7 => f_M_tighten_158 r0 p1 n158 y0 y1 y2 y3 y4 y5 y6 y7) r255n) (hf0 : ¬ 64 ≤ x158_16) (H : Heap) (locs : List Loc) (hP : va_P (dC, dI) classes (mW ad cJ cZ c0 r255n w0 s0) H) (hD : va_D A (mW ad cJ cZ c0 r255n w0 s0)) (hS : va_S A s.heap H locs) (ls : Array Slot) (hl : lv_has ls 21 [(16, .int (x158_16)), (14, .long (v153)), (12, .long (v132)), (10, .long (v119)), (8, .long (v106)), (4, .long (v63)), (2, .long (v56)), (0, .ref (ad 0)), (1, .int (nI p1))]), W p l e (headSpec w_M_tighten ({ frames := 5, cells := 0, slots := 0, locals := 143 } : Room)).room s m ([.ref (ad 0), .int (nI p1)] : List Value).toArray below meth c H locs 0 0 (MQ below (va_Qv (fun _ : Unit => True) (mB (dC, dI) A (mW ad cJ cZ c0 (f_M_tighten r0 p1) w0 s0)) A) ([.ref (ad 0), .int (nI p1)] : List Value).toArray s 0 0 A) (F0 m 283 ls [.int (nI p1), .ref (ad 1)]) := by
        intro r255n hj hf0 H locs hP hD hS ls hl
        refine lv_aload_n hx hb d_M_tighten_283 rfl (lv_at hl 7 rfl) ?_
        refine va_get (D := (dC, dI)) (ci := 2) (v := .ref (ad 1)) (C := R_M) (T := F_M) (N := 10) hx hb hts (fun w h => List.mem_cons_of_mem _ (uw_M w h)) hown hK hP 0 rfl rfl 1 (by decide) (hG (.fieldLink R_M 7 "ValueSieveModel" "bits" "[J") gx10) (fun _ h9 => h9) rfl d_M_tighten_284 ?_
        refine lv_iload_n hx hb d_M_tighten_287 rfl (lv_at hl 8 rfl) ?_
        refine ml_1 (P := p1) hx hb hK hP rfl b1 d_M_tighten_288 ?_
        refine K289 ((r255n p1).1) r255n (hj.trans rfl) hf0 H locs ?_ ?_ hS ls (lv_sub hl [0, 1, 2, 3, 4, 5, 6, 7, 8] rfl)
        · with_reducible exact hP
        · with_reducible exact hD
      have K255u : ∀ (v216 : Bool) (v196 : Bool) (v169 : Int64) (r255n : (Nat → VV)) (hj : f_M_tighten r0 p1 = f_M_tighten_255u r0 p1 x158_16 v153 v132 v119 v106 v63 v56 r158 (fun y0 y1 y2 y3 y4 y5 y6 y7 => f_M_tighten_158 r0 p1 n158 y0 y1 y2 y3 y4 y5 y6 y7) v216 v196 v169 r255n) (hf0 : ¬ 64 ≤ x158_16) (H : Heap) (locs : List Loc) (hP : va_P (dC, dI) classes (mW ad cJ cZ c0 r255n w0 s0) H) (hD : va_D A (mW ad cJ cZ c0 r255n w0 s0)) (hS : va_S A s.heap H locs) (ls : Array Slot) (hl : lv_has ls 21 [(20, .int (bI v216)), (19, .int (bI v196)), (17, .long (v169)), (16, .int (x158_16)), (14, .long (v153)), (12, .long (v132)), (10, .long (v119)), (8, .long (v106)), (4, .long (v63)), (2, .long (v56)), (0, .ref (ad 0)), (1, .int (nI p1))]), W p l e (headSpec w_M_tighten ({ frames := 5, cells := 0, slots := 0, locals := 143 } : Room)).room s m ([.ref (ad 0), .int (nI p1)] : List Value).toArray below meth c H locs 0 0 (MQ below (va_Qv (fun _ : Unit => True) (mB (dC, dI) A (mW ad cJ cZ c0 (f_M_tighten r0 p1) w0 s0)) A) ([.ref (ad 0), .int (nI p1)] : List Value).toArray s 0 0 A) (F0 m 256 ls []) := by
        intro v216 v196 v169 r255n hj hf0 H locs hP hD hS ls hl
        refine lv_aload_n hx hb d_M_tighten_256 rfl (lv_at hl 10 rfl) ?_
        refine va_get (D := (dC, dI)) (ci := 2) (v := .ref (ad 1)) (C := R_M) (T := F_M) (N := 10) hx hb hts (fun w h => List.mem_cons_of_mem _ (uw_M w h)) hown hK hP 0 rfl rfl 1 (by decide) (hG (.fieldLink R_M 7 "ValueSieveModel" "bits" "[J") gx10) (fun _ h9 => h9) rfl d_M_tighten_257 ?_
        refine lv_iload_n hx hb d_M_tighten_260 rfl (lv_at hl 11 rfl) ?_
        refine lv_iload hx hb d_M_tighten_261 (lv_at hl 0 rfl) ?_
        refine wz_eq (tgt := 283) hx hb d_M_tighten_263 (by decide) (fun e1_283 => ?_) (fun e1_283 => ?_)
        · refine K283 r255n (hj.trans (by unfold f_M_tighten_255u; first | with_reducible exact if_neg e1_283 | exact if_neg e1_283)) hf0 H locs ?_ ?_ hS ls (lv_sub hl [3, 4, 5, 6, 7, 8, 9, 10, 11] rfl)
          · with_reducible exact hP
          · with_reducible exact hD
        · refine lv_iload hx hb d_M_tighten_266 (lv_at hl 1 rfl) ?_
          refine wz_ne (tgt := 283) hx hb d_M_tighten_268 (by decide) (fun e2_283 => ?_) (fun e2_283 => ?_)
          · refine K283 r255n (hj.trans (by unfold f_M_tighten_255u; first | with_reducible exact (if_pos e1_283).trans (if_pos e2_283) | exact (if_pos e1_283).trans (if_pos e2_283))) hf0 H locs ?_ ?_ hS ls (lv_sub hl [3, 4, 5, 6, 7, 8, 9, 10, 11] rfl)
            · with_reducible exact hP
            · with_reducible exact hD
          · refine lv_aload_n hx hb d_M_tighten_271 rfl (lv_at hl 10 rfl) ?_
            refine va_get (D := (dC, dI)) (ci := 2) (v := .ref (ad 1)) (C := R_M) (T := F_M) (N := 10) hx hb hts (fun w h => List.mem_cons_of_mem _ (uw_M w h)) hown hK hP 0 rfl rfl 1 (by decide) (hG (.fieldLink R_M 7 "ValueSieveModel" "bits" "[J") gx10) (fun _ h9 => h9) rfl d_M_tighten_272 ?_
            refine lv_iload_n hx hb d_M_tighten_275 rfl (lv_at hl 11 rfl) ?_
            refine ml_1 (P := p1) hx hb hK hP rfl b1 d_M_tighten_276 ?_
            refine lv_lload hx hb d_M_tighten_277 (lv_at hl 2 rfl) ?_
            refine lv_lor hx hb d_M_tighten_279 ?_
            refine lv_goto (tgt := 289) hx hb d_M_tighten_280 (by decide) ?_
            refine K289 (((r255n p1).1) ||| v169) r255n (hj.trans (by unfold f_M_tighten_255u; first | with_reducible exact (if_pos e1_283).trans (if_neg e2_283) | exact (if_pos e1_283).trans (if_neg e2_283))) hf0 H locs ?_ ?_ hS ls (lv_sub hl [3, 4, 5, 6, 7, 8, 9, 10, 11] rfl)
            · with_reducible exact hP
            · with_reducible exact hD
      have K255 : ∀ (v216 : Bool) (v196 : Bool) (v169 : Int64) (s255_0 : Int64) (hj : f_M_tighten r0 p1 = f_M_tighten_255 r0 p1 x158_16 v153 v132 v119 v106 v63 v56 r158 (fun y0 y1 y2 y3 y4 y5 y6 y7 => f_M_tighten_158 r0 p1 n158 y0 y1 y2 y3 y4 y5 y6 y7) v216 v196 v169 s255_0) (hf0 : ¬ 64 ≤ x158_16) (H : Heap) (locs : List Loc) (hP : va_P (dC, dI) classes (mW ad cJ cZ c0 r158 w0 s0) H) (hD : va_D A (mW ad cJ cZ c0 r158 w0 s0)) (hS : va_S A s.heap H locs) (ls : Array Slot) (hl : lv_has ls 21 [(20, .int (bI v216)), (19, .int (bI v196)), (17, .long (v169)), (16, .int (x158_16)), (14, .long (v153)), (12, .long (v132)), (10, .long (v119)), (8, .long (v106)), (4, .long (v63)), (2, .long (v56)), (0, .ref (ad 0)), (1, .int (nI p1))]), W p l e (headSpec w_M_tighten ({ frames := 5, cells := 0, slots := 0, locals := 143 } : Room)).room s m ([.ref (ad 0), .int (nI p1)] : List Value).toArray below meth c H locs 0 0 (MQ below (va_Qv (fun _ : Unit => True) (mB (dC, dI) A (mW ad cJ cZ c0 (f_M_tighten r0 p1) w0 s0)) A) ([.ref (ad 0), .int (nI p1)] : List Value).toArray s 0 0 A) (F0 m 255 ls [.long (s255_0), .int (nI p1), .ref (ad 2)]) := by
        intro v216 v196 v169 s255_0 hj hf0 H locs hP hD hS ls hl
        refine ms_2 (P := p1) (x := s255_0) hx hb hK hP hD hS rfl b1 d_M_tighten_255 (fun H locs hP hD hS => ?_)
        obtain ⟨r255n, er255n⟩ : ∃ z, z = u2 r158 p1 s255_0 := ⟨_, rfl⟩
        rw [← er255n] at hP hD
        refine K255u v216 v196 v169 r255n (Eq.trans (hj.trans rfl) (congrArg (fun r255n => f_M_tighten_255u r0 p1 x158_16 v153 v132 v119 v106 v63 v56 r158 (fun y0 y1 y2 y3 y4 y5 y6 y7 => f_M_tighten_158 r0 p1 n158 y0 y1 y2 y3 y4 y5 y6 y7) v216 v196 v169 r255n) er255n.symm)) hf0 H locs ?_ ?_ hS ls (lv_sub hl [0, 1, 2, 3, 4, 5, 6, 7, 8, 9, 10, 11] rfl)
        · with_reducible exact hP
        · with_reducible exact hD
      have K242 : ∀ (v216 : Bool) (v196 : Bool) (v169 : Int64) (hj : f_M_tighten r0 p1 = f_M_tighten_242 r0 p1 x158_16 v153 v132 v119 v106 v63 v56 r158 (fun y0 y1 y2 y3 y4 y5 y6 y7 => f_M_tighten_158 r0 p1 n158 y0 y1 y2 y3 y4 y5 y6 y7) v216 v196 v169) (hf0 : ¬ 64 ≤ x158_16) (H : Heap) (locs : List Loc) (hP : va_P (dC, dI) classes (mW ad cJ cZ c0 r158 w0 s0) H) (hD : va_D A (mW ad cJ cZ c0 r158 w0 s0)) (hS : va_S A s.heap H locs) (ls : Array Slot) (hl : lv_has ls 21 [(20, .int (bI v216)), (19, .int (bI v196)), (17, .long (v169)), (16, .int (x158_16)), (14, .long (v153)), (12, .long (v132)), (10, .long (v119)), (8, .long (v106)), (4, .long (v63)), (2, .long (v56)), (0, .ref (ad 0)), (1, .int (nI p1))]), W p l e (headSpec w_M_tighten ({ frames := 5, cells := 0, slots := 0, locals := 143 } : Room)).room s m ([.ref (ad 0), .int (nI p1)] : List Value).toArray below meth c H locs 0 0 (MQ below (va_Qv (fun _ : Unit => True) (mB (dC, dI) A (mW ad cJ cZ c0 (f_M_tighten r0 p1) w0 s0)) A) ([.ref (ad 0), .int (nI p1)] : List Value).toArray s 0 0 A) (F0 m 242 ls [.int (nI p1), .ref (ad 2)]) := by
        intro v216 v196 v169 hj hf0 H locs hP hD hS ls hl
        refine lv_aload_n hx hb d_M_tighten_242 rfl (lv_at hl 10 rfl) ?_
        refine va_get (D := (dC, dI)) (ci := 2) (v := .ref (ad 2)) (C := R_M) (T := F_M) (N := 10) hx hb hts (fun w h => List.mem_cons_of_mem _ (uw_M w h)) hown hK hP 0 rfl rfl 2 (by decide) (hG (.fieldLink R_M 13 "ValueSieveModel" "open" "[J") gx11) (fun _ h9 => h9) rfl d_M_tighten_243 ?_
        refine lv_iload_n hx hb d_M_tighten_246 rfl (lv_at hl 11 rfl) ?_
        refine ml_2 (P := p1) hx hb hK hP rfl b1 d_M_tighten_247 ?_
        refine lv_lload hx hb d_M_tighten_248 (lv_at hl 2 rfl) ?_
        refine lv_ldc2 (v := -1) hx hb hown (hG (.constantLong R_M 49 (-1)) gx42) d_M_tighten_250 ?_
        refine lv_lxor hx hb d_M_tighten_253 ?_
        refine lv_land hx hb d_M_tighten_254 ?_
        refine K255 v216 v196 v169 (((r158 p1).2.1) &&& (v169 ^^^ (-1 : Int64))) (hj.trans rfl) hf0 H locs ?_ ?_ hS ls (lv_sub hl [0, 1, 2, 3, 4, 5, 6, 7, 8, 9, 10, 11] rfl)
        · with_reducible exact hP
        · with_reducible exact hD
      have K216v : ∀ (v216 : Bool) (v196 : Bool) (v169 : Int64) (hj : f_M_tighten r0 p1 = f_M_tighten_216v r0 p1 x158_16 v153 v132 v119 v106 v63 v56 r158 (fun y0 y1 y2 y3 y4 y5 y6 y7 => f_M_tighten_158 r0 p1 n158 y0 y1 y2 y3 y4 y5 y6 y7) v216 v196 v169) (hf0 : ¬ 64 ≤ x158_16) (H : Heap) (locs : List Loc) (hP : va_P (dC, dI) classes (mW ad cJ cZ c0 r158 w0 s0) H) (hD : va_D A (mW ad cJ cZ c0 r158 w0 s0)) (hS : va_S A s.heap H locs) (ls : Array Slot) (hl : lv_has ls 21 [(20, .int (bI v216)), (19, .int (bI v196)), (17, .long (v169)), (16, .int (x158_16)), (14, .long (v153)), (12, .long (v132)), (10, .long (v119)), (8, .long (v106)), (4, .long (v63)), (2, .long (v56)), (0, .ref (ad 0)), (1, .int (nI p1))]), W p l e (headSpec w_M_tighten ({ frames := 5, cells := 0, slots := 0, locals := 143 } : Room)).room s m ([.ref (ad 0), .int (nI p1)] : List Value).toArray below meth c H locs 0 0 (MQ below (va_Qv (fun _ : Unit => True) (mB (dC, dI) A (mW ad cJ cZ c0 (f_M_tighten r0 p1) w0 s0)) A) ([.ref (ad 0), .int (nI p1)] : List Value).toArray s 0 0 A) (F0 m 218 ls []) := by
        intro v216 v196 v169 hj hf0 H locs hP hD hS ls hl
        refine lv_aload_n hx hb d_M_tighten_218 rfl (lv_at hl 10 rfl) ?_
        refine va_get (D := (dC, dI)) (ci := 2) (v := .ref (ad 2)) (C := R_M) (T := F_M) (N := 10) hx hb hts (fun w h => List.mem_cons_of_mem _ (uw_M w h)) hown hK hP 0 rfl rfl 2 (by decide) (hG (.fieldLink R_M 13 "ValueSieveModel" "open" "[J") gx11) (fun _ h9 => h9) rfl d_M_tighten_219 ?_
        refine lv_iload_n hx hb d_M_tighten_222 rfl (lv_at hl 11 rfl) ?_
        refine lv_iload hx hb d_M_tighten_223 (lv_at hl 1 rfl) ?_
        refine wz_eq (tgt := 242) hx hb d_M_tighten_225 (by decide) (fun e1_242 => ?_) (fun e1_242 => ?_)
        · refine K242 v216 v196 v169 (hj.trans (by unfold f_M_tighten_216v; first | with_reducible exact if_neg e1_242 | exact if_neg e1_242)) hf0 H locs ?_ ?_ hS ls (lv_sub hl [0, 1, 2, 3, 4, 5, 6, 7, 8, 9, 10, 11] rfl)
          · with_reducible exact hP
          · with_reducible exact hD
        · refine lv_iload hx hb d_M_tighten_228 (lv_at hl 0 rfl) ?_
          refine wz_eq (tgt := 242) hx hb d_M_tighten_230 (by decide) (fun e2_242 => ?_) (fun e2_242 => ?_)
          · refine K242 v216 v196 v169 (hj.trans (by unfold f_M_tighten_216v; first | with_reducible exact (if_pos e1_242).trans (if_neg e2_242) | exact (if_pos e1_242).trans (if_neg e2_242))) hf0 H locs ?_ ?_ hS ls (lv_sub hl [0, 1, 2, 3, 4, 5, 6, 7, 8, 9, 10, 11] rfl)
            · with_reducible exact hP
            · with_reducible exact hD
          · refine lv_aload_n hx hb d_M_tighten_233 rfl (lv_at hl 10 rfl) ?_
            refine va_get (D := (dC, dI)) (ci := 2) (v := .ref (ad 2)) (C := R_M) (T := F_M) (N := 10) hx hb hts (fun w h => List.mem_cons_of_mem _ (uw_M w h)) hown hK hP 0 rfl rfl 2 (by decide) (hG (.fieldLink R_M 13 "ValueSieveModel" "open" "[J") gx11) (fun _ h9 => h9) rfl d_M_tighten_234 ?_
            refine lv_iload_n hx hb d_M_tighten_237 rfl (lv_at hl 11 rfl) ?_
            refine ml_2 (P := p1) hx hb hK hP rfl b1 d_M_tighten_238 ?_
            refine lv_goto (tgt := 255) hx hb d_M_tighten_239 (by decide) ?_
            refine K255 v216 v196 v169 ((r158 p1).2.1) (hj.trans (by unfold f_M_tighten_216v; first | with_reducible exact (if_pos e1_242).trans (if_pos e2_242) | exact (if_pos e1_242).trans (if_pos e2_242))) hf0 H locs ?_ ?_ hS ls (lv_sub hl [0, 1, 2, 3, 4, 5, 6, 7, 8, 9, 10, 11] rfl)
            · with_reducible exact hP
            · with_reducible exact hD
      have K196v : ∀ (v196 : Bool) (v169 : Int64) (hj : f_M_tighten r0 p1 = f_M_tighten_196v r0 p1 x158_16 v153 v132 v119 v106 v63 v56 r158 (fun y0 y1 y2 y3 y4 y5 y6 y7 => f_M_tighten_158 r0 p1 n158 y0 y1 y2 y3 y4 y5 y6 y7) v196 v169) (hf0 : ¬ 64 ≤ x158_16) (H : Heap) (locs : List Loc) (hP : va_P (dC, dI) classes (mW ad cJ cZ c0 r158 w0 s0) H) (hD : va_D A (mW ad cJ cZ c0 r158 w0 s0)) (hS : va_S A s.heap H locs) (ls : Array Slot) (hl : lv_has ls 21 [(19, .int (bI v196)), (17, .long (v169)), (16, .int (x158_16)), (14, .long (v153)), (12, .long (v132)), (10, .long (v119)), (8, .long (v106)), (4, .long (v63)), (2, .long (v56)), (0, .ref (ad 0)), (1, .int (nI p1))]), W p l e (headSpec w_M_tighten ({ frames := 5, cells := 0, slots := 0, locals := 143 } : Room)).room s m ([.ref (ad 0), .int (nI p1)] : List Value).toArray below meth c H locs 0 0 (MQ below (va_Qv (fun _ : Unit => True) (mB (dC, dI) A (mW ad cJ cZ c0 (f_M_tighten r0 p1) w0 s0)) A) ([.ref (ad 0), .int (nI p1)] : List Value).toArray s 0 0 A) (F0 m 198 ls []) := by
        intro v196 v169 hj hf0 H locs hP hD hS ls hl
        refine lv_aload_n hx hb d_M_tighten_198 rfl (lv_at hl 9 rfl) ?_
        refine lv_iload_n hx hb d_M_tighten_199 rfl (lv_at hl 10 rfl) ?_
        refine lv_lload_n hx hb d_M_tighten_200 rfl (lv_at hl 8 rfl) ?_
        refine lv_lload hx hb d_M_tighten_201 (lv_at hl 1 rfl) ?_
        refine lv_lor hx hb d_M_tighten_203 ?_
        refine lv_lload hx hb d_M_tighten_204 (lv_at hl 7 rfl) ?_
        refine lv_lload hx hb d_M_tighten_206 (lv_at hl 1 rfl) ?_
        refine lv_ldc2 (v := -1) hx hb hown (hG (.constantLong R_M 49 (-1)) gx42) d_M_tighten_208 ?_
        refine lv_lxor hx hb d_M_tighten_211 ?_
        refine lv_land hx hb d_M_tighten_212 ?_
        refine rc_i (W.runV (As := [.int (nI p1), .long (v56 ||| v169), .long (v63 &&& (v169 ^^^ (-1 : Int64)))]) (rest := []) ⟨hx, hb, hml, hown, hts⟩ (c_M_hasAny l dC dI ad cJ cZ c0 r158 w0 s0 p1 (v56 ||| v169) (v63 &&& (v169 ^^^ (-1 : Int64))) b1) (cwV 3 hts (gxV gx72 gx73 gx273 gx0 gx74) rfl rfl rfl (by decide +kernel) ⟨(Nat.le_of_ble_eq_true rfl), (Nat.le_of_ble_eq_true rfl)⟩) ⟨bln, va_recv hK hP (ci := 2) (q0 := 0) rfl rfl, fun U hU hW => ⟨rfl, by rw [hU]; exact hP, va_K.moved hW.alike hK⟩⟩ rfl rfl hl.1 rfl (lv_room (Nat.le_of_ble_eq_true rfl)) d_M_tighten_213 ⟨Nat.zero_le _, Nat.zero_le _⟩) ?_
        refine top_b (fun v216 ev216 => ?_)
        refine lv_istore (lv' := [(20, .int (bI v216)), (19, .int (bI v196)), (17, .long (v169)), (16, .int (x158_16)), (14, .long (v153)), (12, .long (v132)), (10, .long (v119)), (8, .long (v106)), (4, .long (v63)), (2, .long (v56)), (0, .ref (ad 0)), (1, .int (nI p1))]) hx hb d_M_tighten_216 hl (by decide) rfl (fun ls hl => ?_)
        refine K216v v216 v196 v169 (Eq.trans (hj.trans rfl) (congrArg (fun v216 => f_M_tighten_216v r0 p1 x158_16 v153 v132 v119 v106 v63 v56 r158 (fun y0 y1 y2 y3 y4 y5 y6 y7 => f_M_tighten_158 r0 p1 n158 y0 y1 y2 y3 y4 y5 y6 y7) v216 v196 v169) ev216.symm)) hf0 H locs ?_ ?_ hS ls (lv_sub hl [0, 1, 2, 3, 4, 5, 6, 7, 8, 9, 10, 11] rfl)
        · with_reducible exact hP
        · with_reducible exact hD
      have K169v : ∀ (v169 : Int64) (hj : f_M_tighten r0 p1 = f_M_tighten_169v r0 p1 x158_16 v153 v132 v119 v106 v63 v56 r158 (fun y0 y1 y2 y3 y4 y5 y6 y7 => f_M_tighten_158 r0 p1 n158 y0 y1 y2 y3 y4 y5 y6 y7) v169) (hf0 : ¬ 64 ≤ x158_16) (H : Heap) (locs : List Loc) (hP : va_P (dC, dI) classes (mW ad cJ cZ c0 r158 w0 s0) H) (hD : va_D A (mW ad cJ cZ c0 r158 w0 s0)) (hS : va_S A s.heap H locs) (ls : Array Slot) (hl : lv_has ls 21 [(17, .long (v169)), (16, .int (x158_16)), (14, .long (v153)), (12, .long (v132)), (10, .long (v119)), (8, .long (v106)), (4, .long (v63)), (2, .long (v56)), (0, .ref (ad 0)), (1, .int (nI p1))]), W p l e (headSpec w_M_tighten ({ frames := 5, cells := 0, slots := 0, locals := 143 } : Room)).room s m ([.ref (ad 0), .int (nI p1)] : List Value).toArray below meth c H locs 0 0 (MQ below (va_Qv (fun _ : Unit => True) (mB (dC, dI) A (mW ad cJ cZ c0 (f_M_tighten r0 p1) w0 s0)) A) ([.ref (ad 0), .int (nI p1)] : List Value).toArray s 0 0 A) (F0 m 171 ls []) := by
        intro v169 hj hf0 H locs hP hD hS ls hl
        refine lv_lload hx hb d_M_tighten_171 (lv_at hl 6 rfl) ?_
        refine lv_lload hx hb d_M_tighten_173 (lv_at hl 0 rfl) ?_
        refine lv_land hx hb d_M_tighten_175 ?_
        refine lv_lconst (v := 0) hx hb d_M_tighten_176 (by decide) ?_
        refine wl_eq (tgt := 290) hx hb d_M_tighten_177 d_M_tighten_178 (by decide) (fun e1_290 => ?_) (fun e1_290 => ?_)
        · refine K290 r158 (hj.trans (by unfold f_M_tighten_169v; first | with_reducible exact if_pos e1_290 | exact if_pos e1_290)) hf0 H locs ?_ ?_ hS ls (lv_sub hl [1, 2, 3, 4, 5, 6, 7, 8, 9] rfl)
          · with_reducible exact hP
          · with_reducible exact hD
        · refine lv_aload_n hx hb d_M_tighten_181 rfl (lv_at hl 8 rfl) ?_
          refine lv_iload_n hx hb d_M_tighten_182 rfl (lv_at hl 9 rfl) ?_
          refine lv_lload_n hx hb d_M_tighten_183 rfl (lv_at hl 7 rfl) ?_
          refine lv_lload hx hb d_M_tighten_184 (lv_at hl 6 rfl) ?_
          refine lv_lload hx hb d_M_tighten_186 (lv_at hl 0 rfl) ?_
          refine lv_ldc2 (v := -1) hx hb hown (hG (.constantLong R_M 49 (-1)) gx42) d_M_tighten_188 ?_
          refine lv_lxor hx hb d_M_tighten_191 ?_
          refine lv_land hx hb d_M_tighten_192 ?_
          refine rc_i (W.runV (As := [.int (nI p1), .long (v56), .long (v63 &&& (v169 ^^^ (-1 : Int64)))]) (rest := []) ⟨hx, hb, hml, hown, hts⟩ (c_M_hasAny l dC dI ad cJ cZ c0 r158 w0 s0 p1 v56 (v63 &&& (v169 ^^^ (-1 : Int64))) b1) (cwV 3 hts (gxV gx72 gx73 gx273 gx0 gx74) rfl rfl rfl (by decide +kernel) ⟨(Nat.le_of_ble_eq_true rfl), (Nat.le_of_ble_eq_true rfl)⟩) ⟨bln, va_recv hK hP (ci := 2) (q0 := 0) rfl rfl, fun U hU hW => ⟨rfl, by rw [hU]; exact hP, va_K.moved hW.alike hK⟩⟩ rfl rfl hl.1 rfl (lv_room (Nat.le_of_ble_eq_true rfl)) d_M_tighten_193 ⟨Nat.zero_le _, Nat.zero_le _⟩) ?_
          refine top_b (fun v196 ev196 => ?_)
          refine lv_istore (lv' := [(19, .int (bI v196)), (17, .long (v169)), (16, .int (x158_16)), (14, .long (v153)), (12, .long (v132)), (10, .long (v119)), (8, .long (v106)), (4, .long (v63)), (2, .long (v56)), (0, .ref (ad 0)), (1, .int (nI p1))]) hx hb d_M_tighten_196 hl (by decide) rfl (fun ls hl => ?_)
          refine K196v v196 v169 (Eq.trans (hj.trans (by unfold f_M_tighten_169v; first | with_reducible exact if_neg e1_290 | exact if_neg e1_290)) (congrArg (fun v196 => f_M_tighten_196v r0 p1 x158_16 v153 v132 v119 v106 v63 v56 r158 (fun y0 y1 y2 y3 y4 y5 y6 y7 => f_M_tighten_158 r0 p1 n158 y0 y1 y2 y3 y4 y5 y6 y7) v196 v169) ev196.symm)) hf0 H locs ?_ ?_ hS ls (lv_sub hl [0, 1, 2, 3, 4, 5, 6, 7, 8, 9, 10] rfl)
          · with_reducible exact hP
          · with_reducible exact hD
      refine lv_iload hx hb d_M_tighten_158 (lv_at hl 0 rfl) ?_
      refine lv_bipush (v := 64) hx hb d_M_tighten_160 (by decide) ?_
      refine lv_icmp_ge (tgt := 296) hx hb d_M_tighten_162 (by decide) (fun e1_296 => ?_) (fun e1_296 => ?_)
      · refine lv_aload_n hx hb d_M_tighten_296 rfl (lv_at hl 7 rfl) ?_
        refine va_get (D := (dC, dI)) (ci := 2) (v := .ref (ad 3)) (C := R_M) (T := F_M) (N := 10) hx hb hts (fun w h => List.mem_cons_of_mem _ (uw_M w h)) hown hK hP 0 rfl rfl 3 (by decide) (hG (.fieldLink R_M 16 "ValueSieveModel" "low" "[J") gx12) (fun _ h9 => h9) rfl d_M_tighten_297 ?_
        refine lv_iload_n hx hb d_M_tighten_300 rfl (lv_at hl 8 rfl) ?_
        refine lv_lload hx hb d_M_tighten_301 (lv_at hl 4 rfl) ?_
        refine ms_3 (P := p1) (x := v106) hx hb hK hP hD hS rfl b1 d_M_tighten_303 (fun H locs hP hD hS => ?_)
        obtain ⟨r303n, er303n⟩ : ∃ z, z = u3 r158 p1 v106 := ⟨_, rfl⟩
        rw [← er303n] at hP hD
        refine K303u v153 v132 v119 r303n (Eq.trans (hj.trans ((f_M_tighten_158.eq_2 r0 p1 _ _ _ _ _ _ _ _ _).trans (by first | with_reducible exact if_pos e1_296 | exact if_pos e1_296))) (congrArg (fun r303n => f_M_tighten_303u r0 p1 v153 v132 v119 r303n) er303n.symm)) H locs ?_ ?_ hS ls (lv_sub hl [1, 2, 3, 7, 8] rfl)
        · with_reducible exact hP
        · with_reducible exact hD
      · refine lv_lconst (v := 1) hx hb d_M_tighten_165 (by decide) ?_
        refine lv_iload hx hb d_M_tighten_166 (lv_at hl 0 rfl) ?_
        refine lv_lshl (v := (1 : Int64) <<< (x158_16.toInt64 &&& 63)) hx hb d_M_tighten_168 rfl ?_
        refine lv_topl (fun v169 ev169 => ?_)
        refine lv_lstore (lv' := [(17, .long (v169)), (16, .int (x158_16)), (14, .long (v153)), (12, .long (v132)), (10, .long (v119)), (8, .long (v106)), (4, .long (v63)), (2, .long (v56)), (0, .ref (ad 0)), (1, .int (nI p1))]) hx hb d_M_tighten_169 hl (by decide) rfl (fun ls hl => ?_)
        refine K169v v169 (Eq.trans (hj.trans ((f_M_tighten_158.eq_2 r0 p1 _ _ _ _ _ _ _ _ _).trans (by first | with_reducible exact if_neg e1_296 | exact if_neg e1_296))) (congrArg (fun v169 => f_M_tighten_169v r0 p1 x158_16 v153 v132 v119 v106 v63 v56 r158 (fun y0 y1 y2 y3 y4 y5 y6 y7 => f_M_tighten_158 r0 p1 n158 y0 y1 y2 y3 y4 y5 y6 y7) v169) ev169.symm)) e1_296 H locs ?_ ?_ hS ls (lv_sub hl [0, 1, 2, 3, 4, 5, 6, 7, 8, 9] rfl)
        · with_reducible exact hP
        · with_reducible exact hD
  have K153v : ∀ (v153 : Int64) (v132 : Int64) (v119 : Int64) (v106 : Int64) (v63 : Int64) (v56 : Int64) (r39n : (Nat → VV)) (hj : f_M_tighten r0 p1 = f_M_tighten_153v r0 p1 v153 v132 v119 v106 v63 v56 r39n) (H : Heap) (locs : List Loc) (hP : va_P (dC, dI) classes (mW ad cJ cZ c0 r39n w0 s0) H) (hD : va_D A (mW ad cJ cZ c0 r39n w0 s0)) (hS : va_S A s.heap H locs) (ls : Array Slot) (hl : lv_has ls 21 [(14, .long (v153)), (12, .long (v132)), (10, .long (v119)), (8, .long (v106)), (4, .long (v63)), (2, .long (v56)), (0, .ref (ad 0)), (1, .int (nI p1))]), W p l e (headSpec w_M_tighten ({ frames := 5, cells := 0, slots := 0, locals := 143 } : Room)).room s m ([.ref (ad 0), .int (nI p1)] : List Value).toArray below meth c H locs 0 0 (MQ below (va_Qv (fun _ : Unit => True) (mB (dC, dI) A (mW ad cJ cZ c0 (f_M_tighten r0 p1) w0 s0)) A) ([.ref (ad 0), .int (nI p1)] : List Value).toArray s 0 0 A) (F0 m 155 ls []) := by
    intro v153 v132 v119 v106 v63 v56 r39n hj H locs hP hD hS ls hl
    refine lv_iconst (v := 0) hx hb d_M_tighten_155 (by decide) ?_
    refine lv_istore (lv' := [(16, .int (0)), (14, .long (v153)), (12, .long (v132)), (10, .long (v119)), (8, .long (v106)), (4, .long (v63)), (2, .long (v56)), (0, .ref (ad 0)), (1, .int (nI p1))]) hx hb d_M_tighten_156 hl (by decide) rfl (fun ls hl => ?_)
    refine K158 65 0 v153 v132 v119 v106 v63 v56 r39n (by decide) (hj.trans rfl) H locs ?_ ?_ hS ls (lv_sub hl [0, 1, 2, 3, 4, 5, 6, 7, 8] rfl)
    · with_reducible exact hP
    · with_reducible exact hD
  have K149 : ∀ (v132 : Int64) (v119 : Int64) (v106 : Int64) (v63 : Int64) (v56 : Int64) (s149_0 : Bool) (s149_1 : Int64) (s149_2 : Int64) (r39n : (Nat → VV)) (hj : f_M_tighten r0 p1 = f_M_tighten_149 r0 p1 v132 v119 v106 v63 v56 s149_0 s149_1 s149_2 r39n) (H : Heap) (locs : List Loc) (hP : va_P (dC, dI) classes (mW ad cJ cZ c0 r39n w0 s0) H) (hD : va_D A (mW ad cJ cZ c0 r39n w0 s0)) (hS : va_S A s.heap H locs) (ls : Array Slot) (hl : lv_has ls 21 [(12, .long (v132)), (10, .long (v119)), (8, .long (v106)), (4, .long (v63)), (2, .long (v56)), (0, .ref (ad 0)), (1, .int (nI p1))]), W p l e (headSpec w_M_tighten ({ frames := 5, cells := 0, slots := 0, locals := 143 } : Room)).room s m ([.ref (ad 0), .int (nI p1)] : List Value).toArray below meth c H locs 0 0 (MQ below (va_Qv (fun _ : Unit => True) (mB (dC, dI) A (mW ad cJ cZ c0 (f_M_tighten r0 p1) w0 s0)) A) ([.ref (ad 0), .int (nI p1)] : List Value).toArray s 0 0 A) (F0 m 149 ls [.int (bI s149_0), .long (s149_1), .long (s149_2), .int (nI p1), .ref (ad 0)]) := by
    intro v132 v119 v106 v63 v56 s149_0 s149_1 s149_2 r39n hj H locs hP hD hS ls hl
    refine lv_iconst (v := 0) hx hb d_M_tighten_149 (by decide) ?_
    refine rc_l (W.runV (As := [.int (nI p1), .long (s149_2), .long (s149_1), .int (bI s149_0), .int (0)]) (rest := []) ⟨hx, hb, hml, hown, hts⟩ (c_M_end_ l dC dI ad cJ cZ c0 r39n w0 s0 p1 s149_2 s149_1 s149_0 false b1) (cwV 5 hts (gxV gx78 gx79 gx271 gx0 gx80) rfl rfl rfl (by decide +kernel) ⟨(Nat.le_of_ble_eq_true rfl), (Nat.le_of_ble_eq_true rfl)⟩) ⟨bln, va_recv hK hP (ci := 2) (q0 := 0) rfl rfl, fun U hU hW => ⟨rfl, by rw [hU]; exact hP, va_K.moved hW.alike hK⟩⟩ rfl rfl hl.1 rfl (lv_room (Nat.le_of_ble_eq_true rfl)) d_M_tighten_150 ⟨Nat.zero_le _, Nat.zero_le _⟩) ?_
    refine lv_topl (fun v153 ev153 => ?_)
    refine lv_lstore (lv' := [(14, .long (v153)), (12, .long (v132)), (10, .long (v119)), (8, .long (v106)), (4, .long (v63)), (2, .long (v56)), (0, .ref (ad 0)), (1, .int (nI p1))]) hx hb d_M_tighten_153 hl (by decide) rfl (fun ls hl => ?_)
    refine K153v v153 v132 v119 v106 v63 v56 r39n (Eq.trans (hj.trans rfl) (congrArg (fun v153 => f_M_tighten_153v r0 p1 v153 v132 v119 v106 v63 v56 r39n) ev153.symm)) H locs ?_ ?_ hS ls (lv_sub hl [0, 1, 2, 3, 4, 5, 6, 7] rfl)
    · with_reducible exact hP
    · with_reducible exact hD
  have K132v : ∀ (v132 : Int64) (v119 : Int64) (v106 : Int64) (v74 : Bool) (v63 : Int64) (v56 : Int64) (r39n : (Nat → VV)) (hj : f_M_tighten r0 p1 = f_M_tighten_132v r0 p1 v132 v119 v106 v74 v63 v56 r39n) (H : Heap) (locs : List Loc) (hP : va_P (dC, dI) classes (mW ad cJ cZ c0 r39n w0 s0) H) (hD : va_D A (mW ad cJ cZ c0 r39n w0 s0)) (hS : va_S A s.heap H locs) (ls : Array Slot) (hl : lv_has ls 21 [(12, .long (v132)), (10, .long (v119)), (8, .long (v106)), (6, .int (bI v74)), (4, .long (v63)), (2, .long (v56)), (0, .ref (ad 0)), (1, .int (nI p1))]), W p l e (headSpec w_M_tighten ({ frames := 5, cells := 0, slots := 0, locals := 143 } : Room)).room s m ([.ref (ad 0), .int (nI p1)] : List Value).toArray below meth c H locs 0 0 (MQ below (va_Qv (fun _ : Unit => True) (mB (dC, dI) A (mW ad cJ cZ c0 (f_M_tighten r0 p1) w0 s0)) A) ([.ref (ad 0), .int (nI p1)] : List Value).toArray s 0 0 A) (F0 m 134 ls []) := by
    intro v132 v119 v106 v74 v63 v56 r39n hj H locs hP hD hS ls hl
    refine lv_aload_n hx hb d_M_tighten_134 rfl (lv_at hl 6 rfl) ?_
    refine lv_iload_n hx hb d_M_tighten_135 rfl (lv_at hl 7 rfl) ?_
    refine lv_lload_n hx hb d_M_tighten_136 rfl (lv_at hl 5 rfl) ?_
    refine lv_lload hx hb d_M_tighten_137 (lv_at hl 4 rfl) ?_
    refine lv_iload hx hb d_M_tighten_139 (lv_at hl 3 rfl) ?_
    refine wz_ne (tgt := 148) hx hb d_M_tighten_141 (by decide) (fun e1_148 => ?_) (fun e1_148 => ?_)
    · refine lv_iconst (v := 0) hx hb d_M_tighten_148 (by decide) ?_
      refine K149 v132 v119 v106 v63 v56 false v63 v56 r39n (hj.trans (by unfold f_M_tighten_132v; first | with_reducible exact if_pos e1_148 | exact if_pos e1_148)) H locs ?_ ?_ hS ls (lv_sub hl [0, 1, 2, 4, 5, 6, 7] rfl)
      · with_reducible exact hP
      · with_reducible exact hD
    · refine lv_iconst (v := 1) hx hb d_M_tighten_144 (by decide) ?_
      refine lv_goto (tgt := 149) hx hb d_M_tighten_145 (by decide) ?_
      refine K149 v132 v119 v106 v63 v56 true v63 v56 r39n (hj.trans (by unfold f_M_tighten_132v; first | with_reducible exact if_neg e1_148 | exact if_neg e1_148)) H locs ?_ ?_ hS ls (lv_sub hl [0, 1, 2, 4, 5, 6, 7] rfl)
      · with_reducible exact hP
      · with_reducible exact hD
  have K119v : ∀ (v119 : Int64) (v106 : Int64) (v85 : Bool) (v74 : Bool) (v63 : Int64) (v56 : Int64) (r39n : (Nat → VV)) (hj : f_M_tighten r0 p1 = f_M_tighten_119v r0 p1 v119 v106 v85 v74 v63 v56 r39n) (H : Heap) (locs : List Loc) (hP : va_P (dC, dI) classes (mW ad cJ cZ c0 r39n w0 s0) H) (hD : va_D A (mW ad cJ cZ c0 r39n w0 s0)) (hS : va_S A s.heap H locs) (ls : Array Slot) (hl : lv_has ls 21 [(10, .long (v119)), (8, .long (v106)), (7, .int (bI v85)), (6, .int (bI v74)), (4, .long (v63)), (2, .long (v56)), (0, .ref (ad 0)), (1, .int (nI p1))]), W p l e (headSpec w_M_tighten ({ frames := 5, cells := 0, slots := 0, locals := 143 } : Room)).room s m ([.ref (ad 0), .int (nI p1)] : List Value).toArray below meth c H locs 0 0 (MQ below (va_Qv (fun _ : Unit => True) (mB (dC, dI) A (mW ad cJ cZ c0 (f_M_tighten r0 p1) w0 s0)) A) ([.ref (ad 0), .int (nI p1)] : List Value).toArray s 0 0 A) (F0 m 121 ls []) := by
    intro v119 v106 v85 v74 v63 v56 r39n hj H locs hP hD hS ls hl
    refine lv_aload_n hx hb d_M_tighten_121 rfl (lv_at hl 6 rfl) ?_
    refine lv_iload_n hx hb d_M_tighten_122 rfl (lv_at hl 7 rfl) ?_
    refine lv_lload_n hx hb d_M_tighten_123 rfl (lv_at hl 5 rfl) ?_
    refine lv_lload hx hb d_M_tighten_124 (lv_at hl 4 rfl) ?_
    refine lv_iload hx hb d_M_tighten_126 (lv_at hl 2 rfl) ?_
    refine lv_iconst (v := 1) hx hb d_M_tighten_128 (by decide) ?_
    refine rc_l (W.runV (As := [.int (nI p1), .long (v56), .long (v63), .int (bI v85), .int (1)]) (rest := []) ⟨hx, hb, hml, hown, hts⟩ (c_M_end_ l dC dI ad cJ cZ c0 r39n w0 s0 p1 v56 v63 v85 true b1) (cwV 5 hts (gxV gx78 gx79 gx271 gx0 gx80) rfl rfl rfl (by decide +kernel) ⟨(Nat.le_of_ble_eq_true rfl), (Nat.le_of_ble_eq_true rfl)⟩) ⟨bln, va_recv hK hP (ci := 2) (q0 := 0) rfl rfl, fun U hU hW => ⟨rfl, by rw [hU]; exact hP, va_K.moved hW.alike hK⟩⟩ rfl rfl hl.1 rfl (lv_room (Nat.le_of_ble_eq_true rfl)) d_M_tighten_129 ⟨Nat.zero_le _, Nat.zero_le _⟩) ?_
    refine lv_topl (fun v132 ev132 => ?_)
    refine lv_lstore (lv' := [(12, .long (v132)), (10, .long (v119)), (8, .long (v106)), (7, .int (bI v85)), (6, .int (bI v74)), (4, .long (v63)), (2, .long (v56)), (0, .ref (ad 0)), (1, .int (nI p1))]) hx hb d_M_tighten_132 hl (by decide) rfl (fun ls hl => ?_)
    refine K132v v132 v119 v106 v74 v63 v56 r39n (Eq.trans (hj.trans rfl) (congrArg (fun v132 => f_M_tighten_132v r0 p1 v132 v119 v106 v74 v63 v56 r39n) ev132.symm)) H locs ?_ ?_ hS ls (lv_sub hl [0, 1, 2, 4, 5, 6, 7, 8] rfl)
    · with_reducible exact hP
    · with_reducible exact hD
  have K106v : ∀ (v106 : Int64) (v85 : Bool) (v74 : Bool) (v63 : Int64) (v56 : Int64) (r39n : (Nat → VV)) (hj : f_M_tighten r0 p1 = f_M_tighten_106v r0 p1 v106 v85 v74 v63 v56 r39n) (H : Heap) (locs : List Loc) (hP : va_P (dC, dI) classes (mW ad cJ cZ c0 r39n w0 s0) H) (hD : va_D A (mW ad cJ cZ c0 r39n w0 s0)) (hS : va_S A s.heap H locs) (ls : Array Slot) (hl : lv_has ls 21 [(8, .long (v106)), (7, .int (bI v85)), (6, .int (bI v74)), (4, .long (v63)), (2, .long (v56)), (0, .ref (ad 0)), (1, .int (nI p1))]), W p l e (headSpec w_M_tighten ({ frames := 5, cells := 0, slots := 0, locals := 143 } : Room)).room s m ([.ref (ad 0), .int (nI p1)] : List Value).toArray below meth c H locs 0 0 (MQ below (va_Qv (fun _ : Unit => True) (mB (dC, dI) A (mW ad cJ cZ c0 (f_M_tighten r0 p1) w0 s0)) A) ([.ref (ad 0), .int (nI p1)] : List Value).toArray s 0 0 A) (F0 m 108 ls []) := by
    intro v106 v85 v74 v63 v56 r39n hj H locs hP hD hS ls hl
    refine lv_aload_n hx hb d_M_tighten_108 rfl (lv_at hl 5 rfl) ?_
    refine lv_iload_n hx hb d_M_tighten_109 rfl (lv_at hl 6 rfl) ?_
    refine lv_lload_n hx hb d_M_tighten_110 rfl (lv_at hl 4 rfl) ?_
    refine lv_lload hx hb d_M_tighten_111 (lv_at hl 3 rfl) ?_
    refine lv_iload hx hb d_M_tighten_113 (lv_at hl 1 rfl) ?_
    refine lv_iconst (v := 0) hx hb d_M_tighten_115 (by decide) ?_
    refine rc_l (W.runV (As := [.int (nI p1), .long (v56), .long (v63), .int (bI v85), .int (0)]) (rest := []) ⟨hx, hb, hml, hown, hts⟩ (c_M_end_ l dC dI ad cJ cZ c0 r39n w0 s0 p1 v56 v63 v85 false b1) (cwV 5 hts (gxV gx78 gx79 gx271 gx0 gx80) rfl rfl rfl (by decide +kernel) ⟨(Nat.le_of_ble_eq_true rfl), (Nat.le_of_ble_eq_true rfl)⟩) ⟨bln, va_recv hK hP (ci := 2) (q0 := 0) rfl rfl, fun U hU hW => ⟨rfl, by rw [hU]; exact hP, va_K.moved hW.alike hK⟩⟩ rfl rfl hl.1 rfl (lv_room (Nat.le_of_ble_eq_true rfl)) d_M_tighten_116 ⟨Nat.zero_le _, Nat.zero_le _⟩) ?_
    refine lv_topl (fun v119 ev119 => ?_)
    refine lv_lstore (lv' := [(10, .long (v119)), (8, .long (v106)), (7, .int (bI v85)), (6, .int (bI v74)), (4, .long (v63)), (2, .long (v56)), (0, .ref (ad 0)), (1, .int (nI p1))]) hx hb d_M_tighten_119 hl (by decide) rfl (fun ls hl => ?_)
    refine K119v v119 v106 v85 v74 v63 v56 r39n (Eq.trans (hj.trans rfl) (congrArg (fun v119 => f_M_tighten_119v r0 p1 v119 v106 v85 v74 v63 v56 r39n) ev119.symm)) H locs ?_ ?_ hS ls (lv_sub hl [0, 1, 2, 3, 4, 5, 6, 7] rfl)
    · with_reducible exact hP
    · with_reducible exact hD
  have K102 : ∀ (v85 : Bool) (v74 : Bool) (v63 : Int64) (v56 : Int64) (s102_0 : Bool) (s102_1 : Int64) (s102_2 : Int64) (r39n : (Nat → VV)) (hj : f_M_tighten r0 p1 = f_M_tighten_102 r0 p1 v85 v74 v63 v56 s102_0 s102_1 s102_2 r39n) (H : Heap) (locs : List Loc) (hP : va_P (dC, dI) classes (mW ad cJ cZ c0 r39n w0 s0) H) (hD : va_D A (mW ad cJ cZ c0 r39n w0 s0)) (hS : va_S A s.heap H locs) (ls : Array Slot) (hl : lv_has ls 21 [(7, .int (bI v85)), (6, .int (bI v74)), (4, .long (v63)), (2, .long (v56)), (0, .ref (ad 0)), (1, .int (nI p1))]), W p l e (headSpec w_M_tighten ({ frames := 5, cells := 0, slots := 0, locals := 143 } : Room)).room s m ([.ref (ad 0), .int (nI p1)] : List Value).toArray below meth c H locs 0 0 (MQ below (va_Qv (fun _ : Unit => True) (mB (dC, dI) A (mW ad cJ cZ c0 (f_M_tighten r0 p1) w0 s0)) A) ([.ref (ad 0), .int (nI p1)] : List Value).toArray s 0 0 A) (F0 m 102 ls [.int (bI s102_0), .long (s102_1), .long (s102_2), .int (nI p1), .ref (ad 0)]) := by
    intro v85 v74 v63 v56 s102_0 s102_1 s102_2 r39n hj H locs hP hD hS ls hl
    refine lv_iconst (v := 1) hx hb d_M_tighten_102 (by decide) ?_
    refine rc_l (W.runV (As := [.int (nI p1), .long (s102_2), .long (s102_1), .int (bI s102_0), .int (1)]) (rest := []) ⟨hx, hb, hml, hown, hts⟩ (c_M_end_ l dC dI ad cJ cZ c0 r39n w0 s0 p1 s102_2 s102_1 s102_0 true b1) (cwV 5 hts (gxV gx78 gx79 gx271 gx0 gx80) rfl rfl rfl (by decide +kernel) ⟨(Nat.le_of_ble_eq_true rfl), (Nat.le_of_ble_eq_true rfl)⟩) ⟨bln, va_recv hK hP (ci := 2) (q0 := 0) rfl rfl, fun U hU hW => ⟨rfl, by rw [hU]; exact hP, va_K.moved hW.alike hK⟩⟩ rfl rfl hl.1 rfl (lv_room (Nat.le_of_ble_eq_true rfl)) d_M_tighten_103 ⟨Nat.zero_le _, Nat.zero_le _⟩) ?_
    refine lv_topl (fun v106 ev106 => ?_)
    refine lv_lstore (lv' := [(8, .long (v106)), (7, .int (bI v85)), (6, .int (bI v74)), (4, .long (v63)), (2, .long (v56)), (0, .ref (ad 0)), (1, .int (nI p1))]) hx hb d_M_tighten_106 hl (by decide) rfl (fun ls hl => ?_)
    refine K106v v106 v85 v74 v63 v56 r39n (Eq.trans (hj.trans rfl) (congrArg (fun v106 => f_M_tighten_106v r0 p1 v106 v85 v74 v63 v56 r39n) ev106.symm)) H locs ?_ ?_ hS ls (lv_sub hl [0, 1, 2, 3, 4, 5, 6] rfl)
    · with_reducible exact hP
    · with_reducible exact hD
  have K85v : ∀ (v85 : Bool) (v74 : Bool) (v63 : Int64) (v56 : Int64) (r39n : (Nat → VV)) (hj : f_M_tighten r0 p1 = f_M_tighten_85v r0 p1 v85 v74 v63 v56 r39n) (H : Heap) (locs : List Loc) (hP : va_P (dC, dI) classes (mW ad cJ cZ c0 r39n w0 s0) H) (hD : va_D A (mW ad cJ cZ c0 r39n w0 s0)) (hS : va_S A s.heap H locs) (ls : Array Slot) (hl : lv_has ls 21 [(7, .int (bI v85)), (6, .int (bI v74)), (4, .long (v63)), (2, .long (v56)), (0, .ref (ad 0)), (1, .int (nI p1))]), W p l e (headSpec w_M_tighten ({ frames := 5, cells := 0, slots := 0, locals := 143 } : Room)).room s m ([.ref (ad 0), .int (nI p1)] : List Value).toArray below meth c H locs 0 0 (MQ below (va_Qv (fun _ : Unit => True) (mB (dC, dI) A (mW ad cJ cZ c0 (f_M_tighten r0 p1) w0 s0)) A) ([.ref (ad 0), .int (nI p1)] : List Value).toArray s 0 0 A) (F0 m 87 ls []) := by
    intro v85 v74 v63 v56 r39n hj H locs hP hD hS ls hl
    refine lv_aload_n hx hb d_M_tighten_87 rfl (lv_at hl 4 rfl) ?_
    refine lv_iload_n hx hb d_M_tighten_88 rfl (lv_at hl 5 rfl) ?_
    refine lv_lload_n hx hb d_M_tighten_89 rfl (lv_at hl 3 rfl) ?_
    refine lv_lload hx hb d_M_tighten_90 (lv_at hl 2 rfl) ?_
    refine lv_iload hx hb d_M_tighten_92 (lv_at hl 1 rfl) ?_
    refine wz_ne (tgt := 101) hx hb d_M_tighten_94 (by decide) (fun e1_101 => ?_) (fun e1_101 => ?_)
    · refine lv_iconst (v := 0) hx hb d_M_tighten_101 (by decide) ?_
      refine K102 v85 v74 v63 v56 false v63 v56 r39n (hj.trans (by unfold f_M_tighten_85v; first | with_reducible exact if_pos e1_101 | exact if_pos e1_101)) H locs ?_ ?_ hS ls (lv_sub hl [0, 1, 2, 3, 4, 5] rfl)
      · with_reducible exact hP
      · with_reducible exact hD
    · refine lv_iconst (v := 1) hx hb d_M_tighten_97 (by decide) ?_
      refine lv_goto (tgt := 102) hx hb d_M_tighten_98 (by decide) ?_
      refine K102 v85 v74 v63 v56 true v63 v56 r39n (hj.trans (by unfold f_M_tighten_85v; first | with_reducible exact if_neg e1_101 | exact if_neg e1_101)) H locs ?_ ?_ hS ls (lv_sub hl [0, 1, 2, 3, 4, 5] rfl)
      · with_reducible exact hP
      · with_reducible exact hD
  have K74v : ∀ (v74 : Bool) (v63 : Int64) (v56 : Int64) (r39n : (Nat → VV)) (hj : f_M_tighten r0 p1 = f_M_tighten_74v r0 p1 v74 v63 v56 r39n) (H : Heap) (locs : List Loc) (hP : va_P (dC, dI) classes (mW ad cJ cZ c0 r39n w0 s0) H) (hD : va_D A (mW ad cJ cZ c0 r39n w0 s0)) (hS : va_S A s.heap H locs) (ls : Array Slot) (hl : lv_has ls 21 [(6, .int (bI v74)), (4, .long (v63)), (2, .long (v56)), (0, .ref (ad 0)), (1, .int (nI p1))]), W p l e (headSpec w_M_tighten ({ frames := 5, cells := 0, slots := 0, locals := 143 } : Room)).room s m ([.ref (ad 0), .int (nI p1)] : List Value).toArray below meth c H locs 0 0 (MQ below (va_Qv (fun _ : Unit => True) (mB (dC, dI) A (mW ad cJ cZ c0 (f_M_tighten r0 p1) w0 s0)) A) ([.ref (ad 0), .int (nI p1)] : List Value).toArray s 0 0 A) (F0 m 76 ls []) := by
    intro v74 v63 v56 r39n hj H locs hP hD hS ls hl
    refine lv_aload_n hx hb d_M_tighten_76 rfl (lv_at hl 3 rfl) ?_
    refine lv_iload_n hx hb d_M_tighten_77 rfl (lv_at hl 4 rfl) ?_
    refine lv_lload_n hx hb d_M_tighten_78 rfl (lv_at hl 2 rfl) ?_
    refine lv_lload hx hb d_M_tighten_79 (lv_at hl 1 rfl) ?_
    refine lv_iconst (v := 1) hx hb d_M_tighten_81 (by decide) ?_
    refine rc_i (W.runV (As := [.int (nI p1), .long (v56), .long (v63), .int (1)]) (rest := []) ⟨hx, hb, hml, hown, hts⟩ (c_M_has1 l dC dI ad cJ cZ c0 r39n w0 s0 p1 v56 v63 true b1) (cwV 4 hts (gxV gx75 gx76 gx272 gx0 gx77) rfl rfl rfl (by decide +kernel) ⟨(Nat.le_of_ble_eq_true rfl), (Nat.le_of_ble_eq_true rfl)⟩) ⟨bln, va_recv hK hP (ci := 2) (q0 := 0) rfl rfl, fun U hU hW => ⟨rfl, by rw [hU]; exact hP, va_K.moved hW.alike hK⟩⟩ rfl rfl hl.1 rfl (lv_room (Nat.le_of_ble_eq_true rfl)) d_M_tighten_82 ⟨Nat.zero_le _, Nat.zero_le _⟩) ?_
    refine top_b (fun v85 ev85 => ?_)
    refine lv_istore (lv' := [(7, .int (bI v85)), (6, .int (bI v74)), (4, .long (v63)), (2, .long (v56)), (0, .ref (ad 0)), (1, .int (nI p1))]) hx hb d_M_tighten_85 hl (by decide) rfl (fun ls hl => ?_)
    refine K85v v85 v74 v63 v56 r39n (Eq.trans (hj.trans rfl) (congrArg (fun v85 => f_M_tighten_85v r0 p1 v85 v74 v63 v56 r39n) ev85.symm)) H locs ?_ ?_ hS ls (lv_sub hl [0, 1, 2, 3, 4, 5] rfl)
    · with_reducible exact hP
    · with_reducible exact hD
  have K63v : ∀ (v63 : Int64) (v56 : Int64) (r39n : (Nat → VV)) (hj : f_M_tighten r0 p1 = f_M_tighten_63v r0 p1 v63 v56 r39n) (H : Heap) (locs : List Loc) (hP : va_P (dC, dI) classes (mW ad cJ cZ c0 r39n w0 s0) H) (hD : va_D A (mW ad cJ cZ c0 r39n w0 s0)) (hS : va_S A s.heap H locs) (ls : Array Slot) (hl : lv_has ls 21 [(4, .long (v63)), (2, .long (v56)), (0, .ref (ad 0)), (1, .int (nI p1))]), W p l e (headSpec w_M_tighten ({ frames := 5, cells := 0, slots := 0, locals := 143 } : Room)).room s m ([.ref (ad 0), .int (nI p1)] : List Value).toArray below meth c H locs 0 0 (MQ below (va_Qv (fun _ : Unit => True) (mB (dC, dI) A (mW ad cJ cZ c0 (f_M_tighten r0 p1) w0 s0)) A) ([.ref (ad 0), .int (nI p1)] : List Value).toArray s 0 0 A) (F0 m 65 ls []) := by
    intro v63 v56 r39n hj H locs hP hD hS ls hl
    refine lv_aload_n hx hb d_M_tighten_65 rfl (lv_at hl 2 rfl) ?_
    refine lv_iload_n hx hb d_M_tighten_66 rfl (lv_at hl 3 rfl) ?_
    refine lv_lload_n hx hb d_M_tighten_67 rfl (lv_at hl 1 rfl) ?_
    refine lv_lload hx hb d_M_tighten_68 (lv_at hl 0 rfl) ?_
    refine lv_iconst (v := 0) hx hb d_M_tighten_70 (by decide) ?_
    refine rc_i (W.runV (As := [.int (nI p1), .long (v56), .long (v63), .int (0)]) (rest := []) ⟨hx, hb, hml, hown, hts⟩ (c_M_has1 l dC dI ad cJ cZ c0 r39n w0 s0 p1 v56 v63 false b1) (cwV 4 hts (gxV gx75 gx76 gx272 gx0 gx77) rfl rfl rfl (by decide +kernel) ⟨(Nat.le_of_ble_eq_true rfl), (Nat.le_of_ble_eq_true rfl)⟩) ⟨bln, va_recv hK hP (ci := 2) (q0 := 0) rfl rfl, fun U hU hW => ⟨rfl, by rw [hU]; exact hP, va_K.moved hW.alike hK⟩⟩ rfl rfl hl.1 rfl (lv_room (Nat.le_of_ble_eq_true rfl)) d_M_tighten_71 ⟨Nat.zero_le _, Nat.zero_le _⟩) ?_
    refine top_b (fun v74 ev74 => ?_)
    refine lv_istore (lv' := [(6, .int (bI v74)), (4, .long (v63)), (2, .long (v56)), (0, .ref (ad 0)), (1, .int (nI p1))]) hx hb d_M_tighten_74 hl (by decide) rfl (fun ls hl => ?_)
    refine K74v v74 v63 v56 r39n (Eq.trans (hj.trans rfl) (congrArg (fun v74 => f_M_tighten_74v r0 p1 v74 v63 v56 r39n) ev74.symm)) H locs ?_ ?_ hS ls (lv_sub hl [0, 1, 2, 3, 4] rfl)
    · with_reducible exact hP
    · with_reducible exact hD
  have K56v : ∀ (v56 : Int64) (r39n : (Nat → VV)) (hj : f_M_tighten r0 p1 = f_M_tighten_56v r0 p1 v56 r39n) (H : Heap) (locs : List Loc) (hP : va_P (dC, dI) classes (mW ad cJ cZ c0 r39n w0 s0) H) (hD : va_D A (mW ad cJ cZ c0 r39n w0 s0)) (hS : va_S A s.heap H locs) (ls : Array Slot) (hl : lv_has ls 21 [(2, .long (v56)), (0, .ref (ad 0)), (1, .int (nI p1))]), W p l e (headSpec w_M_tighten ({ frames := 5, cells := 0, slots := 0, locals := 143 } : Room)).room s m ([.ref (ad 0), .int (nI p1)] : List Value).toArray below meth c H locs 0 0 (MQ below (va_Qv (fun _ : Unit => True) (mB (dC, dI) A (mW ad cJ cZ c0 (f_M_tighten r0 p1) w0 s0)) A) ([.ref (ad 0), .int (nI p1)] : List Value).toArray s 0 0 A) (F0 m 57 ls []) := by
    intro v56 r39n hj H locs hP hD hS ls hl
    refine lv_aload_n hx hb d_M_tighten_57 rfl (lv_at hl 1 rfl) ?_
    refine va_get (D := (dC, dI)) (ci := 2) (v := .ref (ad 2)) (C := R_M) (T := F_M) (N := 10) hx hb hts (fun w h => List.mem_cons_of_mem _ (uw_M w h)) hown hK hP 0 rfl rfl 2 (by decide) (hG (.fieldLink R_M 13 "ValueSieveModel" "open" "[J") gx11) (fun _ h9 => h9) rfl d_M_tighten_58 ?_
    refine lv_iload_n hx hb d_M_tighten_61 rfl (lv_at hl 2 rfl) ?_
    refine ml_2 (P := p1) hx hb hK hP rfl b1 d_M_tighten_62 ?_
    refine lv_topl (fun v63 ev63 => ?_)
    refine lv_lstore (lv' := [(4, .long (v63)), (2, .long (v56)), (0, .ref (ad 0)), (1, .int (nI p1))]) hx hb d_M_tighten_63 hl (by decide) rfl (fun ls hl => ?_)
    refine K63v v63 v56 r39n (Eq.trans (hj.trans rfl) (congrArg (fun v63 => f_M_tighten_63v r0 p1 v63 v56 r39n) ev63.symm)) H locs ?_ ?_ hS ls (lv_sub hl [0, 1, 2, 3] rfl)
    · with_reducible exact hP
    · with_reducible exact hD
  have K39u : ∀ (r39n : (Nat → VV)) (hj : f_M_tighten r0 p1 = f_M_tighten_39u r0 p1 r39n) (H : Heap) (locs : List Loc) (hP : va_P (dC, dI) classes (mW ad cJ cZ c0 r39n w0 s0) H) (hD : va_D A (mW ad cJ cZ c0 r39n w0 s0)) (hS : va_S A s.heap H locs) (ls : Array Slot) (hl : lv_has ls 21 [(0, .ref (ad 0)), (1, .int (nI p1))]), W p l e (headSpec w_M_tighten ({ frames := 5, cells := 0, slots := 0, locals := 143 } : Room)).room s m ([.ref (ad 0), .int (nI p1)] : List Value).toArray below meth c H locs 0 0 (MQ below (va_Qv (fun _ : Unit => True) (mB (dC, dI) A (mW ad cJ cZ c0 (f_M_tighten r0 p1) w0 s0)) A) ([.ref (ad 0), .int (nI p1)] : List Value).toArray s 0 0 A) (F0 m 40 ls []) := by
    intro r39n hj H locs hP hD hS ls hl
    refine lv_aload_n hx hb d_M_tighten_40 rfl (lv_at hl 0 rfl) ?_
    refine va_get (D := (dC, dI)) (ci := 2) (v := .ref (ad 7)) (C := R_M) (T := F_M) (N := 10) hx hb hts (fun w h => List.mem_cons_of_mem _ (uw_M w h)) hown hK hP 0 rfl rfl 7 (by decide) (hG (.fieldLink R_M 28 "ValueSieveModel" "empty" "[Z") gx16) (fun _ h9 => h9) rfl d_M_tighten_41 ?_
    refine lv_iload_n hx hb d_M_tighten_44 rfl (lv_at hl 1 rfl) ?_
    refine ml_7 (P := p1) hx hb hK hP rfl b1 d_M_tighten_45 ?_
    refine wz_eq (tgt := 50) hx hb d_M_tighten_46 (by decide) (fun e1_50 => ?_) (fun e1_50 => ?_)
    · refine lv_aload_n hx hb d_M_tighten_50 rfl (lv_at hl 0 rfl) ?_
      refine va_get (D := (dC, dI)) (ci := 2) (v := .ref (ad 1)) (C := R_M) (T := F_M) (N := 10) hx hb hts (fun w h => List.mem_cons_of_mem _ (uw_M w h)) hown hK hP 0 rfl rfl 1 (by decide) (hG (.fieldLink R_M 7 "ValueSieveModel" "bits" "[J") gx10) (fun _ h9 => h9) rfl d_M_tighten_51 ?_
      refine lv_iload_n hx hb d_M_tighten_54 rfl (lv_at hl 1 rfl) ?_
      refine ml_1 (P := p1) hx hb hK hP rfl b1 d_M_tighten_55 ?_
      refine lv_topl (fun v56 ev56 => ?_)
      refine lv_lstore_n (lv' := [(2, .long (v56)), (0, .ref (ad 0)), (1, .int (nI p1))]) hx hb d_M_tighten_56 rfl hl (by decide) rfl (fun ls hl => ?_)
      refine K56v v56 r39n (Eq.trans (hj.trans (by unfold f_M_tighten_39u; first | with_reducible exact if_neg e1_50 | exact if_neg e1_50)) (congrArg (fun v56 => f_M_tighten_56v r0 p1 v56 r39n) ev56.symm)) H locs ?_ ?_ hS ls (lv_sub hl [0, 1, 2] rfl)
      · with_reducible exact hP
      · with_reducible exact hD
    · have fe : f_M_tighten r0 p1 = r39n := hj.trans (by unfold f_M_tighten_39u; first | with_reducible exact if_pos e1_50 | exact if_pos e1_50)
      exact W.vret hx hb hr (fun t ht hW => ⟨⟨(), rfl, trivial, by rw [ht, fe]; exact hP, by rw [fe]; exact hD⟩, hS.F ht⟩) hS.2.2 d_M_tighten_49
  have K39 : ∀ (s39_0 : Bool) (hj : f_M_tighten r0 p1 = f_M_tighten_39 r0 p1 s39_0) (H : Heap) (locs : List Loc) (hP : va_P (dC, dI) classes (mW ad cJ cZ c0 r0 w0 s0) H) (hD : va_D A (mW ad cJ cZ c0 r0 w0 s0)) (hS : va_S A s.heap H locs) (ls : Array Slot) (hl : lv_has ls 21 [(0, .ref (ad 0)), (1, .int (nI p1))]), W p l e (headSpec w_M_tighten ({ frames := 5, cells := 0, slots := 0, locals := 143 } : Room)).room s m ([.ref (ad 0), .int (nI p1)] : List Value).toArray below meth c H locs 0 0 (MQ below (va_Qv (fun _ : Unit => True) (mB (dC, dI) A (mW ad cJ cZ c0 (f_M_tighten r0 p1) w0 s0)) A) ([.ref (ad 0), .int (nI p1)] : List Value).toArray s 0 0 A) (F0 m 39 ls [.int (bI s39_0), .int (nI p1), .ref (ad 7)]) := by
    intro s39_0 hj H locs hP hD hS ls hl
    refine ms_7 (P := p1) (x := s39_0) hx hb hK hP hD hS rfl b1 d_M_tighten_39 (fun H locs hP hD hS => ?_)
    obtain ⟨r39n, er39n⟩ : ∃ z, z = u7 r0 p1 s39_0 := ⟨_, rfl⟩
    rw [← er39n] at hP hD
    refine K39u r39n (Eq.trans (hj.trans rfl) (congrArg (fun r39n => f_M_tighten_39u r0 p1 r39n) er39n.symm)) H locs ?_ ?_ hS ls (lv_sub hl [0, 1] rfl)
    · with_reducible exact hP
    · with_reducible exact hD
  have K34 : ∀ (hj : f_M_tighten r0 p1 = f_M_tighten_34 r0 p1) (H : Heap) (locs : List Loc) (hP : va_P (dC, dI) classes (mW ad cJ cZ c0 r0 w0 s0) H) (hD : va_D A (mW ad cJ cZ c0 r0 w0 s0)) (hS : va_S A s.heap H locs) (ls : Array Slot) (hl : lv_has ls 21 [(0, .ref (ad 0)), (1, .int (nI p1))]), W p l e (headSpec w_M_tighten ({ frames := 5, cells := 0, slots := 0, locals := 143 } : Room)).room s m ([.ref (ad 0), .int (nI p1)] : List Value).toArray below meth c H locs 0 0 (MQ below (va_Qv (fun _ : Unit => True) (mB (dC, dI) A (mW ad cJ cZ c0 (f_M_tighten r0 p1) w0 s0)) A) ([.ref (ad 0), .int (nI p1)] : List Value).toArray s 0 0 A) (F0 m 34 ls [.int (nI p1), .ref (ad 7)]) := by
    intro hj H locs hP hD hS ls hl
    refine lv_iconst (v := 1) hx hb d_M_tighten_34 (by decide) ?_
    refine lv_goto (tgt := 39) hx hb d_M_tighten_35 (by decide) ?_
    refine K39 true (hj.trans rfl) H locs ?_ ?_ hS ls (lv_sub hl [0, 1] rfl)
    · with_reducible exact hP
    · with_reducible exact hD
  refine lv_aload_n hx hb d_M_tighten_0 rfl (lv_at hl 0 rfl) ?_
  refine va_get (D := (dC, dI)) (ci := 2) (v := .ref (ad 7)) (C := R_M) (T := F_M) (N := 10) hx hb hts (fun w h => List.mem_cons_of_mem _ (uw_M w h)) hown hK hP 0 rfl rfl 7 (by decide) (hG (.fieldLink R_M 28 "ValueSieveModel" "empty" "[Z") gx16) (fun _ h9 => h9) rfl d_M_tighten_1 ?_
  refine lv_iload_n hx hb d_M_tighten_4 rfl (lv_at hl 1 rfl) ?_
  refine lv_aload_n hx hb d_M_tighten_5 rfl (lv_at hl 0 rfl) ?_
  refine va_get (D := (dC, dI)) (ci := 2) (v := .ref (ad 7)) (C := R_M) (T := F_M) (N := 10) hx hb hts (fun w h => List.mem_cons_of_mem _ (uw_M w h)) hown hK hP 0 rfl rfl 7 (by decide) (hG (.fieldLink R_M 28 "ValueSieveModel" "empty" "[Z") gx16) (fun _ h9 => h9) rfl d_M_tighten_6 ?_
  refine lv_iload_n hx hb d_M_tighten_9 rfl (lv_at hl 1 rfl) ?_
  refine ml_7 (P := p1) hx hb hK hP rfl b1 d_M_tighten_10 ?_
  refine wz_ne (tgt := 34) hx hb d_M_tighten_11 (by decide) (fun e1_34 => ?_) (fun e1_34 => ?_)
  · refine K34 (by unfold f_M_tighten; first | with_reducible exact if_pos e1_34 | exact if_pos e1_34) s.heap [] ?_ ?_ hS ls (lv_sub hl [0, 1] rfl)
    · with_reducible exact hP
    · with_reducible exact hD
  · refine lv_aload_n hx hb d_M_tighten_14 rfl (lv_at hl 0 rfl) ?_
    refine lv_iload_n hx hb d_M_tighten_15 rfl (lv_at hl 1 rfl) ?_
    refine lv_aload_n hx hb d_M_tighten_16 rfl (lv_at hl 0 rfl) ?_
    refine va_get (D := (dC, dI)) (ci := 2) (v := .ref (ad 1)) (C := R_M) (T := F_M) (N := 10) hx hb hts (fun w h => List.mem_cons_of_mem _ (uw_M w h)) hown hK hP 0 rfl rfl 1 (by decide) (hG (.fieldLink R_M 7 "ValueSieveModel" "bits" "[J") gx10) (fun _ h9 => h9) rfl d_M_tighten_17 ?_
    refine lv_iload_n hx hb d_M_tighten_20 rfl (lv_at hl 1 rfl) ?_
    refine ml_1 (P := p1) hx hb hK hP rfl b1 d_M_tighten_21 ?_
    refine lv_aload_n hx hb d_M_tighten_22 rfl (lv_at hl 0 rfl) ?_
    refine va_get (D := (dC, dI)) (ci := 2) (v := .ref (ad 2)) (C := R_M) (T := F_M) (N := 10) hx hb hts (fun w h => List.mem_cons_of_mem _ (uw_M w h)) hown hK hP 0 rfl rfl 2 (by decide) (hG (.fieldLink R_M 13 "ValueSieveModel" "open" "[J") gx11) (fun _ h9 => h9) rfl d_M_tighten_23 ?_
    refine lv_iload_n hx hb d_M_tighten_26 rfl (lv_at hl 1 rfl) ?_
    refine ml_2 (P := p1) hx hb hK hP rfl b1 d_M_tighten_27 ?_
    refine rc_i (W.runV (As := [.int (nI p1), .long ((r0 p1).1), .long ((r0 p1).2.1)]) (rest := [.int (nI p1), .ref (ad 7)]) ⟨hx, hb, hml, hown, hts⟩ (c_M_hasAny l dC dI ad cJ cZ c0 r0 w0 s0 p1 ((r0 p1).1) ((r0 p1).2.1) b1) (cwV 3 hts (gxV gx72 gx73 gx273 gx0 gx74) rfl rfl rfl (by decide +kernel) ⟨(Nat.le_of_ble_eq_true rfl), (Nat.le_of_ble_eq_true rfl)⟩) ⟨bln, va_recv hK hP (ci := 2) (q0 := 0) rfl rfl, fun U hU hW => ⟨rfl, by rw [hU]; exact hP, va_K.moved hW.alike hK⟩⟩ rfl rfl hl.1 rfl (lv_room (Nat.le_of_ble_eq_true rfl)) d_M_tighten_28 ⟨Nat.zero_le _, Nat.zero_le _⟩) ?_
    refine wz_ne (tgt := 38) hx hb d_M_tighten_31 (by decide) (fun e2_38 => ?_) (fun e2_38 => ?_)
    · refine lv_iconst (v := 0) hx hb d_M_tighten_38 (by decide) ?_
      refine K39 false (by unfold f_M_tighten; first | with_reducible exact (if_neg e1_34).trans (if_pos e2_38) | exact (if_neg e1_34).trans (if_pos e2_38)) s.heap [] ?_ ?_ hS ls (lv_sub hl [0, 1] rfl)
      · with_reducible exact hP
      · with_reducible exact hD
    · refine K34 (by unfold f_M_tighten; first | with_reducible exact (if_neg e1_34).trans (if_neg e2_38) | exact (if_neg e1_34).trans (if_neg e2_38)) s.heap [] ?_ ?_ hS ls (lv_sub hl [0, 1] rfl)
      · with_reducible exact hP
      · with_reducible exact hD
-- cutRow
theorem d_M_cutRow_0 : decode b_M_cutRow 0 = .ok (.iload_n 3, 1) := by decide +kernel
theorem d_M_cutRow_1 : decode b_M_cutRow 1 = .ok (.invokestatic 116, 3) := by decide +kernel
theorem d_M_cutRow_4 : decode b_M_cutRow 4 = .ok (.lstore 4, 2) := by decide +kernel
theorem d_M_cutRow_6 : decode b_M_cutRow 6 = .ok (.aload_n 0, 1) := by decide +kernel
theorem d_M_cutRow_7 : decode b_M_cutRow 7 = .ok (.iload_n 1, 1) := by decide +kernel
theorem d_M_cutRow_8 : decode b_M_cutRow 8 = .ok (.bipush 19, 2) := by decide +kernel
theorem d_M_cutRow_10 : decode b_M_cutRow 10 = .ok (.invokevirtual 90, 3) := by decide +kernel
theorem d_M_cutRow_13 : decode b_M_cutRow 13 = .ok (.aload_n 0, 1) := by decide +kernel
theorem d_M_cutRow_14 : decode b_M_cutRow 14 = .ok (.iload_n 2, 1) := by decide +kernel
theorem d_M_cutRow_15 : decode b_M_cutRow 15 = .ok (.invokevirtual 102, 3) := by decide +kernel
theorem d_M_cutRow_18 : decode b_M_cutRow 18 = .ok (.aload_n 0, 1) := by decide +kernel
theorem d_M_cutRow_19 : decode b_M_cutRow 19 = .ok (.getfield 7, 3) := by decide +kernel
theorem d_M_cutRow_22 : decode b_M_cutRow 22 = .ok (.iload_n 2, 1) := by decide +kernel
theorem d_M_cutRow_23 : decode b_M_cutRow 23 = .ok (.aload_n 0, 1) := by decide +kernel
theorem d_M_cutRow_24 : decode b_M_cutRow 24 = .ok (.getfield 7, 3) := by decide +kernel
theorem d_M_cutRow_27 : decode b_M_cutRow 27 = .ok (.bipush 19, 2) := by decide +kernel
theorem d_M_cutRow_29 : decode b_M_cutRow 29 = .ok (.laload, 1) := by decide +kernel
theorem d_M_cutRow_30 : decode b_M_cutRow 30 = .ok (.lload 4, 2) := by decide +kernel
theorem d_M_cutRow_32 : decode b_M_cutRow 32 = .ok (.land, 1) := by decide +kernel
theorem d_M_cutRow_33 : decode b_M_cutRow 33 = .ok (.lastore, 1) := by decide +kernel
theorem d_M_cutRow_34 : decode b_M_cutRow 34 = .ok (.aload_n 0, 1) := by decide +kernel
theorem d_M_cutRow_35 : decode b_M_cutRow 35 = .ok (.getfield 13, 3) := by decide +kernel
theorem d_M_cutRow_38 : decode b_M_cutRow 38 = .ok (.iload_n 2, 1) := by decide +kernel
theorem d_M_cutRow_39 : decode b_M_cutRow 39 = .ok (.aload_n 0, 1) := by decide +kernel
theorem d_M_cutRow_40 : decode b_M_cutRow 40 = .ok (.getfield 13, 3) := by decide +kernel
theorem d_M_cutRow_43 : decode b_M_cutRow 43 = .ok (.bipush 19, 2) := by decide +kernel
theorem d_M_cutRow_45 : decode b_M_cutRow 45 = .ok (.laload, 1) := by decide +kernel
theorem d_M_cutRow_46 : decode b_M_cutRow 46 = .ok (.lload 4, 2) := by decide +kernel
theorem d_M_cutRow_48 : decode b_M_cutRow 48 = .ok (.land, 1) := by decide +kernel
theorem d_M_cutRow_49 : decode b_M_cutRow 49 = .ok (.lastore, 1) := by decide +kernel
theorem d_M_cutRow_50 : decode b_M_cutRow 50 = .ok (.aload_n 0, 1) := by decide +kernel
theorem d_M_cutRow_51 : decode b_M_cutRow 51 = .ok (.getfield 16, 3) := by decide +kernel
theorem d_M_cutRow_54 : decode b_M_cutRow 54 = .ok (.bipush 19, 2) := by decide +kernel
theorem d_M_cutRow_56 : decode b_M_cutRow 56 = .ok (.laload, 1) := by decide +kernel
theorem d_M_cutRow_57 : decode b_M_cutRow 57 = .ok (.lload 4, 2) := by decide +kernel
theorem d_M_cutRow_59 : decode b_M_cutRow 59 = .ok (.ldc2_w 49, 3) := by decide +kernel
theorem d_M_cutRow_62 : decode b_M_cutRow 62 = .ok (.lxor, 1) := by decide +kernel
theorem d_M_cutRow_63 : decode b_M_cutRow 63 = .ok (.land, 1) := by decide +kernel
theorem d_M_cutRow_64 : decode b_M_cutRow 64 = .ok (.aload_n 0, 1) := by decide +kernel
theorem d_M_cutRow_65 : decode b_M_cutRow 65 = .ok (.getfield 19, 3) := by decide +kernel
theorem d_M_cutRow_68 : decode b_M_cutRow 68 = .ok (.bipush 19, 2) := by decide +kernel
theorem d_M_cutRow_70 : decode b_M_cutRow 70 = .ok (.laload, 1) := by decide +kernel
theorem d_M_cutRow_71 : decode b_M_cutRow 71 = .ok (.lload 4, 2) := by decide +kernel
theorem d_M_cutRow_73 : decode b_M_cutRow 73 = .ok (.ldc2_w 49, 3) := by decide +kernel
theorem d_M_cutRow_76 : decode b_M_cutRow 76 = .ok (.lxor, 1) := by decide +kernel
theorem d_M_cutRow_77 : decode b_M_cutRow 77 = .ok (.land, 1) := by decide +kernel
theorem d_M_cutRow_78 : decode b_M_cutRow 78 = .ok (.lcmp, 1) := by decide +kernel
theorem d_M_cutRow_79 : decode b_M_cutRow 79 = .ok (.ifCond .ne 35, 3) := by decide +kernel
theorem d_M_cutRow_82 : decode b_M_cutRow 82 = .ok (.aload_n 0, 1) := by decide +kernel
theorem d_M_cutRow_83 : decode b_M_cutRow 83 = .ok (.getfield 16, 3) := by decide +kernel
theorem d_M_cutRow_86 : decode b_M_cutRow 86 = .ok (.iload_n 2, 1) := by decide +kernel
theorem d_M_cutRow_87 : decode b_M_cutRow 87 = .ok (.aload_n 0, 1) := by decide +kernel
theorem d_M_cutRow_88 : decode b_M_cutRow 88 = .ok (.getfield 16, 3) := by decide +kernel
theorem d_M_cutRow_91 : decode b_M_cutRow 91 = .ok (.bipush 19, 2) := by decide +kernel
theorem d_M_cutRow_93 : decode b_M_cutRow 93 = .ok (.laload, 1) := by decide +kernel
theorem d_M_cutRow_94 : decode b_M_cutRow 94 = .ok (.lload 4, 2) := by decide +kernel
theorem d_M_cutRow_96 : decode b_M_cutRow 96 = .ok (.land, 1) := by decide +kernel
theorem d_M_cutRow_97 : decode b_M_cutRow 97 = .ok (.lastore, 1) := by decide +kernel
theorem d_M_cutRow_98 : decode b_M_cutRow 98 = .ok (.aload_n 0, 1) := by decide +kernel
theorem d_M_cutRow_99 : decode b_M_cutRow 99 = .ok (.getfield 19, 3) := by decide +kernel
theorem d_M_cutRow_102 : decode b_M_cutRow 102 = .ok (.iload_n 2, 1) := by decide +kernel
theorem d_M_cutRow_103 : decode b_M_cutRow 103 = .ok (.aload_n 0, 1) := by decide +kernel
theorem d_M_cutRow_104 : decode b_M_cutRow 104 = .ok (.getfield 19, 3) := by decide +kernel
theorem d_M_cutRow_107 : decode b_M_cutRow 107 = .ok (.bipush 19, 2) := by decide +kernel
theorem d_M_cutRow_109 : decode b_M_cutRow 109 = .ok (.laload, 1) := by decide +kernel
theorem d_M_cutRow_110 : decode b_M_cutRow 110 = .ok (.lload 4, 2) := by decide +kernel
theorem d_M_cutRow_112 : decode b_M_cutRow 112 = .ok (.land, 1) := by decide +kernel
theorem d_M_cutRow_113 : decode b_M_cutRow 113 = .ok (.lastore, 1) := by decide +kernel
theorem d_M_cutRow_114 : decode b_M_cutRow 114 = .ok (.iload_n 3, 1) := by decide +kernel
theorem d_M_cutRow_115 : decode b_M_cutRow 115 = .ok (.bipush 64, 2) := by decide +kernel
theorem d_M_cutRow_117 : decode b_M_cutRow 117 = .ok (.if_icmp .ne 29, 3) := by decide +kernel
theorem d_M_cutRow_120 : decode b_M_cutRow 120 = .ok (.aload_n 0, 1) := by decide +kernel
theorem d_M_cutRow_121 : decode b_M_cutRow 121 = .ok (.getfield 22, 3) := by decide +kernel
theorem d_M_cutRow_124 : decode b_M_cutRow 124 = .ok (.iload_n 2, 1) := by decide +kernel
theorem d_M_cutRow_125 : decode b_M_cutRow 125 = .ok (.aload_n 0, 1) := by decide +kernel
theorem d_M_cutRow_126 : decode b_M_cutRow 126 = .ok (.getfield 22, 3) := by decide +kernel
theorem d_M_cutRow_129 : decode b_M_cutRow 129 = .ok (.bipush 19, 2) := by decide +kernel
theorem d_M_cutRow_131 : decode b_M_cutRow 131 = .ok (.laload, 1) := by decide +kernel
theorem d_M_cutRow_132 : decode b_M_cutRow 132 = .ok (.lastore, 1) := by decide +kernel
theorem d_M_cutRow_133 : decode b_M_cutRow 133 = .ok (.aload_n 0, 1) := by decide +kernel
theorem d_M_cutRow_134 : decode b_M_cutRow 134 = .ok (.getfield 25, 3) := by decide +kernel
theorem d_M_cutRow_137 : decode b_M_cutRow 137 = .ok (.iload_n 2, 1) := by decide +kernel
theorem d_M_cutRow_138 : decode b_M_cutRow 138 = .ok (.aload_n 0, 1) := by decide +kernel
theorem d_M_cutRow_139 : decode b_M_cutRow 139 = .ok (.getfield 25, 3) := by decide +kernel
theorem d_M_cutRow_142 : decode b_M_cutRow 142 = .ok (.bipush 19, 2) := by decide +kernel
theorem d_M_cutRow_144 : decode b_M_cutRow 144 = .ok (.laload, 1) := by decide +kernel
theorem d_M_cutRow_145 : decode b_M_cutRow 145 = .ok (.lastore, 1) := by decide +kernel
theorem d_M_cutRow_146 : decode b_M_cutRow 146 = .ok (.aload_n 0, 1) := by decide +kernel
theorem d_M_cutRow_147 : decode b_M_cutRow 147 = .ok (.iload_n 2, 1) := by decide +kernel
theorem d_M_cutRow_148 : decode b_M_cutRow 148 = .ok (.invokevirtual 113, 3) := by decide +kernel
theorem d_M_cutRow_151 : decode b_M_cutRow 151 = .ok (.return_, 1) := by decide +kernel
def f_M_cutRow_148g (r0 : (Nat → VV)) (p1 : Nat) (p2 : Nat) (p3 : Int32) (g148 : (Nat → VV)) : (Nat → VV) := g148
def f_M_cutRow_146 (r0 : (Nat → VV)) (p1 : Nat) (p2 : Nat) (p3 : Int32) (r146 : (Nat → VV)) : (Nat → VV) := f_M_cutRow_148g r0 p1 p2 p3 (f_M_tighten r146 p2)
def f_M_cutRow_145u (r0 : (Nat → VV)) (p1 : Nat) (p2 : Nat) (p3 : Int32) (r145n : (Nat → VV)) : (Nat → VV) := f_M_cutRow_146 r0 p1 p2 p3 r145n
def f_M_cutRow_132u (r0 : (Nat → VV)) (p1 : Nat) (p2 : Nat) (p3 : Int32) (r132n : (Nat → VV)) : (Nat → VV) := f_M_cutRow_145u r0 p1 p2 p3 (u6 r132n p2 ((r132n 19).2.2.2.2.2.1))
def f_M_cutRow_114 (r0 : (Nat → VV)) (p1 : Nat) (p2 : Nat) (p3 : Int32) (r114 : (Nat → VV)) : (Nat → VV) := (if p3 = 64 then f_M_cutRow_132u r0 p1 p2 p3 (u5 r114 p2 ((r114 19).2.2.2.2.1)) else f_M_cutRow_146 r0 p1 p2 p3 r114)
def f_M_cutRow_113u (r0 : (Nat → VV)) (p1 : Nat) (p2 : Nat) (p3 : Int32) (r113n : (Nat → VV)) : (Nat → VV) := f_M_cutRow_114 r0 p1 p2 p3 r113n
def f_M_cutRow_97u (r0 : (Nat → VV)) (p1 : Nat) (p2 : Nat) (p3 : Int32) (v4 : Int64) (r97n : (Nat → VV)) : (Nat → VV) := f_M_cutRow_113u r0 p1 p2 p3 (u4 r97n p2 (((r97n 19).2.2.2.1) &&& v4))
def f_M_cutRow_49u (r0 : (Nat → VV)) (p1 : Nat) (p2 : Nat) (p3 : Int32) (v4 : Int64) (r49n : (Nat → VV)) : (Nat → VV) := (if (((r49n 19).2.2.1) &&& (v4 ^^^ (-1 : Int64))) = (((r49n 19).2.2.2.1) &&& (v4 ^^^ (-1 : Int64))) then f_M_cutRow_97u r0 p1 p2 p3 v4 (u3 r49n p2 (((r49n 19).2.2.1) &&& v4)) else f_M_cutRow_114 r0 p1 p2 p3 r49n)
def f_M_cutRow_33u (r0 : (Nat → VV)) (p1 : Nat) (p2 : Nat) (p3 : Int32) (v4 : Int64) (r33n : (Nat → VV)) : (Nat → VV) := f_M_cutRow_49u r0 p1 p2 p3 v4 (u2 r33n p2 (((r33n 19).2.1) &&& v4))
def f_M_cutRow_15g (r0 : (Nat → VV)) (p1 : Nat) (p2 : Nat) (p3 : Int32) (v4 : Int64) (g15 : (Nat → VV)) : (Nat → VV) := f_M_cutRow_33u r0 p1 p2 p3 v4 (u1 g15 p2 (((g15 19).1) &&& v4))
def f_M_cutRow_10g (r0 : (Nat → VV)) (p1 : Nat) (p2 : Nat) (p3 : Int32) (v4 : Int64) (g10 : (Nat → VV)) : (Nat → VV) := f_M_cutRow_15g r0 p1 p2 p3 v4 (f_M_nothingSaid g10 p2)
def f_M_cutRow_4v (r0 : (Nat → VV)) (p1 : Nat) (p2 : Nat) (p3 : Int32) (v4 : Int64) : (Nat → VV) := f_M_cutRow_10g r0 p1 p2 p3 v4 (f_M_copy r0 p1 19)
def f_M_cutRow (r0 : (Nat → VV)) (p1 : Nat) (p2 : Nat) (p3 : Int32) : (Nat → VV) := f_M_cutRow_4v r0 p1 p2 p3 (f_M_mask p3)
set_option maxRecDepth 100000 in
set_option maxHeartbeats 4000000 in
theorem c_M_cutRow (l : Launch) (dC : Nat → ClassId) (dI : Nat → Nat → Nat) (ad : Nat → Nat) (cJ cZ : ClassId) (sz : Nat) (c0 : Int32) (r0 : (Nat → VV)) (w0 : (Nat → Int64)) (s0 : Int32) (p1 : Nat) (p2 : Nat) (p3 : Int32) (b1 : p1 < 24) (b2 : p2 < 24) : Met l y_M_cutRow w_M_cutRow ({ frames := 6, cells := 0, slots := 0, locals := 183 } : Room) (va_Pc [.ref (ad 0), .int (nI p1), .int (nI p2), .int (p3)] (nP (dC, dI) (mT cJ cZ) (mW ad cJ cZ c0 r0 w0 s0) sz)) (va_Qv (fun _ : Unit => True) (mB (dC, dI) (va_A (mW ad cJ cZ c0 r0 w0 s0) sz) (mW ad cJ cZ c0 (f_M_cutRow r0 p1 p2 p3) w0 s0)) (va_A (mW ad cJ cZ c0 r0 w0 s0) sz)) 0 0 (va_A (mW ad cJ cZ c0 r0 w0 s0) sz) := by
  refine Met.ofW (cc := b_M_cutRow) (maxL := 6) (ret := none) (by decide) rfl ?_
  intro p e s m args below meth c s₁ B hml hv
  obtain ⟨rfl, hsz, hP, hK, hD0⟩ := hv
  have hx := B.exec
  have hb := B.bytes
  have hr := B.returns
  have hts := atoms_spec (ws := w_M_cutRow) B.pre
  have hG : ∀ w ∈ gM, w.before _ s = true := fun w h => hts w (List.mem_cons_of_mem _ h)
  have hown : s.vm.findClass R_M = some m.cls := findClass_of_methodNamed B.named
  have hlocks := B.notSynchronized
  subst hsz
  have hD := hD0.self (sz := s.heap.size)
  generalize hAe : va_A (mW ad cJ cZ c0 r0 w0 s0) s.heap.size = A at hD ⊢
  have hA : ∀ q : Nat, s.heap.size ≤ q → A q := fun q h => by rw [← hAe]; exact Or.inr h
  have hS : va_S A s.heap s.heap [] := va_S.rf
  have hl := lv_entry ([.ref (ad 0), .int (nI p1), .int (nI p2), .int (p3)]) (n := 6) (Nat.le_of_ble_eq_true rfl)
  rw [lg_entry_eq]
  generalize (lg_sl ([.ref (ad 0), .int (nI p1), .int (nI p2), .int (p3)]) ++ List.replicate (6 - (lg_sl ([.ref (ad 0), .int (nI p1), .int (nI p2), .int (p3)])).length) Slot.unset).toArray = ls at hl ⊢
  have hl : lv_has ls 6 [(0, .ref (ad 0)), (1, .int (nI p1)), (2, .int (nI p2)), (3, .int (p3))] := hl
  have K148g : ∀ (g148 : (Nat → VV)) (hj : f_M_cutRow r0 p1 p2 p3 = f_M_cutRow_148g r0 p1 p2 p3 g148) (H : Heap) (locs : List Loc) (hP : va_P (dC, dI) classes (mW ad cJ cZ c0 g148 w0 s0) H) (hD : va_D A (mW ad cJ cZ c0 g148 w0 s0)) (hS : va_S A s.heap H locs) (ls : Array Slot) (hl : lv_has ls 6 []), W p l e (headSpec w_M_cutRow ({ frames := 6, cells := 0, slots := 0, locals := 183 } : Room)).room s m ([.ref (ad 0), .int (nI p1), .int (nI p2), .int (p3)] : List Value).toArray below meth c H locs 0 0 (MQ below (va_Qv (fun _ : Unit => True) (mB (dC, dI) A (mW ad cJ cZ c0 (f_M_cutRow r0 p1 p2 p3) w0 s0)) A) ([.ref (ad 0), .int (nI p1), .int (nI p2), .int (p3)] : List Value).toArray s 0 0 A) (F0 m 151 ls []) := by
    intro g148 hj H locs hP hD hS ls hl
    have fe : f_M_cutRow r0 p1 p2 p3 = g148 := hj.trans rfl
    exact W.vret hx hb hr (fun t ht hW => ⟨⟨(), rfl, trivial, by rw [ht, fe]; exact hP, by rw [fe]; exact hD⟩, hS.F ht⟩) hS.2.2 d_M_cutRow_151
  have K146 : ∀ (r146 : (Nat → VV)) (hj : f_M_cutRow r0 p1 p2 p3 = f_M_cutRow_146 r0 p1 p2 p3 r146) (H : Heap) (locs : List Loc) (hP : va_P (dC, dI) classes (mW ad cJ cZ c0 r146 w0 s0) H) (hD : va_D A (mW ad cJ cZ c0 r146 w0 s0)) (hS : va_S A s.heap H locs) (ls : Array Slot) (hl : lv_has ls 6 [(0, .ref (ad 0)), (2, .int (nI p2))]), W p l e (headSpec w_M_cutRow ({ frames := 6, cells := 0, slots := 0, locals := 183 } : Room)).room s m ([.ref (ad 0), .int (nI p1), .int (nI p2), .int (p3)] : List Value).toArray below meth c H locs 0 0 (MQ below (va_Qv (fun _ : Unit => True) (mB (dC, dI) A (mW ad cJ cZ c0 (f_M_cutRow r0 p1 p2 p3) w0 s0)) A) ([.ref (ad 0), .int (nI p1), .int (nI p2), .int (p3)] : List Value).toArray s 0 0 A) (F0 m 146 ls []) := by
    intro r146 hj H locs hP hD hS ls hl
    refine lv_aload_n hx hb d_M_cutRow_146 rfl (lv_at hl 0 rfl) ?_
    refine lv_iload_n hx hb d_M_cutRow_147 rfl (lv_at hl 1 rfl) ?_
    refine mm_v (F := f_M_tighten r146 p2) (w1 := fun g148 => (mW ad cJ cZ c0 g148 w0 s0)) (va_runV (As := [.int (nI p2)]) (rest := []) ⟨hx, hb, hml, hown, hts⟩ (c_M_tighten l dC dI ad cJ cZ H.size c0 r146 w0 s0 p2 b2) (cwV 1 hts (gxV gx69 gx70 gx274 gx0 gx71) rfl rfl rfl (by decide +kernel) ⟨(Nat.le_of_ble_eq_true rfl), (Nat.le_of_ble_eq_true rfl)⟩) ⟨blp, va_recv hK hP (ci := 2) (q0 := 0) rfl rfl, fun U hU hW => ⟨rfl, by rw [hU], by rw [hU]; exact hP, va_K.moved hW.alike hK, hD.weaken (fun _ _ _ _ => trivial)⟩⟩ rfl rfl hl.1 rfl (lv_room (Nat.le_of_ble_eq_true rfl)) d_M_cutRow_148 ⟨Nat.zero_le _, Nat.zero_le _⟩) hD hS hA (fun g148 eg148 H locs hP hD hS => ?_)
    refine K148g g148 (Eq.trans (hj.trans rfl) (congrArg (fun g148 => f_M_cutRow_148g r0 p1 p2 p3 g148) eg148)) H locs ?_ ?_ hS ls (lv_sub hl [] rfl)
    · with_reducible exact hP
    · with_reducible exact hD
  have K145u : ∀ (r145n : (Nat → VV)) (hj : f_M_cutRow r0 p1 p2 p3 = f_M_cutRow_145u r0 p1 p2 p3 r145n) (H : Heap) (locs : List Loc) (hP : va_P (dC, dI) classes (mW ad cJ cZ c0 r145n w0 s0) H) (hD : va_D A (mW ad cJ cZ c0 r145n w0 s0)) (hS : va_S A s.heap H locs) (ls : Array Slot) (hl : lv_has ls 6 [(0, .ref (ad 0)), (2, .int (nI p2))]), W p l e (headSpec w_M_cutRow ({ frames := 6, cells := 0, slots := 0, locals := 183 } : Room)).room s m ([.ref (ad 0), .int (nI p1), .int (nI p2), .int (p3)] : List Value).toArray below meth c H locs 0 0 (MQ below (va_Qv (fun _ : Unit => True) (mB (dC, dI) A (mW ad cJ cZ c0 (f_M_cutRow r0 p1 p2 p3) w0 s0)) A) ([.ref (ad 0), .int (nI p1), .int (nI p2), .int (p3)] : List Value).toArray s 0 0 A) (F0 m 146 ls []) := by
    intro r145n hj H locs hP hD hS ls hl
    refine K146 r145n (hj.trans rfl) H locs ?_ ?_ hS ls (lv_sub hl [0, 1] rfl)
    · with_reducible exact hP
    · with_reducible exact hD
  have K132u : ∀ (r132n : (Nat → VV)) (hj : f_M_cutRow r0 p1 p2 p3 = f_M_cutRow_132u r0 p1 p2 p3 r132n) (H : Heap) (locs : List Loc) (hP : va_P (dC, dI) classes (mW ad cJ cZ c0 r132n w0 s0) H) (hD : va_D A (mW ad cJ cZ c0 r132n w0 s0)) (hS : va_S A s.heap H locs) (ls : Array Slot) (hl : lv_has ls 6 [(0, .ref (ad 0)), (2, .int (nI p2))]), W p l e (headSpec w_M_cutRow ({ frames := 6, cells := 0, slots := 0, locals := 183 } : Room)).room s m ([.ref (ad 0), .int (nI p1), .int (nI p2), .int (p3)] : List Value).toArray below meth c H locs 0 0 (MQ below (va_Qv (fun _ : Unit => True) (mB (dC, dI) A (mW ad cJ cZ c0 (f_M_cutRow r0 p1 p2 p3) w0 s0)) A) ([.ref (ad 0), .int (nI p1), .int (nI p2), .int (p3)] : List Value).toArray s 0 0 A) (F0 m 133 ls []) := by
    intro r132n hj H locs hP hD hS ls hl
    refine lv_aload_n hx hb d_M_cutRow_133 rfl (lv_at hl 0 rfl) ?_
    refine va_get (D := (dC, dI)) (ci := 2) (v := .ref (ad 6)) (C := R_M) (T := F_M) (N := 10) hx hb hts (fun w h => List.mem_cons_of_mem _ (uw_M w h)) hown hK hP 0 rfl rfl 6 (by decide) (hG (.fieldLink R_M 25 "ValueSieveModel" "greatest" "[J") gx15) (fun _ h9 => h9) rfl d_M_cutRow_134 ?_
    refine lv_iload_n hx hb d_M_cutRow_137 rfl (lv_at hl 1 rfl) ?_
    refine lv_aload_n hx hb d_M_cutRow_138 rfl (lv_at hl 0 rfl) ?_
    refine va_get (D := (dC, dI)) (ci := 2) (v := .ref (ad 6)) (C := R_M) (T := F_M) (N := 10) hx hb hts (fun w h => List.mem_cons_of_mem _ (uw_M w h)) hown hK hP 0 rfl rfl 6 (by decide) (hG (.fieldLink R_M 25 "ValueSieveModel" "greatest" "[J") gx15) (fun _ h9 => h9) rfl d_M_cutRow_139 ?_
    refine lv_bipush (v := 19) hx hb d_M_cutRow_142 (by decide) ?_
    refine ml_6 (P := 19) hx hb hK hP rfl (by decide) d_M_cutRow_144 ?_
    refine ms_6 (P := p2) (x := (r132n 19).2.2.2.2.2.1) hx hb hK hP hD hS rfl b2 d_M_cutRow_145 (fun H locs hP hD hS => ?_)
    obtain ⟨r145n, er145n⟩ : ∃ z, z = u6 r132n p2 ((r132n 19).2.2.2.2.2.1) := ⟨_, rfl⟩
    rw [← er145n] at hP hD
    refine K145u r145n (Eq.trans (hj.trans rfl) (congrArg (fun r145n => f_M_cutRow_145u r0 p1 p2 p3 r145n) er145n.symm)) H locs ?_ ?_ hS ls (lv_sub hl [0, 1] rfl)
    · with_reducible exact hP
    · with_reducible exact hD
  have K114 : ∀ (r114 : (Nat → VV)) (hj : f_M_cutRow r0 p1 p2 p3 = f_M_cutRow_114 r0 p1 p2 p3 r114) (H : Heap) (locs : List Loc) (hP : va_P (dC, dI) classes (mW ad cJ cZ c0 r114 w0 s0) H) (hD : va_D A (mW ad cJ cZ c0 r114 w0 s0)) (hS : va_S A s.heap H locs) (ls : Array Slot) (hl : lv_has ls 6 [(0, .ref (ad 0)), (2, .int (nI p2)), (3, .int (p3))]), W p l e (headSpec w_M_cutRow ({ frames := 6, cells := 0, slots := 0, locals := 183 } : Room)).room s m ([.ref (ad 0), .int (nI p1), .int (nI p2), .int (p3)] : List Value).toArray below meth c H locs 0 0 (MQ below (va_Qv (fun _ : Unit => True) (mB (dC, dI) A (mW ad cJ cZ c0 (f_M_cutRow r0 p1 p2 p3) w0 s0)) A) ([.ref (ad 0), .int (nI p1), .int (nI p2), .int (p3)] : List Value).toArray s 0 0 A) (F0 m 114 ls []) := by
    intro r114 hj H locs hP hD hS ls hl
    refine lv_iload_n hx hb d_M_cutRow_114 rfl (lv_at hl 2 rfl) ?_
    refine lv_bipush (v := 64) hx hb d_M_cutRow_115 (by decide) ?_
    refine lv_icmp_ne (tgt := 146) hx hb d_M_cutRow_117 (by decide) (fun e1_146 => ?_) (fun e1_146 => ?_)
    · refine K146 r114 (hj.trans (by unfold f_M_cutRow_114; first | with_reducible exact if_neg e1_146 | exact if_neg e1_146)) H locs ?_ ?_ hS ls (lv_sub hl [0, 1] rfl)
      · with_reducible exact hP
      · with_reducible exact hD
    · refine lv_aload_n hx hb d_M_cutRow_120 rfl (lv_at hl 0 rfl) ?_
      refine va_get (D := (dC, dI)) (ci := 2) (v := .ref (ad 5)) (C := R_M) (T := F_M) (N := 10) hx hb hts (fun w h => List.mem_cons_of_mem _ (uw_M w h)) hown hK hP 0 rfl rfl 5 (by decide) (hG (.fieldLink R_M 22 "ValueSieveModel" "least" "[J") gx14) (fun _ h9 => h9) rfl d_M_cutRow_121 ?_
      refine lv_iload_n hx hb d_M_cutRow_124 rfl (lv_at hl 1 rfl) ?_
      refine lv_aload_n hx hb d_M_cutRow_125 rfl (lv_at hl 0 rfl) ?_
      refine va_get (D := (dC, dI)) (ci := 2) (v := .ref (ad 5)) (C := R_M) (T := F_M) (N := 10) hx hb hts (fun w h => List.mem_cons_of_mem _ (uw_M w h)) hown hK hP 0 rfl rfl 5 (by decide) (hG (.fieldLink R_M 22 "ValueSieveModel" "least" "[J") gx14) (fun _ h9 => h9) rfl d_M_cutRow_126 ?_
      refine lv_bipush (v := 19) hx hb d_M_cutRow_129 (by decide) ?_
      refine ml_5 (P := 19) hx hb hK hP rfl (by decide) d_M_cutRow_131 ?_
      refine ms_5 (P := p2) (x := (r114 19).2.2.2.2.1) hx hb hK hP hD hS rfl b2 d_M_cutRow_132 (fun H locs hP hD hS => ?_)
      obtain ⟨r132n, er132n⟩ : ∃ z, z = u5 r114 p2 ((r114 19).2.2.2.2.1) := ⟨_, rfl⟩
      rw [← er132n] at hP hD
      refine K132u r132n (Eq.trans (hj.trans (by unfold f_M_cutRow_114; first | with_reducible exact if_pos e1_146 | exact if_pos e1_146)) (congrArg (fun r132n => f_M_cutRow_132u r0 p1 p2 p3 r132n) er132n.symm)) H locs ?_ ?_ hS ls (lv_sub hl [0, 1] rfl)
      · with_reducible exact hP
      · with_reducible exact hD
  have K113u : ∀ (r113n : (Nat → VV)) (hj : f_M_cutRow r0 p1 p2 p3 = f_M_cutRow_113u r0 p1 p2 p3 r113n) (H : Heap) (locs : List Loc) (hP : va_P (dC, dI) classes (mW ad cJ cZ c0 r113n w0 s0) H) (hD : va_D A (mW ad cJ cZ c0 r113n w0 s0)) (hS : va_S A s.heap H locs) (ls : Array Slot) (hl : lv_has ls 6 [(0, .ref (ad 0)), (2, .int (nI p2)), (3, .int (p3))]), W p l e (headSpec w_M_cutRow ({ frames := 6, cells := 0, slots := 0, locals := 183 } : Room)).room s m ([.ref (ad 0), .int (nI p1), .int (nI p2), .int (p3)] : List Value).toArray below meth c H locs 0 0 (MQ below (va_Qv (fun _ : Unit => True) (mB (dC, dI) A (mW ad cJ cZ c0 (f_M_cutRow r0 p1 p2 p3) w0 s0)) A) ([.ref (ad 0), .int (nI p1), .int (nI p2), .int (p3)] : List Value).toArray s 0 0 A) (F0 m 114 ls []) := by
    intro r113n hj H locs hP hD hS ls hl
    refine K114 r113n (hj.trans rfl) H locs ?_ ?_ hS ls (lv_sub hl [0, 1, 2] rfl)
    · with_reducible exact hP
    · with_reducible exact hD
  have K97u : ∀ (v4 : Int64) (r97n : (Nat → VV)) (hj : f_M_cutRow r0 p1 p2 p3 = f_M_cutRow_97u r0 p1 p2 p3 v4 r97n) (H : Heap) (locs : List Loc) (hP : va_P (dC, dI) classes (mW ad cJ cZ c0 r97n w0 s0) H) (hD : va_D A (mW ad cJ cZ c0 r97n w0 s0)) (hS : va_S A s.heap H locs) (ls : Array Slot) (hl : lv_has ls 6 [(4, .long (v4)), (0, .ref (ad 0)), (2, .int (nI p2)), (3, .int (p3))]), W p l e (headSpec w_M_cutRow ({ frames := 6, cells := 0, slots := 0, locals := 183 } : Room)).room s m ([.ref (ad 0), .int (nI p1), .int (nI p2), .int (p3)] : List Value).toArray below meth c H locs 0 0 (MQ below (va_Qv (fun _ : Unit => True) (mB (dC, dI) A (mW ad cJ cZ c0 (f_M_cutRow r0 p1 p2 p3) w0 s0)) A) ([.ref (ad 0), .int (nI p1), .int (nI p2), .int (p3)] : List Value).toArray s 0 0 A) (F0 m 98 ls []) := by
    intro v4 r97n hj H locs hP hD hS ls hl
    refine lv_aload_n hx hb d_M_cutRow_98 rfl (lv_at hl 1 rfl) ?_
    refine va_get (D := (dC, dI)) (ci := 2) (v := .ref (ad 4)) (C := R_M) (T := F_M) (N := 10) hx hb hts (fun w h => List.mem_cons_of_mem _ (uw_M w h)) hown hK hP 0 rfl rfl 4 (by decide) (hG (.fieldLink R_M 19 "ValueSieveModel" "high" "[J") gx13) (fun _ h9 => h9) rfl d_M_cutRow_99 ?_
    refine lv_iload_n hx hb d_M_cutRow_102 rfl (lv_at hl 2 rfl) ?_
    refine lv_aload_n hx hb d_M_cutRow_103 rfl (lv_at hl 1 rfl) ?_
    refine va_get (D := (dC, dI)) (ci := 2) (v := .ref (ad 4)) (C := R_M) (T := F_M) (N := 10) hx hb hts (fun w h => List.mem_cons_of_mem _ (uw_M w h)) hown hK hP 0 rfl rfl 4 (by decide) (hG (.fieldLink R_M 19 "ValueSieveModel" "high" "[J") gx13) (fun _ h9 => h9) rfl d_M_cutRow_104 ?_
    refine lv_bipush (v := 19) hx hb d_M_cutRow_107 (by decide) ?_
    refine ml_4 (P := 19) hx hb hK hP rfl (by decide) d_M_cutRow_109 ?_
    refine lv_lload hx hb d_M_cutRow_110 (lv_at hl 0 rfl) ?_
    refine lv_land hx hb d_M_cutRow_112 ?_
    refine ms_4 (P := p2) (x := ((r97n 19).2.2.2.1) &&& v4) hx hb hK hP hD hS rfl b2 d_M_cutRow_113 (fun H locs hP hD hS => ?_)
    obtain ⟨r113n, er113n⟩ : ∃ z, z = u4 r97n p2 (((r97n 19).2.2.2.1) &&& v4) := ⟨_, rfl⟩
    rw [← er113n] at hP hD
    refine K113u r113n (Eq.trans (hj.trans rfl) (congrArg (fun r113n => f_M_cutRow_113u r0 p1 p2 p3 r113n) er113n.symm)) H locs ?_ ?_ hS ls (lv_sub hl [1, 2, 3] rfl)
    · with_reducible exact hP
    · with_reducible exact hD
  have K49u : ∀ (v4 : Int64) (r49n : (Nat → VV)) (hj : f_M_cutRow r0 p1 p2 p3 = f_M_cutRow_49u r0 p1 p2 p3 v4 r49n) (H : Heap) (locs : List Loc) (hP : va_P (dC, dI) classes (mW ad cJ cZ c0 r49n w0 s0) H) (hD : va_D A (mW ad cJ cZ c0 r49n w0 s0)) (hS : va_S A s.heap H locs) (ls : Array Slot) (hl : lv_has ls 6 [(4, .long (v4)), (0, .ref (ad 0)), (2, .int (nI p2)), (3, .int (p3))]), W p l e (headSpec w_M_cutRow ({ frames := 6, cells := 0, slots := 0, locals := 183 } : Room)).room s m ([.ref (ad 0), .int (nI p1), .int (nI p2), .int (p3)] : List Value).toArray below meth c H locs 0 0 (MQ below (va_Qv (fun _ : Unit => True) (mB (dC, dI) A (mW ad cJ cZ c0 (f_M_cutRow r0 p1 p2 p3) w0 s0)) A) ([.ref (ad 0), .int (nI p1), .int (nI p2), .int (p3)] : List Value).toArray s 0 0 A) (F0 m 50 ls []) := by
    intro v4 r49n hj H locs hP hD hS ls hl
    refine lv_aload_n hx hb d_M_cutRow_50 rfl (lv_at hl 1 rfl) ?_
    refine va_get (D := (dC, dI)) (ci := 2) (v := .ref (ad 3)) (C := R_M) (T := F_M) (N := 10) hx hb hts (fun w h => List.mem_cons_of_mem _ (uw_M w h)) hown hK hP 0 rfl rfl 3 (by decide) (hG (.fieldLink R_M 16 "ValueSieveModel" "low" "[J") gx12) (fun _ h9 => h9) rfl d_M_cutRow_51 ?_
    refine lv_bipush (v := 19) hx hb d_M_cutRow_54 (by decide) ?_
    refine ml_3 (P := 19) hx hb hK hP rfl (by decide) d_M_cutRow_56 ?_
    refine lv_lload hx hb d_M_cutRow_57 (lv_at hl 0 rfl) ?_
    refine lv_ldc2 (v := -1) hx hb hown (hG (.constantLong R_M 49 (-1)) gx42) d_M_cutRow_59 ?_
    refine lv_lxor hx hb d_M_cutRow_62 ?_
    refine lv_land hx hb d_M_cutRow_63 ?_
    refine lv_aload_n hx hb d_M_cutRow_64 rfl (lv_at hl 1 rfl) ?_
    refine va_get (D := (dC, dI)) (ci := 2) (v := .ref (ad 4)) (C := R_M) (T := F_M) (N := 10) hx hb hts (fun w h => List.mem_cons_of_mem _ (uw_M w h)) hown hK hP 0 rfl rfl 4 (by decide) (hG (.fieldLink R_M 19 "ValueSieveModel" "high" "[J") gx13) (fun _ h9 => h9) rfl d_M_cutRow_65 ?_
    refine lv_bipush (v := 19) hx hb d_M_cutRow_68 (by decide) ?_
    refine ml_4 (P := 19) hx hb hK hP rfl (by decide) d_M_cutRow_70 ?_
    refine lv_lload hx hb d_M_cutRow_71 (lv_at hl 0 rfl) ?_
    refine lv_ldc2 (v := -1) hx hb hown (hG (.constantLong R_M 49 (-1)) gx42) d_M_cutRow_73 ?_
    refine lv_lxor hx hb d_M_cutRow_76 ?_
    refine lv_land hx hb d_M_cutRow_77 ?_
    refine wl_ne (tgt := 114) hx hb d_M_cutRow_78 d_M_cutRow_79 (by decide) (fun e1_114 => ?_) (fun e1_114 => ?_)
    · refine K114 r49n (hj.trans (by unfold f_M_cutRow_49u; first | with_reducible exact if_neg e1_114 | exact if_neg e1_114)) H locs ?_ ?_ hS ls (lv_sub hl [1, 2, 3] rfl)
      · with_reducible exact hP
      · with_reducible exact hD
    · refine lv_aload_n hx hb d_M_cutRow_82 rfl (lv_at hl 1 rfl) ?_
      refine va_get (D := (dC, dI)) (ci := 2) (v := .ref (ad 3)) (C := R_M) (T := F_M) (N := 10) hx hb hts (fun w h => List.mem_cons_of_mem _ (uw_M w h)) hown hK hP 0 rfl rfl 3 (by decide) (hG (.fieldLink R_M 16 "ValueSieveModel" "low" "[J") gx12) (fun _ h9 => h9) rfl d_M_cutRow_83 ?_
      refine lv_iload_n hx hb d_M_cutRow_86 rfl (lv_at hl 2 rfl) ?_
      refine lv_aload_n hx hb d_M_cutRow_87 rfl (lv_at hl 1 rfl) ?_
      refine va_get (D := (dC, dI)) (ci := 2) (v := .ref (ad 3)) (C := R_M) (T := F_M) (N := 10) hx hb hts (fun w h => List.mem_cons_of_mem _ (uw_M w h)) hown hK hP 0 rfl rfl 3 (by decide) (hG (.fieldLink R_M 16 "ValueSieveModel" "low" "[J") gx12) (fun _ h9 => h9) rfl d_M_cutRow_88 ?_
      refine lv_bipush (v := 19) hx hb d_M_cutRow_91 (by decide) ?_
      refine ml_3 (P := 19) hx hb hK hP rfl (by decide) d_M_cutRow_93 ?_
      refine lv_lload hx hb d_M_cutRow_94 (lv_at hl 0 rfl) ?_
      refine lv_land hx hb d_M_cutRow_96 ?_
      refine ms_3 (P := p2) (x := ((r49n 19).2.2.1) &&& v4) hx hb hK hP hD hS rfl b2 d_M_cutRow_97 (fun H locs hP hD hS => ?_)
      obtain ⟨r97n, er97n⟩ : ∃ z, z = u3 r49n p2 (((r49n 19).2.2.1) &&& v4) := ⟨_, rfl⟩
      rw [← er97n] at hP hD
      refine K97u v4 r97n (Eq.trans (hj.trans (by unfold f_M_cutRow_49u; first | with_reducible exact if_pos e1_114 | exact if_pos e1_114)) (congrArg (fun r97n => f_M_cutRow_97u r0 p1 p2 p3 v4 r97n) er97n.symm)) H locs ?_ ?_ hS ls (lv_sub hl [0, 1, 2, 3] rfl)
      · with_reducible exact hP
      · with_reducible exact hD
  have K33u : ∀ (v4 : Int64) (r33n : (Nat → VV)) (hj : f_M_cutRow r0 p1 p2 p3 = f_M_cutRow_33u r0 p1 p2 p3 v4 r33n) (H : Heap) (locs : List Loc) (hP : va_P (dC, dI) classes (mW ad cJ cZ c0 r33n w0 s0) H) (hD : va_D A (mW ad cJ cZ c0 r33n w0 s0)) (hS : va_S A s.heap H locs) (ls : Array Slot) (hl : lv_has ls 6 [(4, .long (v4)), (0, .ref (ad 0)), (2, .int (nI p2)), (3, .int (p3))]), W p l e (headSpec w_M_cutRow ({ frames := 6, cells := 0, slots := 0, locals := 183 } : Room)).room s m ([.ref (ad 0), .int (nI p1), .int (nI p2), .int (p3)] : List Value).toArray below meth c H locs 0 0 (MQ below (va_Qv (fun _ : Unit => True) (mB (dC, dI) A (mW ad cJ cZ c0 (f_M_cutRow r0 p1 p2 p3) w0 s0)) A) ([.ref (ad 0), .int (nI p1), .int (nI p2), .int (p3)] : List Value).toArray s 0 0 A) (F0 m 34 ls []) := by
    intro v4 r33n hj H locs hP hD hS ls hl
    refine lv_aload_n hx hb d_M_cutRow_34 rfl (lv_at hl 1 rfl) ?_
    refine va_get (D := (dC, dI)) (ci := 2) (v := .ref (ad 2)) (C := R_M) (T := F_M) (N := 10) hx hb hts (fun w h => List.mem_cons_of_mem _ (uw_M w h)) hown hK hP 0 rfl rfl 2 (by decide) (hG (.fieldLink R_M 13 "ValueSieveModel" "open" "[J") gx11) (fun _ h9 => h9) rfl d_M_cutRow_35 ?_
    refine lv_iload_n hx hb d_M_cutRow_38 rfl (lv_at hl 2 rfl) ?_
    refine lv_aload_n hx hb d_M_cutRow_39 rfl (lv_at hl 1 rfl) ?_
    refine va_get (D := (dC, dI)) (ci := 2) (v := .ref (ad 2)) (C := R_M) (T := F_M) (N := 10) hx hb hts (fun w h => List.mem_cons_of_mem _ (uw_M w h)) hown hK hP 0 rfl rfl 2 (by decide) (hG (.fieldLink R_M 13 "ValueSieveModel" "open" "[J") gx11) (fun _ h9 => h9) rfl d_M_cutRow_40 ?_
    refine lv_bipush (v := 19) hx hb d_M_cutRow_43 (by decide) ?_
    refine ml_2 (P := 19) hx hb hK hP rfl (by decide) d_M_cutRow_45 ?_
    refine lv_lload hx hb d_M_cutRow_46 (lv_at hl 0 rfl) ?_
    refine lv_land hx hb d_M_cutRow_48 ?_
    refine ms_2 (P := p2) (x := ((r33n 19).2.1) &&& v4) hx hb hK hP hD hS rfl b2 d_M_cutRow_49 (fun H locs hP hD hS => ?_)
    obtain ⟨r49n, er49n⟩ : ∃ z, z = u2 r33n p2 (((r33n 19).2.1) &&& v4) := ⟨_, rfl⟩
    rw [← er49n] at hP hD
    refine K49u v4 r49n (Eq.trans (hj.trans rfl) (congrArg (fun r49n => f_M_cutRow_49u r0 p1 p2 p3 v4 r49n) er49n.symm)) H locs ?_ ?_ hS ls (lv_sub hl [0, 1, 2, 3] rfl)
    · with_reducible exact hP
    · with_reducible exact hD
  have K15g : ∀ (v4 : Int64) (g15 : (Nat → VV)) (hj : f_M_cutRow r0 p1 p2 p3 = f_M_cutRow_15g r0 p1 p2 p3 v4 g15) (H : Heap) (locs : List Loc) (hP : va_P (dC, dI) classes (mW ad cJ cZ c0 g15 w0 s0) H) (hD : va_D A (mW ad cJ cZ c0 g15 w0 s0)) (hS : va_S A s.heap H locs) (ls : Array Slot) (hl : lv_has ls 6 [(4, .long (v4)), (0, .ref (ad 0)), (2, .int (nI p2)), (3, .int (p3))]), W p l e (headSpec w_M_cutRow ({ frames := 6, cells := 0, slots := 0, locals := 183 } : Room)).room s m ([.ref (ad 0), .int (nI p1), .int (nI p2), .int (p3)] : List Value).toArray below meth c H locs 0 0 (MQ below (va_Qv (fun _ : Unit => True) (mB (dC, dI) A (mW ad cJ cZ c0 (f_M_cutRow r0 p1 p2 p3) w0 s0)) A) ([.ref (ad 0), .int (nI p1), .int (nI p2), .int (p3)] : List Value).toArray s 0 0 A) (F0 m 18 ls []) := by
    intro v4 g15 hj H locs hP hD hS ls hl
    refine lv_aload_n hx hb d_M_cutRow_18 rfl (lv_at hl 1 rfl) ?_
    refine va_get (D := (dC, dI)) (ci := 2) (v := .ref (ad 1)) (C := R_M) (T := F_M) (N := 10) hx hb hts (fun w h => List.mem_cons_of_mem _ (uw_M w h)) hown hK hP 0 rfl rfl 1 (by decide) (hG (.fieldLink R_M 7 "ValueSieveModel" "bits" "[J") gx10) (fun _ h9 => h9) rfl d_M_cutRow_19 ?_
    refine lv_iload_n hx hb d_M_cutRow_22 rfl (lv_at hl 2 rfl) ?_
    refine lv_aload_n hx hb d_M_cutRow_23 rfl (lv_at hl 1 rfl) ?_
    refine va_get (D := (dC, dI)) (ci := 2) (v := .ref (ad 1)) (C := R_M) (T := F_M) (N := 10) hx hb hts (fun w h => List.mem_cons_of_mem _ (uw_M w h)) hown hK hP 0 rfl rfl 1 (by decide) (hG (.fieldLink R_M 7 "ValueSieveModel" "bits" "[J") gx10) (fun _ h9 => h9) rfl d_M_cutRow_24 ?_
    refine lv_bipush (v := 19) hx hb d_M_cutRow_27 (by decide) ?_
    refine ml_1 (P := 19) hx hb hK hP rfl (by decide) d_M_cutRow_29 ?_
    refine lv_lload hx hb d_M_cutRow_30 (lv_at hl 0 rfl) ?_
    refine lv_land hx hb d_M_cutRow_32 ?_
    refine ms_1 (P := p2) (x := ((g15 19).1) &&& v4) hx hb hK hP hD hS rfl b2 d_M_cutRow_33 (fun H locs hP hD hS => ?_)
    obtain ⟨r33n, er33n⟩ : ∃ z, z = u1 g15 p2 (((g15 19).1) &&& v4) := ⟨_, rfl⟩
    rw [← er33n] at hP hD
    refine K33u v4 r33n (Eq.trans (hj.trans rfl) (congrArg (fun r33n => f_M_cutRow_33u r0 p1 p2 p3 v4 r33n) er33n.symm)) H locs ?_ ?_ hS ls (lv_sub hl [0, 1, 2, 3] rfl)
    · with_reducible exact hP
    · with_reducible exact hD
  have K10g : ∀ (v4 : Int64) (g10 : (Nat → VV)) (hj : f_M_cutRow r0 p1 p2 p3 = f_M_cutRow_10g r0 p1 p2 p3 v4 g10) (H : Heap) (locs : List Loc) (hP : va_P (dC, dI) classes (mW ad cJ cZ c0 g10 w0 s0) H) (hD : va_D A (mW ad cJ cZ c0 g10 w0 s0)) (hS : va_S A s.heap H locs) (ls : Array Slot) (hl : lv_has ls 6 [(4, .long (v4)), (0, .ref (ad 0)), (2, .int (nI p2)), (3, .int (p3))]), W p l e (headSpec w_M_cutRow ({ frames := 6, cells := 0, slots := 0, locals := 183 } : Room)).room s m ([.ref (ad 0), .int (nI p1), .int (nI p2), .int (p3)] : List Value).toArray below meth c H locs 0 0 (MQ below (va_Qv (fun _ : Unit => True) (mB (dC, dI) A (mW ad cJ cZ c0 (f_M_cutRow r0 p1 p2 p3) w0 s0)) A) ([.ref (ad 0), .int (nI p1), .int (nI p2), .int (p3)] : List Value).toArray s 0 0 A) (F0 m 13 ls []) := by
    intro v4 g10 hj H locs hP hD hS ls hl
    refine lv_aload_n hx hb d_M_cutRow_13 rfl (lv_at hl 1 rfl) ?_
    refine lv_iload_n hx hb d_M_cutRow_14 rfl (lv_at hl 2 rfl) ?_
    refine mm_v (F := f_M_nothingSaid g10 p2) (w1 := fun g15 => (mW ad cJ cZ c0 g15 w0 s0)) (va_runV (As := [.int (nI p2)]) (rest := []) ⟨hx, hb, hml, hown, hts⟩ (c_M_nothingSaid l dC dI ad cJ cZ H.size c0 g10 w0 s0 p2 b2) (cwV 1 hts (gxV gx39 gx40 gx267 gx0 gx41) rfl rfl rfl (by decide +kernel) ⟨(Nat.le_of_ble_eq_true rfl), (Nat.le_of_ble_eq_true rfl)⟩) ⟨blp, va_recv hK hP (ci := 2) (q0 := 0) rfl rfl, fun U hU hW => ⟨rfl, by rw [hU], by rw [hU]; exact hP, va_K.moved hW.alike hK, hD.weaken (fun _ _ _ _ => trivial)⟩⟩ rfl rfl hl.1 rfl (lv_room (Nat.le_of_ble_eq_true rfl)) d_M_cutRow_15 ⟨Nat.zero_le _, Nat.zero_le _⟩) hD hS hA (fun g15 eg15 H locs hP hD hS => ?_)
    refine K15g v4 g15 (Eq.trans (hj.trans rfl) (congrArg (fun g15 => f_M_cutRow_15g r0 p1 p2 p3 v4 g15) eg15)) H locs ?_ ?_ hS ls (lv_sub hl [0, 1, 2, 3] rfl)
    · with_reducible exact hP
    · with_reducible exact hD
  have K4v : ∀ (v4 : Int64) (hj : f_M_cutRow r0 p1 p2 p3 = f_M_cutRow_4v r0 p1 p2 p3 v4) (H : Heap) (locs : List Loc) (hP : va_P (dC, dI) classes (mW ad cJ cZ c0 r0 w0 s0) H) (hD : va_D A (mW ad cJ cZ c0 r0 w0 s0)) (hS : va_S A s.heap H locs) (ls : Array Slot) (hl : lv_has ls 6 [(4, .long (v4)), (0, .ref (ad 0)), (1, .int (nI p1)), (2, .int (nI p2)), (3, .int (p3))]), W p l e (headSpec w_M_cutRow ({ frames := 6, cells := 0, slots := 0, locals := 183 } : Room)).room s m ([.ref (ad 0), .int (nI p1), .int (nI p2), .int (p3)] : List Value).toArray below meth c H locs 0 0 (MQ below (va_Qv (fun _ : Unit => True) (mB (dC, dI) A (mW ad cJ cZ c0 (f_M_cutRow r0 p1 p2 p3) w0 s0)) A) ([.ref (ad 0), .int (nI p1), .int (nI p2), .int (p3)] : List Value).toArray s 0 0 A) (F0 m 6 ls []) := by
    intro v4 hj H locs hP hD hS ls hl
    refine lv_aload_n hx hb d_M_cutRow_6 rfl (lv_at hl 1 rfl) ?_
    refine lv_iload_n hx hb d_M_cutRow_7 rfl (lv_at hl 2 rfl) ?_
    refine lv_bipush (v := 19) hx hb d_M_cutRow_8 (by decide) ?_
    refine mm_v (F := f_M_copy r0 p1 19) (w1 := fun g10 => (mW ad cJ cZ c0 g10 w0 s0)) (va_runV (As := [.int (nI p1), .int (19)]) (rest := []) ⟨hx, hb, hml, hown, hts⟩ (c_M_copy l dC dI ad cJ cZ H.size c0 r0 w0 s0 p1 19 b1 (by decide)) (cwV 2 hts (gxV gx48 gx49 gx268 gx0 gx50) rfl rfl rfl (by decide +kernel) ⟨(Nat.le_of_ble_eq_true rfl), (Nat.le_of_ble_eq_true rfl)⟩) ⟨blp, va_recv hK hP (ci := 2) (q0 := 0) rfl rfl, fun U hU hW => ⟨rfl, by rw [hU], by rw [hU]; exact hP, va_K.moved hW.alike hK, hD.weaken (fun _ _ _ _ => trivial)⟩⟩ rfl rfl hl.1 rfl (lv_room (Nat.le_of_ble_eq_true rfl)) d_M_cutRow_10 ⟨Nat.zero_le _, Nat.zero_le _⟩) hD hS hA (fun g10 eg10 H locs hP hD hS => ?_)
    refine K10g v4 g10 (Eq.trans (hj.trans rfl) (congrArg (fun g10 => f_M_cutRow_10g r0 p1 p2 p3 v4 g10) eg10)) H locs ?_ ?_ hS ls (lv_sub hl [0, 1, 3, 4] rfl)
    · with_reducible exact hP
    · with_reducible exact hD
  refine lv_iload_n hx hb d_M_cutRow_0 rfl (lv_at hl 3 rfl) ?_
  refine rc_l (W.runS (As := [.int (p3)]) (rest := []) ⟨hx, hb, hml, hown, hts⟩ (c_M_mask l p3) (va_cwS 1 hts (gxS gx102 gx103 gx0 gx104) rfl rfl rfl (by decide +kernel) ⟨(Nat.le_of_ble_eq_true rfl), (Nat.le_of_ble_eq_true rfl)⟩) ⟨bl0, fun U hU hW => ⟨rfl, trivial⟩⟩ rfl rfl hl.1 rfl (lv_room (Nat.le_of_ble_eq_true rfl)) d_M_cutRow_1 ⟨Nat.zero_le _, Nat.zero_le _⟩) ?_
  refine lv_topl (fun v4 ev4 => ?_)
  refine lv_lstore (lv' := [(4, .long (v4)), (0, .ref (ad 0)), (1, .int (nI p1)), (2, .int (nI p2)), (3, .int (p3))]) hx hb d_M_cutRow_4 hl (by decide) rfl (fun ls hl => ?_)
  refine K4v v4 (Eq.trans (rfl) (congrArg (fun v4 => f_M_cutRow_4v r0 p1 p2 p3 v4) ev4.symm)) s.heap [] ?_ ?_ hS ls (lv_sub hl [0, 1, 2, 3, 4] rfl)
  · with_reducible exact hP
  · with_reducible exact hD
-- extendRow
theorem d_M_extendRow_0 : decode b_M_extendRow 0 = .ok (.aload_n 0, 1) := by decide +kernel
theorem d_M_extendRow_1 : decode b_M_extendRow 1 = .ok (.iload_n 1, 1) := by decide +kernel
theorem d_M_extendRow_2 : decode b_M_extendRow 2 = .ok (.bipush 20, 2) := by decide +kernel
theorem d_M_extendRow_4 : decode b_M_extendRow 4 = .ok (.iload_n 3, 1) := by decide +kernel
theorem d_M_extendRow_5 : decode b_M_extendRow 5 = .ok (.invokevirtual 120, 3) := by decide +kernel
theorem d_M_extendRow_8 : decode b_M_extendRow 8 = .ok (.iload_n 3, 1) := by decide +kernel
theorem d_M_extendRow_9 : decode b_M_extendRow 9 = .ok (.invokestatic 116, 3) := by decide +kernel
theorem d_M_extendRow_12 : decode b_M_extendRow 12 = .ok (.lstore 4, 2) := by decide +kernel
theorem d_M_extendRow_14 : decode b_M_extendRow 14 = .ok (.lconst 1, 1) := by decide +kernel
theorem d_M_extendRow_15 : decode b_M_extendRow 15 = .ok (.iload_n 3, 1) := by decide +kernel
theorem d_M_extendRow_16 : decode b_M_extendRow 16 = .ok (.iconst 1, 1) := by decide +kernel
theorem d_M_extendRow_17 : decode b_M_extendRow 17 = .ok (.isub, 1) := by decide +kernel
theorem d_M_extendRow_18 : decode b_M_extendRow 18 = .ok (.lshl, 1) := by decide +kernel
theorem d_M_extendRow_19 : decode b_M_extendRow 19 = .ok (.lstore 6, 2) := by decide +kernel
theorem d_M_extendRow_21 : decode b_M_extendRow 21 = .ok (.aload_n 0, 1) := by decide +kernel
theorem d_M_extendRow_22 : decode b_M_extendRow 22 = .ok (.getfield 16, 3) := by decide +kernel
theorem d_M_extendRow_25 : decode b_M_extendRow 25 = .ok (.bipush 20, 2) := by decide +kernel
theorem d_M_extendRow_27 : decode b_M_extendRow 27 = .ok (.laload, 1) := by decide +kernel
theorem d_M_extendRow_28 : decode b_M_extendRow 28 = .ok (.lstore 8, 2) := by decide +kernel
theorem d_M_extendRow_30 : decode b_M_extendRow 30 = .ok (.aload_n 0, 1) := by decide +kernel
theorem d_M_extendRow_31 : decode b_M_extendRow 31 = .ok (.getfield 19, 3) := by decide +kernel
theorem d_M_extendRow_34 : decode b_M_extendRow 34 = .ok (.bipush 20, 2) := by decide +kernel
theorem d_M_extendRow_36 : decode b_M_extendRow 36 = .ok (.laload, 1) := by decide +kernel
theorem d_M_extendRow_37 : decode b_M_extendRow 37 = .ok (.lstore 10, 2) := by decide +kernel
theorem d_M_extendRow_39 : decode b_M_extendRow 39 = .ok (.aload_n 0, 1) := by decide +kernel
theorem d_M_extendRow_40 : decode b_M_extendRow 40 = .ok (.iload_n 2, 1) := by decide +kernel
theorem d_M_extendRow_41 : decode b_M_extendRow 41 = .ok (.invokevirtual 102, 3) := by decide +kernel
theorem d_M_extendRow_44 : decode b_M_extendRow 44 = .ok (.aload_n 0, 1) := by decide +kernel
theorem d_M_extendRow_45 : decode b_M_extendRow 45 = .ok (.getfield 13, 3) := by decide +kernel
theorem d_M_extendRow_48 : decode b_M_extendRow 48 = .ok (.bipush 20, 2) := by decide +kernel
theorem d_M_extendRow_50 : decode b_M_extendRow 50 = .ok (.laload, 1) := by decide +kernel
theorem d_M_extendRow_51 : decode b_M_extendRow 51 = .ok (.lload 6, 2) := by decide +kernel
theorem d_M_extendRow_53 : decode b_M_extendRow 53 = .ok (.land, 1) := by decide +kernel
theorem d_M_extendRow_54 : decode b_M_extendRow 54 = .ok (.lconst 0, 1) := by decide +kernel
theorem d_M_extendRow_55 : decode b_M_extendRow 55 = .ok (.lcmp, 1) := by decide +kernel
theorem d_M_extendRow_56 : decode b_M_extendRow 56 = .ok (.ifCond .ne 7, 3) := by decide +kernel
theorem d_M_extendRow_59 : decode b_M_extendRow 59 = .ok (.iconst 1, 1) := by decide +kernel
theorem d_M_extendRow_60 : decode b_M_extendRow 60 = .ok (.goto 4, 3) := by decide +kernel
theorem d_M_extendRow_63 : decode b_M_extendRow 63 = .ok (.iconst 0, 1) := by decide +kernel
theorem d_M_extendRow_64 : decode b_M_extendRow 64 = .ok (.istore 12, 2) := by decide +kernel
theorem d_M_extendRow_66 : decode b_M_extendRow 66 = .ok (.aload_n 0, 1) := by decide +kernel
theorem d_M_extendRow_67 : decode b_M_extendRow 67 = .ok (.getfield 7, 3) := by decide +kernel
theorem d_M_extendRow_70 : decode b_M_extendRow 70 = .ok (.bipush 20, 2) := by decide +kernel
theorem d_M_extendRow_72 : decode b_M_extendRow 72 = .ok (.laload, 1) := by decide +kernel
theorem d_M_extendRow_73 : decode b_M_extendRow 73 = .ok (.lload 6, 2) := by decide +kernel
theorem d_M_extendRow_75 : decode b_M_extendRow 75 = .ok (.land, 1) := by decide +kernel
theorem d_M_extendRow_76 : decode b_M_extendRow 76 = .ok (.lconst 0, 1) := by decide +kernel
theorem d_M_extendRow_77 : decode b_M_extendRow 77 = .ok (.lcmp, 1) := by decide +kernel
theorem d_M_extendRow_78 : decode b_M_extendRow 78 = .ok (.ifCond .eq 7, 3) := by decide +kernel
theorem d_M_extendRow_81 : decode b_M_extendRow 81 = .ok (.iconst 1, 1) := by decide +kernel
theorem d_M_extendRow_82 : decode b_M_extendRow 82 = .ok (.goto 4, 3) := by decide +kernel
theorem d_M_extendRow_85 : decode b_M_extendRow 85 = .ok (.iconst 0, 1) := by decide +kernel
theorem d_M_extendRow_86 : decode b_M_extendRow 86 = .ok (.istore 13, 2) := by decide +kernel
theorem d_M_extendRow_88 : decode b_M_extendRow 88 = .ok (.aload_n 0, 1) := by decide +kernel
theorem d_M_extendRow_89 : decode b_M_extendRow 89 = .ok (.getfield 7, 3) := by decide +kernel
theorem d_M_extendRow_92 : decode b_M_extendRow 92 = .ok (.iload_n 2, 1) := by decide +kernel
theorem d_M_extendRow_93 : decode b_M_extendRow 93 = .ok (.iload 12, 2) := by decide +kernel
theorem d_M_extendRow_95 : decode b_M_extendRow 95 = .ok (.ifCond .eq 25, 3) := by decide +kernel
theorem d_M_extendRow_98 : decode b_M_extendRow 98 = .ok (.iload 13, 2) := by decide +kernel
theorem d_M_extendRow_100 : decode b_M_extendRow 100 = .ok (.ifCond .eq 20, 3) := by decide +kernel
theorem d_M_extendRow_103 : decode b_M_extendRow 103 = .ok (.aload_n 0, 1) := by decide +kernel
theorem d_M_extendRow_104 : decode b_M_extendRow 104 = .ok (.getfield 7, 3) := by decide +kernel
theorem d_M_extendRow_107 : decode b_M_extendRow 107 = .ok (.bipush 20, 2) := by decide +kernel
theorem d_M_extendRow_109 : decode b_M_extendRow 109 = .ok (.laload, 1) := by decide +kernel
theorem d_M_extendRow_110 : decode b_M_extendRow 110 = .ok (.lload 4, 2) := by decide +kernel
theorem d_M_extendRow_112 : decode b_M_extendRow 112 = .ok (.ldc2_w 49, 3) := by decide +kernel
theorem d_M_extendRow_115 : decode b_M_extendRow 115 = .ok (.lxor, 1) := by decide +kernel
theorem d_M_extendRow_116 : decode b_M_extendRow 116 = .ok (.lor, 1) := by decide +kernel
theorem d_M_extendRow_117 : decode b_M_extendRow 117 = .ok (.goto 10, 3) := by decide +kernel
theorem d_M_extendRow_120 : decode b_M_extendRow 120 = .ok (.aload_n 0, 1) := by decide +kernel
theorem d_M_extendRow_121 : decode b_M_extendRow 121 = .ok (.getfield 7, 3) := by decide +kernel
theorem d_M_extendRow_124 : decode b_M_extendRow 124 = .ok (.bipush 20, 2) := by decide +kernel
theorem d_M_extendRow_126 : decode b_M_extendRow 126 = .ok (.laload, 1) := by decide +kernel
theorem d_M_extendRow_127 : decode b_M_extendRow 127 = .ok (.lastore, 1) := by decide +kernel
theorem d_M_extendRow_128 : decode b_M_extendRow 128 = .ok (.aload_n 0, 1) := by decide +kernel
theorem d_M_extendRow_129 : decode b_M_extendRow 129 = .ok (.getfield 13, 3) := by decide +kernel
theorem d_M_extendRow_132 : decode b_M_extendRow 132 = .ok (.iload_n 2, 1) := by decide +kernel
theorem d_M_extendRow_133 : decode b_M_extendRow 133 = .ok (.iload 12, 2) := by decide +kernel
theorem d_M_extendRow_135 : decode b_M_extendRow 135 = .ok (.ifCond .eq 13, 3) := by decide +kernel
theorem d_M_extendRow_138 : decode b_M_extendRow 138 = .ok (.aload_n 0, 1) := by decide +kernel
theorem d_M_extendRow_139 : decode b_M_extendRow 139 = .ok (.getfield 13, 3) := by decide +kernel
theorem d_M_extendRow_142 : decode b_M_extendRow 142 = .ok (.bipush 20, 2) := by decide +kernel
theorem d_M_extendRow_144 : decode b_M_extendRow 144 = .ok (.laload, 1) := by decide +kernel
theorem d_M_extendRow_145 : decode b_M_extendRow 145 = .ok (.goto 17, 3) := by decide +kernel
theorem d_M_extendRow_148 : decode b_M_extendRow 148 = .ok (.aload_n 0, 1) := by decide +kernel
theorem d_M_extendRow_149 : decode b_M_extendRow 149 = .ok (.getfield 13, 3) := by decide +kernel
theorem d_M_extendRow_152 : decode b_M_extendRow 152 = .ok (.bipush 20, 2) := by decide +kernel
theorem d_M_extendRow_154 : decode b_M_extendRow 154 = .ok (.laload, 1) := by decide +kernel
theorem d_M_extendRow_155 : decode b_M_extendRow 155 = .ok (.lload 4, 2) := by decide +kernel
theorem d_M_extendRow_157 : decode b_M_extendRow 157 = .ok (.ldc2_w 49, 3) := by decide +kernel
theorem d_M_extendRow_160 : decode b_M_extendRow 160 = .ok (.lxor, 1) := by decide +kernel
theorem d_M_extendRow_161 : decode b_M_extendRow 161 = .ok (.lor, 1) := by decide +kernel
theorem d_M_extendRow_162 : decode b_M_extendRow 162 = .ok (.lastore, 1) := by decide +kernel
theorem d_M_extendRow_163 : decode b_M_extendRow 163 = .ok (.aload_n 0, 1) := by decide +kernel
theorem d_M_extendRow_164 : decode b_M_extendRow 164 = .ok (.getfield 22, 3) := by decide +kernel
theorem d_M_extendRow_167 : decode b_M_extendRow 167 = .ok (.iload_n 2, 1) := by decide +kernel
theorem d_M_extendRow_168 : decode b_M_extendRow 168 = .ok (.lload 10, 2) := by decide +kernel
theorem d_M_extendRow_170 : decode b_M_extendRow 170 = .ok (.lload 6, 2) := by decide +kernel
theorem d_M_extendRow_172 : decode b_M_extendRow 172 = .ok (.lcmp, 1) := by decide +kernel
theorem d_M_extendRow_173 : decode b_M_extendRow 173 = .ok (.ifCond .ge 8, 3) := by decide +kernel
theorem d_M_extendRow_176 : decode b_M_extendRow 176 = .ok (.lload 8, 2) := by decide +kernel
theorem d_M_extendRow_178 : decode b_M_extendRow 178 = .ok (.goto 25, 3) := by decide +kernel
theorem d_M_extendRow_181 : decode b_M_extendRow 181 = .ok (.lload 8, 2) := by decide +kernel
theorem d_M_extendRow_183 : decode b_M_extendRow 183 = .ok (.lload 6, 2) := by decide +kernel
theorem d_M_extendRow_185 : decode b_M_extendRow 185 = .ok (.lcmp, 1) := by decide +kernel
theorem d_M_extendRow_186 : decode b_M_extendRow 186 = .ok (.ifCond .lt 13, 3) := by decide +kernel
theorem d_M_extendRow_189 : decode b_M_extendRow 189 = .ok (.lload 8, 2) := by decide +kernel
theorem d_M_extendRow_191 : decode b_M_extendRow 191 = .ok (.lload 4, 2) := by decide +kernel
theorem d_M_extendRow_193 : decode b_M_extendRow 193 = .ok (.lsub, 1) := by decide +kernel
theorem d_M_extendRow_194 : decode b_M_extendRow 194 = .ok (.lconst 1, 1) := by decide +kernel
theorem d_M_extendRow_195 : decode b_M_extendRow 195 = .ok (.lsub, 1) := by decide +kernel
theorem d_M_extendRow_196 : decode b_M_extendRow 196 = .ok (.goto 7, 3) := by decide +kernel
theorem d_M_extendRow_199 : decode b_M_extendRow 199 = .ok (.lconst 0, 1) := by decide +kernel
theorem d_M_extendRow_200 : decode b_M_extendRow 200 = .ok (.lload 6, 2) := by decide +kernel
theorem d_M_extendRow_202 : decode b_M_extendRow 202 = .ok (.lsub, 1) := by decide +kernel
theorem d_M_extendRow_203 : decode b_M_extendRow 203 = .ok (.lastore, 1) := by decide +kernel
theorem d_M_extendRow_204 : decode b_M_extendRow 204 = .ok (.aload_n 0, 1) := by decide +kernel
theorem d_M_extendRow_205 : decode b_M_extendRow 205 = .ok (.getfield 25, 3) := by decide +kernel
theorem d_M_extendRow_208 : decode b_M_extendRow 208 = .ok (.iload_n 2, 1) := by decide +kernel
theorem d_M_extendRow_209 : decode b_M_extendRow 209 = .ok (.lload 10, 2) := by decide +kernel
theorem d_M_extendRow_211 : decode b_M_extendRow 211 = .ok (.lload 6, 2) := by decide +kernel
theorem d_M_extendRow_213 : decode b_M_extendRow 213 = .ok (.lcmp, 1) := by decide +kernel
theorem d_M_extendRow_214 : decode b_M_extendRow 214 = .ok (.ifCond .ge 8, 3) := by decide +kernel
theorem d_M_extendRow_217 : decode b_M_extendRow 217 = .ok (.lload 10, 2) := by decide +kernel
theorem d_M_extendRow_219 : decode b_M_extendRow 219 = .ok (.goto 25, 3) := by decide +kernel
theorem d_M_extendRow_222 : decode b_M_extendRow 222 = .ok (.lload 8, 2) := by decide +kernel
theorem d_M_extendRow_224 : decode b_M_extendRow 224 = .ok (.lload 6, 2) := by decide +kernel
theorem d_M_extendRow_226 : decode b_M_extendRow 226 = .ok (.lcmp, 1) := by decide +kernel
theorem d_M_extendRow_227 : decode b_M_extendRow 227 = .ok (.ifCond .lt 13, 3) := by decide +kernel
theorem d_M_extendRow_230 : decode b_M_extendRow 230 = .ok (.lload 10, 2) := by decide +kernel
theorem d_M_extendRow_232 : decode b_M_extendRow 232 = .ok (.lload 4, 2) := by decide +kernel
theorem d_M_extendRow_234 : decode b_M_extendRow 234 = .ok (.lsub, 1) := by decide +kernel
theorem d_M_extendRow_235 : decode b_M_extendRow 235 = .ok (.lconst 1, 1) := by decide +kernel
theorem d_M_extendRow_236 : decode b_M_extendRow 236 = .ok (.lsub, 1) := by decide +kernel
theorem d_M_extendRow_237 : decode b_M_extendRow 237 = .ok (.goto 7, 3) := by decide +kernel
theorem d_M_extendRow_240 : decode b_M_extendRow 240 = .ok (.lload 6, 2) := by decide +kernel
theorem d_M_extendRow_242 : decode b_M_extendRow 242 = .ok (.lconst 1, 1) := by decide +kernel
theorem d_M_extendRow_243 : decode b_M_extendRow 243 = .ok (.lsub, 1) := by decide +kernel
theorem d_M_extendRow_244 : decode b_M_extendRow 244 = .ok (.lastore, 1) := by decide +kernel
theorem d_M_extendRow_245 : decode b_M_extendRow 245 = .ok (.aload_n 0, 1) := by decide +kernel
theorem d_M_extendRow_246 : decode b_M_extendRow 246 = .ok (.iload_n 2, 1) := by decide +kernel
theorem d_M_extendRow_247 : decode b_M_extendRow 247 = .ok (.invokevirtual 113, 3) := by decide +kernel
theorem d_M_extendRow_250 : decode b_M_extendRow 250 = .ok (.return_, 1) := by decide +kernel
def f_M_extendRow_247g (r0 : (Nat → VV)) (p1 : Nat) (p2 : Nat) (p3 : Int32) (g247 : (Nat → VV)) : (Nat → VV) := g247
def f_M_extendRow_244u (r0 : (Nat → VV)) (p1 : Nat) (p2 : Nat) (p3 : Int32) (r244n : (Nat → VV)) : (Nat → VV) := f_M_extendRow_247g r0 p1 p2 p3 (f_M_tighten r244n p2)
def f_M_extendRow_244 (r0 : (Nat → VV)) (p1 : Nat) (p2 : Nat) (p3 : Int32) (s244_0 : Int64) (r203n : (Nat → VV)) : (Nat → VV) := f_M_extendRow_244u r0 p1 p2 p3 (u6 r203n p2 s244_0)
def f_M_extendRow_203u (r0 : (Nat → VV)) (p1 : Nat) (p2 : Nat) (p3 : Int32) (v37 : Int64) (v28 : Int64) (v19 : Int64) (v12 : Int64) (r203n : (Nat → VV)) : (Nat → VV) := (if v37 < v19 then f_M_extendRow_244 r0 p1 p2 p3 v37 r203n else (if v28 < v19 then f_M_extendRow_244 r0 p1 p2 p3 (v19 - (1 : Int64)) r203n else f_M_extendRow_244 r0 p1 p2 p3 ((v37 - v12) - (1 : Int64)) r203n))
def f_M_extendRow_203 (r0 : (Nat → VV)) (p1 : Nat) (p2 : Nat) (p3 : Int32) (v37 : Int64) (v28 : Int64) (v19 : Int64) (v12 : Int64) (s203_0 : Int64) (r162n : (Nat → VV)) : (Nat → VV) := f_M_extendRow_203u r0 p1 p2 p3 v37 v28 v19 v12 (u5 r162n p2 s203_0)
def f_M_extendRow_162u (r0 : (Nat → VV)) (p1 : Nat) (p2 : Nat) (p3 : Int32) (v37 : Int64) (v28 : Int64) (v19 : Int64) (v12 : Int64) (r162n : (Nat → VV)) : (Nat → VV) := (if v37 < v19 then f_M_extendRow_203 r0 p1 p2 p3 v37 v28 v19 v12 v28 r162n else (if v28 < v19 then f_M_extendRow_203 r0 p1 p2 p3 v37 v28 v19 v12 ((0 : Int64) - v19) r162n else f_M_extendRow_203 r0 p1 p2 p3 v37 v28 v19 v12 ((v28 - v12) - (1 : Int64)) r162n))
def f_M_extendRow_162 (r0 : (Nat → VV)) (p1 : Nat) (p2 : Nat) (p3 : Int32) (v37 : Int64) (v28 : Int64) (v19 : Int64) (v12 : Int64) (s162_0 : Int64) (r127n : (Nat → VV)) : (Nat → VV) := f_M_extendRow_162u r0 p1 p2 p3 v37 v28 v19 v12 (u2 r127n p2 s162_0)
def f_M_extendRow_127u (r0 : (Nat → VV)) (p1 : Nat) (p2 : Nat) (p3 : Int32) (s64_0 : Bool) (v37 : Int64) (v28 : Int64) (v19 : Int64) (v12 : Int64) (r127n : (Nat → VV)) : (Nat → VV) := (if s64_0 = true then f_M_extendRow_162 r0 p1 p2 p3 v37 v28 v19 v12 ((r127n 20).2.1) r127n else f_M_extendRow_162 r0 p1 p2 p3 v37 v28 v19 v12 (((r127n 20).2.1) ||| (v12 ^^^ (-1 : Int64))) r127n)
def f_M_extendRow_127 (r0 : (Nat → VV)) (p1 : Nat) (p2 : Nat) (p3 : Int32) (s64_0 : Bool) (v37 : Int64) (v28 : Int64) (v19 : Int64) (v12 : Int64) (s127_0 : Int64) (g41 : (Nat → VV)) : (Nat → VV) := f_M_extendRow_127u r0 p1 p2 p3 s64_0 v37 v28 v19 v12 (u1 g41 p2 s127_0)
def f_M_extendRow_120 (r0 : (Nat → VV)) (p1 : Nat) (p2 : Nat) (p3 : Int32) (s64_0 : Bool) (v37 : Int64) (v28 : Int64) (v19 : Int64) (v12 : Int64) (g41 : (Nat → VV)) : (Nat → VV) := f_M_extendRow_127 r0 p1 p2 p3 s64_0 v37 v28 v19 v12 ((g41 20).1) g41
def f_M_extendRow_86 (r0 : (Nat → VV)) (p1 : Nat) (p2 : Nat) (p3 : Int32) (s64_0 : Bool) (v37 : Int64) (v28 : Int64) (v19 : Int64) (v12 : Int64) (s86_0 : Bool) (g41 : (Nat → VV)) : (Nat → VV) := (if s64_0 = true then (if s86_0 = true then f_M_extendRow_127 r0 p1 p2 p3 s64_0 v37 v28 v19 v12 (((g41 20).1) ||| (v12 ^^^ (-1 : Int64))) g41 else f_M_extendRow_120 r0 p1 p2 p3 s64_0 v37 v28 v19 v12 g41) else f_M_extendRow_120 r0 p1 p2 p3 s64_0 v37 v28 v19 v12 g41)
def f_M_extendRow_64 (r0 : (Nat → VV)) (p1 : Nat) (p2 : Nat) (p3 : Int32) (v37 : Int64) (v28 : Int64) (v19 : Int64) (v12 : Int64) (s64_0 : Bool) (g41 : (Nat → VV)) : (Nat → VV) := (if (((g41 20).1) &&& v19) = 0 then f_M_extendRow_86 r0 p1 p2 p3 s64_0 v37 v28 v19 v12 false g41 else f_M_extendRow_86 r0 p1 p2 p3 s64_0 v37 v28 v19 v12 true g41)
def f_M_extendRow_41g (r0 : (Nat → VV)) (p1 : Nat) (p2 : Nat) (p3 : Int32) (v37 : Int64) (v28 : Int64) (v19 : Int64) (v12 : Int64) (g41 : (Nat → VV)) : (Nat → VV) := (if (((g41 20).2.1) &&& v19) = 0 then f_M_extendRow_64 r0 p1 p2 p3 v37 v28 v19 v12 true g41 else f_M_extendRow_64 r0 p1 p2 p3 v37 v28 v19 v12 false g41)
def f_M_extendRow_37v (r0 : (Nat → VV)) (p1 : Nat) (p2 : Nat) (p3 : Int32) (v37 : Int64) (v28 : Int64) (v19 : Int64) (v12 : Int64) (g5 : (Nat → VV)) : (Nat → VV) := f_M_extendRow_41g r0 p1 p2 p3 v37 v28 v19 v12 (f_M_nothingSaid g5 p2)
def f_M_extendRow_28v (r0 : (Nat → VV)) (p1 : Nat) (p2 : Nat) (p3 : Int32) (v28 : Int64) (v19 : Int64) (v12 : Int64) (g5 : (Nat → VV)) : (Nat → VV) := f_M_extendRow_37v r0 p1 p2 p3 ((g5 20).2.2.2.1) v28 v19 v12 g5
def f_M_extendRow_19v (r0 : (Nat → VV)) (p1 : Nat) (p2 : Nat) (p3 : Int32) (v19 : Int64) (v12 : Int64) (g5 : (Nat → VV)) : (Nat → VV) := f_M_extendRow_28v r0 p1 p2 p3 ((g5 20).2.2.1) v19 v12 g5
def f_M_extendRow_12v (r0 : (Nat → VV)) (p1 : Nat) (p2 : Nat) (p3 : Int32) (v12 : Int64) (g5 : (Nat → VV)) : (Nat → VV) := f_M_extendRow_19v r0 p1 p2 p3 ((1 : Int64) <<< ((p3 - (1 : Int32)).toInt64 &&& 63)) v12 g5
def f_M_extendRow_5g (r0 : (Nat → VV)) (p1 : Nat) (p2 : Nat) (p3 : Int32) (g5 : (Nat → VV)) : (Nat → VV) := f_M_extendRow_12v r0 p1 p2 p3 (f_M_mask p3) g5
def f_M_extendRow (r0 : (Nat → VV)) (p1 : Nat) (p2 : Nat) (p3 : Int32) : (Nat → VV) := f_M_extendRow_5g r0 p1 p2 p3 (f_M_cutRow r0 p1 20 p3)
set_option maxRecDepth 100000 in
set_option maxHeartbeats 4000000 in
theorem c_M_extendRow (l : Launch) (dC : Nat → ClassId) (dI : Nat → Nat → Nat) (ad : Nat → Nat) (cJ cZ : ClassId) (sz : Nat) (c0 : Int32) (r0 : (Nat → VV)) (w0 : (Nat → Int64)) (s0 : Int32) (p1 : Nat) (p2 : Nat) (p3 : Int32) (b1 : p1 < 24) (b2 : p2 < 24) : Met l y_M_extendRow w_M_extendRow ({ frames := 7, cells := 0, slots := 0, locals := 208 } : Room) (va_Pc [.ref (ad 0), .int (nI p1), .int (nI p2), .int (p3)] (nP (dC, dI) (mT cJ cZ) (mW ad cJ cZ c0 r0 w0 s0) sz)) (va_Qv (fun _ : Unit => True) (mB (dC, dI) (va_A (mW ad cJ cZ c0 r0 w0 s0) sz) (mW ad cJ cZ c0 (f_M_extendRow r0 p1 p2 p3) w0 s0)) (va_A (mW ad cJ cZ c0 r0 w0 s0) sz)) 0 0 (va_A (mW ad cJ cZ c0 r0 w0 s0) sz) := by
  refine Met.ofW (cc := b_M_extendRow) (maxL := 14) (ret := none) (by decide) rfl ?_
  intro p e s m args below meth c s₁ B hml hv
  obtain ⟨rfl, hsz, hP, hK, hD0⟩ := hv
  have hx := B.exec
  have hb := B.bytes
  have hr := B.returns
  have hts := atoms_spec (ws := w_M_extendRow) B.pre
  have hG : ∀ w ∈ gM, w.before _ s = true := fun w h => hts w (List.mem_cons_of_mem _ h)
  have hown : s.vm.findClass R_M = some m.cls := findClass_of_methodNamed B.named
  have hlocks := B.notSynchronized
  subst hsz
  have hD := hD0.self (sz := s.heap.size)
  generalize hAe : va_A (mW ad cJ cZ c0 r0 w0 s0) s.heap.size = A at hD ⊢
  have hA : ∀ q : Nat, s.heap.size ≤ q → A q := fun q h => by rw [← hAe]; exact Or.inr h
  have hS : va_S A s.heap s.heap [] := va_S.rf
  have hl := lv_entry ([.ref (ad 0), .int (nI p1), .int (nI p2), .int (p3)]) (n := 14) (Nat.le_of_ble_eq_true rfl)
  rw [lg_entry_eq]
  generalize (lg_sl ([.ref (ad 0), .int (nI p1), .int (nI p2), .int (p3)]) ++ List.replicate (14 - (lg_sl ([.ref (ad 0), .int (nI p1), .int (nI p2), .int (p3)])).length) Slot.unset).toArray = ls at hl ⊢
  have hl : lv_has ls 14 [(0, .ref (ad 0)), (1, .int (nI p1)), (2, .int (nI p2)), (3, .int (p3))] := hl
  have K247g : ∀ (g247 : (Nat → VV)) (hj : f_M_extendRow r0 p1 p2 p3 = f_M_extendRow_247g r0 p1 p2 p3 g247) (H : Heap) (locs : List Loc) (hP : va_P (dC, dI) classes (mW ad cJ cZ c0 g247 w0 s0) H) (hD : va_D A (mW ad cJ cZ c0 g247 w0 s0)) (hS : va_S A s.heap H locs) (ls : Array Slot) (hl : lv_has ls 14 []), W p l e (headSpec w_M_extendRow ({ frames := 7, cells := 0, slots := 0, locals := 208 } : Room)).room s m ([.ref (ad 0), .int (nI p1), .int (nI p2), .int (p3)] : List Value).toArray below meth c H locs 0 0 (MQ below (va_Qv (fun _ : Unit => True) (mB (dC, dI) A (mW ad cJ cZ c0 (f_M_extendRow r0 p1 p2 p3) w0 s0)) A) ([.ref (ad 0), .int (nI p1), .int (nI p2), .int (p3)] : List Value).toArray s 0 0 A) (F0 m 250 ls []) := by
    intro g247 hj H locs hP hD hS ls hl
    have fe : f_M_extendRow r0 p1 p2 p3 = g247 := hj.trans rfl
    exact W.vret hx hb hr (fun t ht hW => ⟨⟨(), rfl, trivial, by rw [ht, fe]; exact hP, by rw [fe]; exact hD⟩, hS.F ht⟩) hS.2.2 d_M_extendRow_250
  have K244u : ∀ (r244n : (Nat → VV)) (hj : f_M_extendRow r0 p1 p2 p3 = f_M_extendRow_244u r0 p1 p2 p3 r244n) (H : Heap) (locs : List Loc) (hP : va_P (dC, dI) classes (mW ad cJ cZ c0 r244n w0 s0) H) (hD : va_D A (mW ad cJ cZ c0 r244n w0 s0)) (hS : va_S A s.heap H locs) (ls : Array Slot) (hl : lv_has ls 14 [(0, .ref (ad 0)), (2, .int (nI p2))]), W p l e (headSpec w_M_extendRow ({ frames := 7, cells := 0, slots := 0, locals := 208 } : Room)).room s m ([.ref (ad 0), .int (nI p1), .int (nI p2), .int (p3)] : List Value).toArray below meth c H locs 0 0 (MQ below (va_Qv (fun _ : Unit => True) (mB (dC, dI) A (mW ad cJ cZ c0 (f_M_extendRow r0 p1 p2 p3) w0 s0)) A) ([.ref (ad 0), .int (nI p1), .int (nI p2), .int (p3)] : List Value).toArray s 0 0 A) (F0 m 245 ls []) := by
    intro r244n hj H locs hP hD hS ls hl
    refine lv_aload_n hx hb d_M_extendRow_245 rfl (lv_at hl 0 rfl) ?_
    refine lv_iload_n hx hb d_M_extendRow_246 rfl (lv_at hl 1 rfl) ?_
    refine mm_v (F := f_M_tighten r244n p2) (w1 := fun g247 => (mW ad cJ cZ c0 g247 w0 s0)) (va_runV (As := [.int (nI p2)]) (rest := []) ⟨hx, hb, hml, hown, hts⟩ (c_M_tighten l dC dI ad cJ cZ H.size c0 r244n w0 s0 p2 b2) (cwV 1 hts (gxV gx69 gx70 gx274 gx0 gx71) rfl rfl rfl (by decide +kernel) ⟨(Nat.le_of_ble_eq_true rfl), (Nat.le_of_ble_eq_true rfl)⟩) ⟨blp, va_recv hK hP (ci := 2) (q0 := 0) rfl rfl, fun U hU hW => ⟨rfl, by rw [hU], by rw [hU]; exact hP, va_K.moved hW.alike hK, hD.weaken (fun _ _ _ _ => trivial)⟩⟩ rfl rfl hl.1 rfl (lv_room (Nat.le_of_ble_eq_true rfl)) d_M_extendRow_247 ⟨Nat.zero_le _, Nat.zero_le _⟩) hD hS hA (fun g247 eg247 H locs hP hD hS => ?_)
    refine K247g g247 (Eq.trans (hj.trans rfl) (congrArg (fun g247 => f_M_extendRow_247g r0 p1 p2 p3 g247) eg247)) H locs ?_ ?_ hS ls (lv_sub hl [] rfl)
    · with_reducible exact hP
    · with_reducible exact hD
  have K244 : ∀ (s244_0 : Int64) (r203n : (Nat → VV)) (hj : f_M_extendRow r0 p1 p2 p3 = f_M_extendRow_244 r0 p1 p2 p3 s244_0 r203n) (H : Heap) (locs : List Loc) (hP : va_P (dC, dI) classes (mW ad cJ cZ c0 r203n w0 s0) H) (hD : va_D A (mW ad cJ cZ c0 r203n w0 s0)) (hS : va_S A s.heap H locs) (ls : Array Slot) (hl : lv_has ls 14 [(0, .ref (ad 0)), (2, .int (nI p2))]), W p l e (headSpec w_M_extendRow ({ frames := 7, cells := 0, slots := 0, locals := 208 } : Room)).room s m ([.ref (ad 0), .int (nI p1), .int (nI p2), .int (p3)] : List Value).toArray below meth c H locs 0 0 (MQ below (va_Qv (fun _ : Unit => True) (mB (dC, dI) A (mW ad cJ cZ c0 (f_M_extendRow r0 p1 p2 p3) w0 s0)) A) ([.ref (ad 0), .int (nI p1), .int (nI p2), .int (p3)] : List Value).toArray s 0 0 A) (F0 m 244 ls [.long (s244_0), .int (nI p2), .ref (ad 6)]) := by
    intro s244_0 r203n hj H locs hP hD hS ls hl
    refine ms_6 (P := p2) (x := s244_0) hx hb hK hP hD hS rfl b2 d_M_extendRow_244 (fun H locs hP hD hS => ?_)
    obtain ⟨r244n, er244n⟩ : ∃ z, z = u6 r203n p2 s244_0 := ⟨_, rfl⟩
    rw [← er244n] at hP hD
    refine K244u r244n (Eq.trans (hj.trans rfl) (congrArg (fun r244n => f_M_extendRow_244u r0 p1 p2 p3 r244n) er244n.symm)) H locs ?_ ?_ hS ls (lv_sub hl [0, 1] rfl)
    · with_reducible exact hP
    · with_reducible exact hD
  have K203u : ∀ (v37 : Int64) (v28 : Int64) (v19 : Int64) (v12 : Int64) (r203n : (Nat → VV)) (hj : f_M_extendRow r0 p1 p2 p3 = f_M_extendRow_203u r0 p1 p2 p3 v37 v28 v19 v12 r203n) (H : Heap) (locs : List Loc) (hP : va_P (dC, dI) classes (mW ad cJ cZ c0 r203n w0 s0) H) (hD : va_D A (mW ad cJ cZ c0 r203n w0 s0)) (hS : va_S A s.heap H locs) (ls : Array Slot) (hl : lv_has ls 14 [(10, .long (v37)), (8, .long (v28)), (6, .long (v19)), (4, .long (v12)), (0, .ref (ad 0)), (2, .int (nI p2))]), W p l e (headSpec w_M_extendRow ({ frames := 7, cells := 0, slots := 0, locals := 208 } : Room)).room s m ([.ref (ad 0), .int (nI p1), .int (nI p2), .int (p3)] : List Value).toArray below meth c H locs 0 0 (MQ below (va_Qv (fun _ : Unit => True) (mB (dC, dI) A (mW ad cJ cZ c0 (f_M_extendRow r0 p1 p2 p3) w0 s0)) A) ([.ref (ad 0), .int (nI p1), .int (nI p2), .int (p3)] : List Value).toArray s 0 0 A) (F0 m 204 ls []) := by
    intro v37 v28 v19 v12 r203n hj H locs hP hD hS ls hl
    refine lv_aload_n hx hb d_M_extendRow_204 rfl (lv_at hl 4 rfl) ?_
    refine va_get (D := (dC, dI)) (ci := 2) (v := .ref (ad 6)) (C := R_M) (T := F_M) (N := 10) hx hb hts (fun w h => List.mem_cons_of_mem _ (uw_M w h)) hown hK hP 0 rfl rfl 6 (by decide) (hG (.fieldLink R_M 25 "ValueSieveModel" "greatest" "[J") gx15) (fun _ h9 => h9) rfl d_M_extendRow_205 ?_
    refine lv_iload_n hx hb d_M_extendRow_208 rfl (lv_at hl 5 rfl) ?_
    refine lv_lload hx hb d_M_extendRow_209 (lv_at hl 0 rfl) ?_
    refine lv_lload hx hb d_M_extendRow_211 (lv_at hl 2 rfl) ?_
    refine wl_ge (tgt := 222) hx hb d_M_extendRow_213 d_M_extendRow_214 (by decide) (fun e1_222 => ?_) (fun e1_222 => ?_)
    · refine lv_lload hx hb d_M_extendRow_222 (lv_at hl 1 rfl) ?_
      refine lv_lload hx hb d_M_extendRow_224 (lv_at hl 2 rfl) ?_
      refine wl_lt (tgt := 240) hx hb d_M_extendRow_226 d_M_extendRow_227 (by decide) (fun e2_240 => ?_) (fun e2_240 => ?_)
      · refine lv_lload hx hb d_M_extendRow_240 (lv_at hl 2 rfl) ?_
        refine lv_lconst (v := 1) hx hb d_M_extendRow_242 (by decide) ?_
        refine lv_lsub hx hb d_M_extendRow_243 ?_
        refine K244 (v19 - (1 : Int64)) r203n (hj.trans (by unfold f_M_extendRow_203u; first | with_reducible exact (if_neg e1_222).trans (if_pos e2_240) | exact (if_neg e1_222).trans (if_pos e2_240))) H locs ?_ ?_ hS ls (lv_sub hl [4, 5] rfl)
        · with_reducible exact hP
        · with_reducible exact hD
      · refine lv_lload hx hb d_M_extendRow_230 (lv_at hl 0 rfl) ?_
        refine lv_lload hx hb d_M_extendRow_232 (lv_at hl 3 rfl) ?_
        refine lv_lsub hx hb d_M_extendRow_234 ?_
        refine lv_lconst (v := 1) hx hb d_M_extendRow_235 (by decide) ?_
        refine lv_lsub hx hb d_M_extendRow_236 ?_
        refine lv_goto (tgt := 244) hx hb d_M_extendRow_237 (by decide) ?_
        refine K244 ((v37 - v12) - (1 : Int64)) r203n (hj.trans (by unfold f_M_extendRow_203u; first | with_reducible exact (if_neg e1_222).trans (if_neg e2_240) | exact (if_neg e1_222).trans (if_neg e2_240))) H locs ?_ ?_ hS ls (lv_sub hl [4, 5] rfl)
        · with_reducible exact hP
        · with_reducible exact hD
    · refine lv_lload hx hb d_M_extendRow_217 (lv_at hl 0 rfl) ?_
      refine lv_goto (tgt := 244) hx hb d_M_extendRow_219 (by decide) ?_
      refine K244 v37 r203n (hj.trans (by unfold f_M_extendRow_203u; first | with_reducible exact if_pos e1_222 | exact if_pos e1_222)) H locs ?_ ?_ hS ls (lv_sub hl [4, 5] rfl)
      · with_reducible exact hP
      · with_reducible exact hD
  have K203 : ∀ (v37 : Int64) (v28 : Int64) (v19 : Int64) (v12 : Int64) (s203_0 : Int64) (r162n : (Nat → VV)) (hj : f_M_extendRow r0 p1 p2 p3 = f_M_extendRow_203 r0 p1 p2 p3 v37 v28 v19 v12 s203_0 r162n) (H : Heap) (locs : List Loc) (hP : va_P (dC, dI) classes (mW ad cJ cZ c0 r162n w0 s0) H) (hD : va_D A (mW ad cJ cZ c0 r162n w0 s0)) (hS : va_S A s.heap H locs) (ls : Array Slot) (hl : lv_has ls 14 [(10, .long (v37)), (8, .long (v28)), (6, .long (v19)), (4, .long (v12)), (0, .ref (ad 0)), (2, .int (nI p2))]), W p l e (headSpec w_M_extendRow ({ frames := 7, cells := 0, slots := 0, locals := 208 } : Room)).room s m ([.ref (ad 0), .int (nI p1), .int (nI p2), .int (p3)] : List Value).toArray below meth c H locs 0 0 (MQ below (va_Qv (fun _ : Unit => True) (mB (dC, dI) A (mW ad cJ cZ c0 (f_M_extendRow r0 p1 p2 p3) w0 s0)) A) ([.ref (ad 0), .int (nI p1), .int (nI p2), .int (p3)] : List Value).toArray s 0 0 A) (F0 m 203 ls [.long (s203_0), .int (nI p2), .ref (ad 5)]) := by
    intro v37 v28 v19 v12 s203_0 r162n hj H locs hP hD hS ls hl
    refine ms_5 (P := p2) (x := s203_0) hx hb hK hP hD hS rfl b2 d_M_extendRow_203 (fun H locs hP hD hS => ?_)
    obtain ⟨r203n, er203n⟩ : ∃ z, z = u5 r162n p2 s203_0 := ⟨_, rfl⟩
    rw [← er203n] at hP hD
    refine K203u v37 v28 v19 v12 r203n (Eq.trans (hj.trans rfl) (congrArg (fun r203n => f_M_extendRow_203u r0 p1 p2 p3 v37 v28 v19 v12 r203n) er203n.symm)) H locs ?_ ?_ hS ls (lv_sub hl [0, 1, 2, 3, 4, 5] rfl)
    · with_reducible exact hP
    · with_reducible exact hD
  have K162u : ∀ (v37 : Int64) (v28 : Int64) (v19 : Int64) (v12 : Int64) (r162n : (Nat → VV)) (hj : f_M_extendRow r0 p1 p2 p3 = f_M_extendRow_162u r0 p1 p2 p3 v37 v28 v19 v12 r162n) (H : Heap) (locs : List Loc) (hP : va_P (dC, dI) classes (mW ad cJ cZ c0 r162n w0 s0) H) (hD : va_D A (mW ad cJ cZ c0 r162n w0 s0)) (hS : va_S A s.heap H locs) (ls : Array Slot) (hl : lv_has ls 14 [(10, .long (v37)), (8, .long (v28)), (6, .long (v19)), (4, .long (v12)), (0, .ref (ad 0)), (2, .int (nI p2))]), W p l e (headSpec w_M_extendRow ({ frames := 7, cells := 0, slots := 0, locals := 208 } : Room)).room s m ([.ref (ad 0), .int (nI p1), .int (nI p2), .int (p3)] : List Value).toArray below meth c H locs 0 0 (MQ below (va_Qv (fun _ : Unit => True) (mB (dC, dI) A (mW ad cJ cZ c0 (f_M_extendRow r0 p1 p2 p3) w0 s0)) A) ([.ref (ad 0), .int (nI p1), .int (nI p2), .int (p3)] : List Value).toArray s 0 0 A) (F0 m 163 ls []) := by
    intro v37 v28 v19 v12 r162n hj H locs hP hD hS ls hl
    refine lv_aload_n hx hb d_M_extendRow_163 rfl (lv_at hl 4 rfl) ?_
    refine va_get (D := (dC, dI)) (ci := 2) (v := .ref (ad 5)) (C := R_M) (T := F_M) (N := 10) hx hb hts (fun w h => List.mem_cons_of_mem _ (uw_M w h)) hown hK hP 0 rfl rfl 5 (by decide) (hG (.fieldLink R_M 22 "ValueSieveModel" "least" "[J") gx14) (fun _ h9 => h9) rfl d_M_extendRow_164 ?_
    refine lv_iload_n hx hb d_M_extendRow_167 rfl (lv_at hl 5 rfl) ?_
    refine lv_lload hx hb d_M_extendRow_168 (lv_at hl 0 rfl) ?_
    refine lv_lload hx hb d_M_extendRow_170 (lv_at hl 2 rfl) ?_
    refine wl_ge (tgt := 181) hx hb d_M_extendRow_172 d_M_extendRow_173 (by decide) (fun e1_181 => ?_) (fun e1_181 => ?_)
    · refine lv_lload hx hb d_M_extendRow_181 (lv_at hl 1 rfl) ?_
      refine lv_lload hx hb d_M_extendRow_183 (lv_at hl 2 rfl) ?_
      refine wl_lt (tgt := 199) hx hb d_M_extendRow_185 d_M_extendRow_186 (by decide) (fun e2_199 => ?_) (fun e2_199 => ?_)
      · refine lv_lconst (v := 0) hx hb d_M_extendRow_199 (by decide) ?_
        refine lv_lload hx hb d_M_extendRow_200 (lv_at hl 2 rfl) ?_
        refine lv_lsub hx hb d_M_extendRow_202 ?_
        refine K203 v37 v28 v19 v12 ((0 : Int64) - v19) r162n (hj.trans (by unfold f_M_extendRow_162u; first | with_reducible exact (if_neg e1_181).trans (if_pos e2_199) | exact (if_neg e1_181).trans (if_pos e2_199))) H locs ?_ ?_ hS ls (lv_sub hl [0, 1, 2, 3, 4, 5] rfl)
        · with_reducible exact hP
        · with_reducible exact hD
      · refine lv_lload hx hb d_M_extendRow_189 (lv_at hl 1 rfl) ?_
        refine lv_lload hx hb d_M_extendRow_191 (lv_at hl 3 rfl) ?_
        refine lv_lsub hx hb d_M_extendRow_193 ?_
        refine lv_lconst (v := 1) hx hb d_M_extendRow_194 (by decide) ?_
        refine lv_lsub hx hb d_M_extendRow_195 ?_
        refine lv_goto (tgt := 203) hx hb d_M_extendRow_196 (by decide) ?_
        refine K203 v37 v28 v19 v12 ((v28 - v12) - (1 : Int64)) r162n (hj.trans (by unfold f_M_extendRow_162u; first | with_reducible exact (if_neg e1_181).trans (if_neg e2_199) | exact (if_neg e1_181).trans (if_neg e2_199))) H locs ?_ ?_ hS ls (lv_sub hl [0, 1, 2, 3, 4, 5] rfl)
        · with_reducible exact hP
        · with_reducible exact hD
    · refine lv_lload hx hb d_M_extendRow_176 (lv_at hl 1 rfl) ?_
      refine lv_goto (tgt := 203) hx hb d_M_extendRow_178 (by decide) ?_
      refine K203 v37 v28 v19 v12 v28 r162n (hj.trans (by unfold f_M_extendRow_162u; first | with_reducible exact if_pos e1_181 | exact if_pos e1_181)) H locs ?_ ?_ hS ls (lv_sub hl [0, 1, 2, 3, 4, 5] rfl)
      · with_reducible exact hP
      · with_reducible exact hD
  have K162 : ∀ (v37 : Int64) (v28 : Int64) (v19 : Int64) (v12 : Int64) (s162_0 : Int64) (r127n : (Nat → VV)) (hj : f_M_extendRow r0 p1 p2 p3 = f_M_extendRow_162 r0 p1 p2 p3 v37 v28 v19 v12 s162_0 r127n) (H : Heap) (locs : List Loc) (hP : va_P (dC, dI) classes (mW ad cJ cZ c0 r127n w0 s0) H) (hD : va_D A (mW ad cJ cZ c0 r127n w0 s0)) (hS : va_S A s.heap H locs) (ls : Array Slot) (hl : lv_has ls 14 [(10, .long (v37)), (8, .long (v28)), (6, .long (v19)), (4, .long (v12)), (0, .ref (ad 0)), (2, .int (nI p2))]), W p l e (headSpec w_M_extendRow ({ frames := 7, cells := 0, slots := 0, locals := 208 } : Room)).room s m ([.ref (ad 0), .int (nI p1), .int (nI p2), .int (p3)] : List Value).toArray below meth c H locs 0 0 (MQ below (va_Qv (fun _ : Unit => True) (mB (dC, dI) A (mW ad cJ cZ c0 (f_M_extendRow r0 p1 p2 p3) w0 s0)) A) ([.ref (ad 0), .int (nI p1), .int (nI p2), .int (p3)] : List Value).toArray s 0 0 A) (F0 m 162 ls [.long (s162_0), .int (nI p2), .ref (ad 2)]) := by
    intro v37 v28 v19 v12 s162_0 r127n hj H locs hP hD hS ls hl
    refine ms_2 (P := p2) (x := s162_0) hx hb hK hP hD hS rfl b2 d_M_extendRow_162 (fun H locs hP hD hS => ?_)
    obtain ⟨r162n, er162n⟩ : ∃ z, z = u2 r127n p2 s162_0 := ⟨_, rfl⟩
    rw [← er162n] at hP hD
    refine K162u v37 v28 v19 v12 r162n (Eq.trans (hj.trans rfl) (congrArg (fun r162n => f_M_extendRow_162u r0 p1 p2 p3 v37 v28 v19 v12 r162n) er162n.symm)) H locs ?_ ?_ hS ls (lv_sub hl [0, 1, 2, 3, 4, 5] rfl)
    · with_reducible exact hP
    · with_reducible exact hD
  have K127u : ∀ (s64_0 : Bool) (v37 : Int64) (v28 : Int64) (v19 : Int64) (v12 : Int64) (r127n : (Nat → VV)) (hj : f_M_extendRow r0 p1 p2 p3 = f_M_extendRow_127u r0 p1 p2 p3 s64_0 v37 v28 v19 v12 r127n) (H : Heap) (locs : List Loc) (hP : va_P (dC, dI) classes (mW ad cJ cZ c0 r127n w0 s0) H) (hD : va_D A (mW ad cJ cZ c0 r127n w0 s0)) (hS : va_S A s.heap H locs) (ls : Array Slot) (hl : lv_has ls 14 [(12, .int (bI s64_0)), (10, .long (v37)), (8, .long (v28)), (6, .long (v19)), (4, .long (v12)), (0, .ref (ad 0)), (2, .int (nI p2))]), W p l e (headSpec w_M_extendRow ({ frames := 7, cells := 0, slots := 0, locals := 208 } : Room)).room s m ([.ref (ad 0), .int (nI p1), .int (nI p2), .int (p3)] : List Value).toArray below meth c H locs 0 0 (MQ below (va_Qv (fun _ : Unit => True) (mB (dC, dI) A (mW ad cJ cZ c0 (f_M_extendRow r0 p1 p2 p3) w0 s0)) A) ([.ref (ad 0), .int (nI p1), .int (nI p2), .int (p3)] : List Value).toArray s 0 0 A) (F0 m 128 ls []) := by
    intro s64_0 v37 v28 v19 v12 r127n hj H locs hP hD hS ls hl
    refine lv_aload_n hx hb d_M_extendRow_128 rfl (lv_at hl 5 rfl) ?_
    refine va_get (D := (dC, dI)) (ci := 2) (v := .ref (ad 2)) (C := R_M) (T := F_M) (N := 10) hx hb hts (fun w h => List.mem_cons_of_mem _ (uw_M w h)) hown hK hP 0 rfl rfl 2 (by decide) (hG (.fieldLink R_M 13 "ValueSieveModel" "open" "[J") gx11) (fun _ h9 => h9) rfl d_M_extendRow_129 ?_
    refine lv_iload_n hx hb d_M_extendRow_132 rfl (lv_at hl 6 rfl) ?_
    refine lv_iload hx hb d_M_extendRow_133 (lv_at hl 0 rfl) ?_
    refine wz_eq (tgt := 148) hx hb d_M_extendRow_135 (by decide) (fun e1_148 => ?_) (fun e1_148 => ?_)
    · refine lv_aload_n hx hb d_M_extendRow_148 rfl (lv_at hl 5 rfl) ?_
      refine va_get (D := (dC, dI)) (ci := 2) (v := .ref (ad 2)) (C := R_M) (T := F_M) (N := 10) hx hb hts (fun w h => List.mem_cons_of_mem _ (uw_M w h)) hown hK hP 0 rfl rfl 2 (by decide) (hG (.fieldLink R_M 13 "ValueSieveModel" "open" "[J") gx11) (fun _ h9 => h9) rfl d_M_extendRow_149 ?_
      refine lv_bipush (v := 20) hx hb d_M_extendRow_152 (by decide) ?_
      refine ml_2 (P := 20) hx hb hK hP rfl (by decide) d_M_extendRow_154 ?_
      refine lv_lload hx hb d_M_extendRow_155 (lv_at hl 4 rfl) ?_
      refine lv_ldc2 (v := -1) hx hb hown (hG (.constantLong R_M 49 (-1)) gx42) d_M_extendRow_157 ?_
      refine lv_lxor hx hb d_M_extendRow_160 ?_
      refine lv_lor hx hb d_M_extendRow_161 ?_
      refine K162 v37 v28 v19 v12 (((r127n 20).2.1) ||| (v12 ^^^ (-1 : Int64))) r127n (hj.trans (by unfold f_M_extendRow_127u; first | with_reducible exact if_neg e1_148 | exact if_neg e1_148)) H locs ?_ ?_ hS ls (lv_sub hl [1, 2, 3, 4, 5, 6] rfl)
      · with_reducible exact hP
      · with_reducible exact hD
    · refine lv_aload_n hx hb d_M_extendRow_138 rfl (lv_at hl 5 rfl) ?_
      refine va_get (D := (dC, dI)) (ci := 2) (v := .ref (ad 2)) (C := R_M) (T := F_M) (N := 10) hx hb hts (fun w h => List.mem_cons_of_mem _ (uw_M w h)) hown hK hP 0 rfl rfl 2 (by decide) (hG (.fieldLink R_M 13 "ValueSieveModel" "open" "[J") gx11) (fun _ h9 => h9) rfl d_M_extendRow_139 ?_
      refine lv_bipush (v := 20) hx hb d_M_extendRow_142 (by decide) ?_
      refine ml_2 (P := 20) hx hb hK hP rfl (by decide) d_M_extendRow_144 ?_
      refine lv_goto (tgt := 162) hx hb d_M_extendRow_145 (by decide) ?_
      refine K162 v37 v28 v19 v12 ((r127n 20).2.1) r127n (hj.trans (by unfold f_M_extendRow_127u; first | with_reducible exact if_pos e1_148 | exact if_pos e1_148)) H locs ?_ ?_ hS ls (lv_sub hl [1, 2, 3, 4, 5, 6] rfl)
      · with_reducible exact hP
      · with_reducible exact hD
  have K127 : ∀ (s64_0 : Bool) (v37 : Int64) (v28 : Int64) (v19 : Int64) (v12 : Int64) (s127_0 : Int64) (g41 : (Nat → VV)) (hj : f_M_extendRow r0 p1 p2 p3 = f_M_extendRow_127 r0 p1 p2 p3 s64_0 v37 v28 v19 v12 s127_0 g41) (H : Heap) (locs : List Loc) (hP : va_P (dC, dI) classes (mW ad cJ cZ c0 g41 w0 s0) H) (hD : va_D A (mW ad cJ cZ c0 g41 w0 s0)) (hS : va_S A s.heap H locs) (ls : Array Slot) (hl : lv_has ls 14 [(12, .int (bI s64_0)), (10, .long (v37)), (8, .long (v28)), (6, .long (v19)), (4, .long (v12)), (0, .ref (ad 0)), (2, .int (nI p2))]), W p l e (headSpec w_M_extendRow ({ frames := 7, cells := 0, slots := 0, locals := 208 } : Room)).room s m ([.ref (ad 0), .int (nI p1), .int (nI p2), .int (p3)] : List Value).toArray below meth c H locs 0 0 (MQ below (va_Qv (fun _ : Unit => True) (mB (dC, dI) A (mW ad cJ cZ c0 (f_M_extendRow r0 p1 p2 p3) w0 s0)) A) ([.ref (ad 0), .int (nI p1), .int (nI p2), .int (p3)] : List Value).toArray s 0 0 A) (F0 m 127 ls [.long (s127_0), .int (nI p2), .ref (ad 1)]) := by
    intro s64_0 v37 v28 v19 v12 s127_0 g41 hj H locs hP hD hS ls hl
    refine ms_1 (P := p2) (x := s127_0) hx hb hK hP hD hS rfl b2 d_M_extendRow_127 (fun H locs hP hD hS => ?_)
    obtain ⟨r127n, er127n⟩ : ∃ z, z = u1 g41 p2 s127_0 := ⟨_, rfl⟩
    rw [← er127n] at hP hD
    refine K127u s64_0 v37 v28 v19 v12 r127n (Eq.trans (hj.trans rfl) (congrArg (fun r127n => f_M_extendRow_127u r0 p1 p2 p3 s64_0 v37 v28 v19 v12 r127n) er127n.symm)) H locs ?_ ?_ hS ls (lv_sub hl [0, 1, 2, 3, 4, 5, 6] rfl)
    · with_reducible exact hP
    · with_reducible exact hD
  have K120 : ∀ (s64_0 : Bool) (v37 : Int64) (v28 : Int64) (v19 : Int64) (v12 : Int64) (g41 : (Nat → VV)) (hj : f_M_extendRow r0 p1 p2 p3 = f_M_extendRow_120 r0 p1 p2 p3 s64_0 v37 v28 v19 v12 g41) (H : Heap) (locs : List Loc) (hP : va_P (dC, dI) classes (mW ad cJ cZ c0 g41 w0 s0) H) (hD : va_D A (mW ad cJ cZ c0 g41 w0 s0)) (hS : va_S A s.heap H locs) (ls : Array Slot) (hl : lv_has ls 14 [(12, .int (bI s64_0)), (10, .long (v37)), (8, .long (v28)), (6, .long (v19)), (4, .long (v12)), (0, .ref (ad 0)), (2, .int (nI p2))]), W p l e (headSpec w_M_extendRow ({ frames := 7, cells := 0, slots := 0, locals := 208 } : Room)).room s m ([.ref (ad 0), .int (nI p1), .int (nI p2), .int (p3)] : List Value).toArray below meth c H locs 0 0 (MQ below (va_Qv (fun _ : Unit => True) (mB (dC, dI) A (mW ad cJ cZ c0 (f_M_extendRow r0 p1 p2 p3) w0 s0)) A) ([.ref (ad 0), .int (nI p1), .int (nI p2), .int (p3)] : List Value).toArray s 0 0 A) (F0 m 120 ls [.int (nI p2), .ref (ad 1)]) := by
    intro s64_0 v37 v28 v19 v12 g41 hj H locs hP hD hS ls hl
    refine lv_aload_n hx hb d_M_extendRow_120 rfl (lv_at hl 5 rfl) ?_
    refine va_get (D := (dC, dI)) (ci := 2) (v := .ref (ad 1)) (C := R_M) (T := F_M) (N := 10) hx hb hts (fun w h => List.mem_cons_of_mem _ (uw_M w h)) hown hK hP 0 rfl rfl 1 (by decide) (hG (.fieldLink R_M 7 "ValueSieveModel" "bits" "[J") gx10) (fun _ h9 => h9) rfl d_M_extendRow_121 ?_
    refine lv_bipush (v := 20) hx hb d_M_extendRow_124 (by decide) ?_
    refine ml_1 (P := 20) hx hb hK hP rfl (by decide) d_M_extendRow_126 ?_
    refine K127 s64_0 v37 v28 v19 v12 ((g41 20).1) g41 (hj.trans rfl) H locs ?_ ?_ hS ls (lv_sub hl [0, 1, 2, 3, 4, 5, 6] rfl)
    · with_reducible exact hP
    · with_reducible exact hD
  have K86 : ∀ (s64_0 : Bool) (v37 : Int64) (v28 : Int64) (v19 : Int64) (v12 : Int64) (s86_0 : Bool) (g41 : (Nat → VV)) (hj : f_M_extendRow r0 p1 p2 p3 = f_M_extendRow_86 r0 p1 p2 p3 s64_0 v37 v28 v19 v12 s86_0 g41) (H : Heap) (locs : List Loc) (hP : va_P (dC, dI) classes (mW ad cJ cZ c0 g41 w0 s0) H) (hD : va_D A (mW ad cJ cZ c0 g41 w0 s0)) (hS : va_S A s.heap H locs) (ls : Array Slot) (hl : lv_has ls 14 [(12, .int (bI s64_0)), (10, .long (v37)), (8, .long (v28)), (6, .long (v19)), (4, .long (v12)), (0, .ref (ad 0)), (2, .int (nI p2))]), W p l e (headSpec w_M_extendRow ({ frames := 7, cells := 0, slots := 0, locals := 208 } : Room)).room s m ([.ref (ad 0), .int (nI p1), .int (nI p2), .int (p3)] : List Value).toArray below meth c H locs 0 0 (MQ below (va_Qv (fun _ : Unit => True) (mB (dC, dI) A (mW ad cJ cZ c0 (f_M_extendRow r0 p1 p2 p3) w0 s0)) A) ([.ref (ad 0), .int (nI p1), .int (nI p2), .int (p3)] : List Value).toArray s 0 0 A) (F0 m 86 ls [.int (bI s86_0)]) := by
    intro s64_0 v37 v28 v19 v12 s86_0 g41 hj H locs hP hD hS ls hl
    refine lv_istore (lv' := [(13, .int (bI s86_0)), (12, .int (bI s64_0)), (10, .long (v37)), (8, .long (v28)), (6, .long (v19)), (4, .long (v12)), (0, .ref (ad 0)), (2, .int (nI p2))]) hx hb d_M_extendRow_86 hl (by decide) rfl (fun ls hl => ?_)
    refine lv_aload_n hx hb d_M_extendRow_88 rfl (lv_at hl 6 rfl) ?_
    refine va_get (D := (dC, dI)) (ci := 2) (v := .ref (ad 1)) (C := R_M) (T := F_M) (N := 10) hx hb hts (fun w h => List.mem_cons_of_mem _ (uw_M w h)) hown hK hP 0 rfl rfl 1 (by decide) (hG (.fieldLink R_M 7 "ValueSieveModel" "bits" "[J") gx10) (fun _ h9 => h9) rfl d_M_extendRow_89 ?_
    refine lv_iload_n hx hb d_M_extendRow_92 rfl (lv_at hl 7 rfl) ?_
    refine lv_iload hx hb d_M_extendRow_93 (lv_at hl 1 rfl) ?_
    refine wz_eq (tgt := 120) hx hb d_M_extendRow_95 (by decide) (fun e1_120 => ?_) (fun e1_120 => ?_)
    · refine K120 s64_0 v37 v28 v19 v12 g41 (hj.trans (by unfold f_M_extendRow_86; first | with_reducible exact if_neg e1_120 | exact if_neg e1_120)) H locs ?_ ?_ hS ls (lv_sub hl [1, 2, 3, 4, 5, 6, 7] rfl)
      · with_reducible exact hP
      · with_reducible exact hD
    · refine lv_iload hx hb d_M_extendRow_98 (lv_at hl 0 rfl) ?_
      refine wz_eq (tgt := 120) hx hb d_M_extendRow_100 (by decide) (fun e2_120 => ?_) (fun e2_120 => ?_)
      · refine K120 s64_0 v37 v28 v19 v12 g41 (hj.trans (by unfold f_M_extendRow_86; first | with_reducible exact (if_pos e1_120).trans (if_neg e2_120) | exact (if_pos e1_120).trans (if_neg e2_120))) H locs ?_ ?_ hS ls (lv_sub hl [1, 2, 3, 4, 5, 6, 7] rfl)
        · with_reducible exact hP
        · with_reducible exact hD
      · refine lv_aload_n hx hb d_M_extendRow_103 rfl (lv_at hl 6 rfl) ?_
        refine va_get (D := (dC, dI)) (ci := 2) (v := .ref (ad 1)) (C := R_M) (T := F_M) (N := 10) hx hb hts (fun w h => List.mem_cons_of_mem _ (uw_M w h)) hown hK hP 0 rfl rfl 1 (by decide) (hG (.fieldLink R_M 7 "ValueSieveModel" "bits" "[J") gx10) (fun _ h9 => h9) rfl d_M_extendRow_104 ?_
        refine lv_bipush (v := 20) hx hb d_M_extendRow_107 (by decide) ?_
        refine ml_1 (P := 20) hx hb hK hP rfl (by decide) d_M_extendRow_109 ?_
        refine lv_lload hx hb d_M_extendRow_110 (lv_at hl 5 rfl) ?_
        refine lv_ldc2 (v := -1) hx hb hown (hG (.constantLong R_M 49 (-1)) gx42) d_M_extendRow_112 ?_
        refine lv_lxor hx hb d_M_extendRow_115 ?_
        refine lv_lor hx hb d_M_extendRow_116 ?_
        refine lv_goto (tgt := 127) hx hb d_M_extendRow_117 (by decide) ?_
        refine K127 s64_0 v37 v28 v19 v12 (((g41 20).1) ||| (v12 ^^^ (-1 : Int64))) g41 (hj.trans (by unfold f_M_extendRow_86; first | with_reducible exact (if_pos e1_120).trans (if_pos e2_120) | exact (if_pos e1_120).trans (if_pos e2_120))) H locs ?_ ?_ hS ls (lv_sub hl [1, 2, 3, 4, 5, 6, 7] rfl)
        · with_reducible exact hP
        · with_reducible exact hD
  have K64 : ∀ (v37 : Int64) (v28 : Int64) (v19 : Int64) (v12 : Int64) (s64_0 : Bool) (g41 : (Nat → VV)) (hj : f_M_extendRow r0 p1 p2 p3 = f_M_extendRow_64 r0 p1 p2 p3 v37 v28 v19 v12 s64_0 g41) (H : Heap) (locs : List Loc) (hP : va_P (dC, dI) classes (mW ad cJ cZ c0 g41 w0 s0) H) (hD : va_D A (mW ad cJ cZ c0 g41 w0 s0)) (hS : va_S A s.heap H locs) (ls : Array Slot) (hl : lv_has ls 14 [(10, .long (v37)), (8, .long (v28)), (6, .long (v19)), (4, .long (v12)), (0, .ref (ad 0)), (2, .int (nI p2))]), W p l e (headSpec w_M_extendRow ({ frames := 7, cells := 0, slots := 0, locals := 208 } : Room)).room s m ([.ref (ad 0), .int (nI p1), .int (nI p2), .int (p3)] : List Value).toArray below meth c H locs 0 0 (MQ below (va_Qv (fun _ : Unit => True) (mB (dC, dI) A (mW ad cJ cZ c0 (f_M_extendRow r0 p1 p2 p3) w0 s0)) A) ([.ref (ad 0), .int (nI p1), .int (nI p2), .int (p3)] : List Value).toArray s 0 0 A) (F0 m 64 ls [.int (bI s64_0)]) := by
    intro v37 v28 v19 v12 s64_0 g41 hj H locs hP hD hS ls hl
    refine lv_istore (lv' := [(12, .int (bI s64_0)), (10, .long (v37)), (8, .long (v28)), (6, .long (v19)), (4, .long (v12)), (0, .ref (ad 0)), (2, .int (nI p2))]) hx hb d_M_extendRow_64 hl (by decide) rfl (fun ls hl => ?_)
    refine lv_aload_n hx hb d_M_extendRow_66 rfl (lv_at hl 5 rfl) ?_
    refine va_get (D := (dC, dI)) (ci := 2) (v := .ref (ad 1)) (C := R_M) (T := F_M) (N := 10) hx hb hts (fun w h => List.mem_cons_of_mem _ (uw_M w h)) hown hK hP 0 rfl rfl 1 (by decide) (hG (.fieldLink R_M 7 "ValueSieveModel" "bits" "[J") gx10) (fun _ h9 => h9) rfl d_M_extendRow_67 ?_
    refine lv_bipush (v := 20) hx hb d_M_extendRow_70 (by decide) ?_
    refine ml_1 (P := 20) hx hb hK hP rfl (by decide) d_M_extendRow_72 ?_
    refine lv_lload hx hb d_M_extendRow_73 (lv_at hl 3 rfl) ?_
    refine lv_land hx hb d_M_extendRow_75 ?_
    refine lv_lconst (v := 0) hx hb d_M_extendRow_76 (by decide) ?_
    refine wl_eq (tgt := 85) hx hb d_M_extendRow_77 d_M_extendRow_78 (by decide) (fun e1_85 => ?_) (fun e1_85 => ?_)
    · refine lv_iconst (v := 0) hx hb d_M_extendRow_85 (by decide) ?_
      refine K86 s64_0 v37 v28 v19 v12 false g41 (hj.trans (by unfold f_M_extendRow_64; first | with_reducible exact if_pos e1_85 | exact if_pos e1_85)) H locs ?_ ?_ hS ls (lv_sub hl [0, 1, 2, 3, 4, 5, 6] rfl)
      · with_reducible exact hP
      · with_reducible exact hD
    · refine lv_iconst (v := 1) hx hb d_M_extendRow_81 (by decide) ?_
      refine lv_goto (tgt := 86) hx hb d_M_extendRow_82 (by decide) ?_
      refine K86 s64_0 v37 v28 v19 v12 true g41 (hj.trans (by unfold f_M_extendRow_64; first | with_reducible exact if_neg e1_85 | exact if_neg e1_85)) H locs ?_ ?_ hS ls (lv_sub hl [0, 1, 2, 3, 4, 5, 6] rfl)
      · with_reducible exact hP
      · with_reducible exact hD
  have K41g : ∀ (v37 : Int64) (v28 : Int64) (v19 : Int64) (v12 : Int64) (g41 : (Nat → VV)) (hj : f_M_extendRow r0 p1 p2 p3 = f_M_extendRow_41g r0 p1 p2 p3 v37 v28 v19 v12 g41) (H : Heap) (locs : List Loc) (hP : va_P (dC, dI) classes (mW ad cJ cZ c0 g41 w0 s0) H) (hD : va_D A (mW ad cJ cZ c0 g41 w0 s0)) (hS : va_S A s.heap H locs) (ls : Array Slot) (hl : lv_has ls 14 [(10, .long (v37)), (8, .long (v28)), (6, .long (v19)), (4, .long (v12)), (0, .ref (ad 0)), (2, .int (nI p2))]), W p l e (headSpec w_M_extendRow ({ frames := 7, cells := 0, slots := 0, locals := 208 } : Room)).room s m ([.ref (ad 0), .int (nI p1), .int (nI p2), .int (p3)] : List Value).toArray below meth c H locs 0 0 (MQ below (va_Qv (fun _ : Unit => True) (mB (dC, dI) A (mW ad cJ cZ c0 (f_M_extendRow r0 p1 p2 p3) w0 s0)) A) ([.ref (ad 0), .int (nI p1), .int (nI p2), .int (p3)] : List Value).toArray s 0 0 A) (F0 m 44 ls []) := by
    intro v37 v28 v19 v12 g41 hj H locs hP hD hS ls hl
    refine lv_aload_n hx hb d_M_extendRow_44 rfl (lv_at hl 4 rfl) ?_
    refine va_get (D := (dC, dI)) (ci := 2) (v := .ref (ad 2)) (C := R_M) (T := F_M) (N := 10) hx hb hts (fun w h => List.mem_cons_of_mem _ (uw_M w h)) hown hK hP 0 rfl rfl 2 (by decide) (hG (.fieldLink R_M 13 "ValueSieveModel" "open" "[J") gx11) (fun _ h9 => h9) rfl d_M_extendRow_45 ?_
    refine lv_bipush (v := 20) hx hb d_M_extendRow_48 (by decide) ?_
    refine ml_2 (P := 20) hx hb hK hP rfl (by decide) d_M_extendRow_50 ?_
    refine lv_lload hx hb d_M_extendRow_51 (lv_at hl 2 rfl) ?_
    refine lv_land hx hb d_M_extendRow_53 ?_
    refine lv_lconst (v := 0) hx hb d_M_extendRow_54 (by decide) ?_
    refine wl_ne (tgt := 63) hx hb d_M_extendRow_55 d_M_extendRow_56 (by decide) (fun e1_63 => ?_) (fun e1_63 => ?_)
    · refine lv_iconst (v := 0) hx hb d_M_extendRow_63 (by decide) ?_
      refine K64 v37 v28 v19 v12 false g41 (hj.trans (by unfold f_M_extendRow_41g; first | with_reducible exact if_neg e1_63 | exact if_neg e1_63)) H locs ?_ ?_ hS ls (lv_sub hl [0, 1, 2, 3, 4, 5] rfl)
      · with_reducible exact hP
      · with_reducible exact hD
    · refine lv_iconst (v := 1) hx hb d_M_extendRow_59 (by decide) ?_
      refine lv_goto (tgt := 64) hx hb d_M_extendRow_60 (by decide) ?_
      refine K64 v37 v28 v19 v12 true g41 (hj.trans (by unfold f_M_extendRow_41g; first | with_reducible exact if_pos e1_63 | exact if_pos e1_63)) H locs ?_ ?_ hS ls (lv_sub hl [0, 1, 2, 3, 4, 5] rfl)
      · with_reducible exact hP
      · with_reducible exact hD
  have K37v : ∀ (v37 : Int64) (v28 : Int64) (v19 : Int64) (v12 : Int64) (g5 : (Nat → VV)) (hj : f_M_extendRow r0 p1 p2 p3 = f_M_extendRow_37v r0 p1 p2 p3 v37 v28 v19 v12 g5) (H : Heap) (locs : List Loc) (hP : va_P (dC, dI) classes (mW ad cJ cZ c0 g5 w0 s0) H) (hD : va_D A (mW ad cJ cZ c0 g5 w0 s0)) (hS : va_S A s.heap H locs) (ls : Array Slot) (hl : lv_has ls 14 [(10, .long (v37)), (8, .long (v28)), (6, .long (v19)), (4, .long (v12)), (0, .ref (ad 0)), (2, .int (nI p2))]), W p l e (headSpec w_M_extendRow ({ frames := 7, cells := 0, slots := 0, locals := 208 } : Room)).room s m ([.ref (ad 0), .int (nI p1), .int (nI p2), .int (p3)] : List Value).toArray below meth c H locs 0 0 (MQ below (va_Qv (fun _ : Unit => True) (mB (dC, dI) A (mW ad cJ cZ c0 (f_M_extendRow r0 p1 p2 p3) w0 s0)) A) ([.ref (ad 0), .int (nI p1), .int (nI p2), .int (p3)] : List Value).toArray s 0 0 A) (F0 m 39 ls []) := by
    intro v37 v28 v19 v12 g5 hj H locs hP hD hS ls hl
    refine lv_aload_n hx hb d_M_extendRow_39 rfl (lv_at hl 4 rfl) ?_
    refine lv_iload_n hx hb d_M_extendRow_40 rfl (lv_at hl 5 rfl) ?_
    refine mm_v (F := f_M_nothingSaid g5 p2) (w1 := fun g41 => (mW ad cJ cZ c0 g41 w0 s0)) (va_runV (As := [.int (nI p2)]) (rest := []) ⟨hx, hb, hml, hown, hts⟩ (c_M_nothingSaid l dC dI ad cJ cZ H.size c0 g5 w0 s0 p2 b2) (cwV 1 hts (gxV gx39 gx40 gx267 gx0 gx41) rfl rfl rfl (by decide +kernel) ⟨(Nat.le_of_ble_eq_true rfl), (Nat.le_of_ble_eq_true rfl)⟩) ⟨blp, va_recv hK hP (ci := 2) (q0 := 0) rfl rfl, fun U hU hW => ⟨rfl, by rw [hU], by rw [hU]; exact hP, va_K.moved hW.alike hK, hD.weaken (fun _ _ _ _ => trivial)⟩⟩ rfl rfl hl.1 rfl (lv_room (Nat.le_of_ble_eq_true rfl)) d_M_extendRow_41 ⟨Nat.zero_le _, Nat.zero_le _⟩) hD hS hA (fun g41 eg41 H locs hP hD hS => ?_)
    refine K41g v37 v28 v19 v12 g41 (Eq.trans (hj.trans rfl) (congrArg (fun g41 => f_M_extendRow_41g r0 p1 p2 p3 v37 v28 v19 v12 g41) eg41)) H locs ?_ ?_ hS ls (lv_sub hl [0, 1, 2, 3, 4, 5] rfl)
    · with_reducible exact hP
    · with_reducible exact hD
  have K28v : ∀ (v28 : Int64) (v19 : Int64) (v12 : Int64) (g5 : (Nat → VV)) (hj : f_M_extendRow r0 p1 p2 p3 = f_M_extendRow_28v r0 p1 p2 p3 v28 v19 v12 g5) (H : Heap) (locs : List Loc) (hP : va_P (dC, dI) classes (mW ad cJ cZ c0 g5 w0 s0) H) (hD : va_D A (mW ad cJ cZ c0 g5 w0 s0)) (hS : va_S A s.heap H locs) (ls : Array Slot) (hl : lv_has ls 14 [(8, .long (v28)), (6, .long (v19)), (4, .long (v12)), (0, .ref (ad 0)), (2, .int (nI p2))]), W p l e (headSpec w_M_extendRow ({ frames := 7, cells := 0, slots := 0, locals := 208 } : Room)).room s m ([.ref (ad 0), .int (nI p1), .int (nI p2), .int (p3)] : List Value).toArray below meth c H locs 0 0 (MQ below (va_Qv (fun _ : Unit => True) (mB (dC, dI) A (mW ad cJ cZ c0 (f_M_extendRow r0 p1 p2 p3) w0 s0)) A) ([.ref (ad 0), .int (nI p1), .int (nI p2), .int (p3)] : List Value).toArray s 0 0 A) (F0 m 30 ls []) := by
    intro v28 v19 v12 g5 hj H locs hP hD hS ls hl
    refine lv_aload_n hx hb d_M_extendRow_30 rfl (lv_at hl 3 rfl) ?_
    refine va_get (D := (dC, dI)) (ci := 2) (v := .ref (ad 4)) (C := R_M) (T := F_M) (N := 10) hx hb hts (fun w h => List.mem_cons_of_mem _ (uw_M w h)) hown hK hP 0 rfl rfl 4 (by decide) (hG (.fieldLink R_M 19 "ValueSieveModel" "high" "[J") gx13) (fun _ h9 => h9) rfl d_M_extendRow_31 ?_
    refine lv_bipush (v := 20) hx hb d_M_extendRow_34 (by decide) ?_
    refine ml_4 (P := 20) hx hb hK hP rfl (by decide) d_M_extendRow_36 ?_
    refine lv_topl (fun v37 ev37 => ?_)
    refine lv_lstore (lv' := [(10, .long (v37)), (8, .long (v28)), (6, .long (v19)), (4, .long (v12)), (0, .ref (ad 0)), (2, .int (nI p2))]) hx hb d_M_extendRow_37 hl (by decide) rfl (fun ls hl => ?_)
    refine K37v v37 v28 v19 v12 g5 (Eq.trans (hj.trans rfl) (congrArg (fun v37 => f_M_extendRow_37v r0 p1 p2 p3 v37 v28 v19 v12 g5) ev37.symm)) H locs ?_ ?_ hS ls (lv_sub hl [0, 1, 2, 3, 4, 5] rfl)
    · with_reducible exact hP
    · with_reducible exact hD
  have K19v : ∀ (v19 : Int64) (v12 : Int64) (g5 : (Nat → VV)) (hj : f_M_extendRow r0 p1 p2 p3 = f_M_extendRow_19v r0 p1 p2 p3 v19 v12 g5) (H : Heap) (locs : List Loc) (hP : va_P (dC, dI) classes (mW ad cJ cZ c0 g5 w0 s0) H) (hD : va_D A (mW ad cJ cZ c0 g5 w0 s0)) (hS : va_S A s.heap H locs) (ls : Array Slot) (hl : lv_has ls 14 [(6, .long (v19)), (4, .long (v12)), (0, .ref (ad 0)), (2, .int (nI p2))]), W p l e (headSpec w_M_extendRow ({ frames := 7, cells := 0, slots := 0, locals := 208 } : Room)).room s m ([.ref (ad 0), .int (nI p1), .int (nI p2), .int (p3)] : List Value).toArray below meth c H locs 0 0 (MQ below (va_Qv (fun _ : Unit => True) (mB (dC, dI) A (mW ad cJ cZ c0 (f_M_extendRow r0 p1 p2 p3) w0 s0)) A) ([.ref (ad 0), .int (nI p1), .int (nI p2), .int (p3)] : List Value).toArray s 0 0 A) (F0 m 21 ls []) := by
    intro v19 v12 g5 hj H locs hP hD hS ls hl
    refine lv_aload_n hx hb d_M_extendRow_21 rfl (lv_at hl 2 rfl) ?_
    refine va_get (D := (dC, dI)) (ci := 2) (v := .ref (ad 3)) (C := R_M) (T := F_M) (N := 10) hx hb hts (fun w h => List.mem_cons_of_mem _ (uw_M w h)) hown hK hP 0 rfl rfl 3 (by decide) (hG (.fieldLink R_M 16 "ValueSieveModel" "low" "[J") gx12) (fun _ h9 => h9) rfl d_M_extendRow_22 ?_
    refine lv_bipush (v := 20) hx hb d_M_extendRow_25 (by decide) ?_
    refine ml_3 (P := 20) hx hb hK hP rfl (by decide) d_M_extendRow_27 ?_
    refine lv_topl (fun v28 ev28 => ?_)
    refine lv_lstore (lv' := [(8, .long (v28)), (6, .long (v19)), (4, .long (v12)), (0, .ref (ad 0)), (2, .int (nI p2))]) hx hb d_M_extendRow_28 hl (by decide) rfl (fun ls hl => ?_)
    refine K28v v28 v19 v12 g5 (Eq.trans (hj.trans rfl) (congrArg (fun v28 => f_M_extendRow_28v r0 p1 p2 p3 v28 v19 v12 g5) ev28.symm)) H locs ?_ ?_ hS ls (lv_sub hl [0, 1, 2, 3, 4] rfl)
    · with_reducible exact hP
    · with_reducible exact hD
  have K12v : ∀ (v12 : Int64) (g5 : (Nat → VV)) (hj : f_M_extendRow r0 p1 p2 p3 = f_M_extendRow_12v r0 p1 p2 p3 v12 g5) (H : Heap) (locs : List Loc) (hP : va_P (dC, dI) classes (mW ad cJ cZ c0 g5 w0 s0) H) (hD : va_D A (mW ad cJ cZ c0 g5 w0 s0)) (hS : va_S A s.heap H locs) (ls : Array Slot) (hl : lv_has ls 14 [(4, .long (v12)), (0, .ref (ad 0)), (2, .int (nI p2)), (3, .int (p3))]), W p l e (headSpec w_M_extendRow ({ frames := 7, cells := 0, slots := 0, locals := 208 } : Room)).room s m ([.ref (ad 0), .int (nI p1), .int (nI p2), .int (p3)] : List Value).toArray below meth c H locs 0 0 (MQ below (va_Qv (fun _ : Unit => True) (mB (dC, dI) A (mW ad cJ cZ c0 (f_M_extendRow r0 p1 p2 p3) w0 s0)) A) ([.ref (ad 0), .int (nI p1), .int (nI p2), .int (p3)] : List Value).toArray s 0 0 A) (F0 m 14 ls []) := by
    intro v12 g5 hj H locs hP hD hS ls hl
    refine lv_lconst (v := 1) hx hb d_M_extendRow_14 (by decide) ?_
    refine lv_iload_n hx hb d_M_extendRow_15 rfl (lv_at hl 3 rfl) ?_
    refine lv_iconst (v := 1) hx hb d_M_extendRow_16 (by decide) ?_
    refine lv_isub hx hb d_M_extendRow_17 ?_
    refine lv_lshl (v := (1 : Int64) <<< ((p3 - (1 : Int32)).toInt64 &&& 63)) hx hb d_M_extendRow_18 rfl ?_
    refine lv_topl (fun v19 ev19 => ?_)
    refine lv_lstore (lv' := [(6, .long (v19)), (4, .long (v12)), (0, .ref (ad 0)), (2, .int (nI p2)), (3, .int (p3))]) hx hb d_M_extendRow_19 hl (by decide) rfl (fun ls hl => ?_)
    refine K19v v19 v12 g5 (Eq.trans (hj.trans rfl) (congrArg (fun v19 => f_M_extendRow_19v r0 p1 p2 p3 v19 v12 g5) ev19.symm)) H locs ?_ ?_ hS ls (lv_sub hl [0, 1, 2, 3] rfl)
    · with_reducible exact hP
    · with_reducible exact hD
  have K5g : ∀ (g5 : (Nat → VV)) (hj : f_M_extendRow r0 p1 p2 p3 = f_M_extendRow_5g r0 p1 p2 p3 g5) (H : Heap) (locs : List Loc) (hP : va_P (dC, dI) classes (mW ad cJ cZ c0 g5 w0 s0) H) (hD : va_D A (mW ad cJ cZ c0 g5 w0 s0)) (hS : va_S A s.heap H locs) (ls : Array Slot) (hl : lv_has ls 14 [(0, .ref (ad 0)), (2, .int (nI p2)), (3, .int (p3))]), W p l e (headSpec w_M_extendRow ({ frames := 7, cells := 0, slots := 0, locals := 208 } : Room)).room s m ([.ref (ad 0), .int (nI p1), .int (nI p2), .int (p3)] : List Value).toArray below meth c H locs 0 0 (MQ below (va_Qv (fun _ : Unit => True) (mB (dC, dI) A (mW ad cJ cZ c0 (f_M_extendRow r0 p1 p2 p3) w0 s0)) A) ([.ref (ad 0), .int (nI p1), .int (nI p2), .int (p3)] : List Value).toArray s 0 0 A) (F0 m 8 ls []) := by
    intro g5 hj H locs hP hD hS ls hl
    refine lv_iload_n hx hb d_M_extendRow_8 rfl (lv_at hl 2 rfl) ?_
    refine rc_l (W.runS (As := [.int (p3)]) (rest := []) ⟨hx, hb, hml, hown, hts⟩ (c_M_mask l p3) (va_cwS 1 hts (gxS gx102 gx103 gx0 gx104) rfl rfl rfl (by decide +kernel) ⟨(Nat.le_of_ble_eq_true rfl), (Nat.le_of_ble_eq_true rfl)⟩) ⟨bl0, fun U hU hW => ⟨rfl, trivial⟩⟩ rfl rfl hl.1 rfl (lv_room (Nat.le_of_ble_eq_true rfl)) d_M_extendRow_9 ⟨Nat.zero_le _, Nat.zero_le _⟩) ?_
    refine lv_topl (fun v12 ev12 => ?_)
    refine lv_lstore (lv' := [(4, .long (v12)), (0, .ref (ad 0)), (2, .int (nI p2)), (3, .int (p3))]) hx hb d_M_extendRow_12 hl (by decide) rfl (fun ls hl => ?_)
    refine K12v v12 g5 (Eq.trans (hj.trans rfl) (congrArg (fun v12 => f_M_extendRow_12v r0 p1 p2 p3 v12 g5) ev12.symm)) H locs ?_ ?_ hS ls (lv_sub hl [0, 1, 2, 3] rfl)
    · with_reducible exact hP
    · with_reducible exact hD
  refine lv_aload_n hx hb d_M_extendRow_0 rfl (lv_at hl 0 rfl) ?_
  refine lv_iload_n hx hb d_M_extendRow_1 rfl (lv_at hl 1 rfl) ?_
  refine lv_bipush (v := 20) hx hb d_M_extendRow_2 (by decide) ?_
  refine lv_iload_n hx hb d_M_extendRow_4 rfl (lv_at hl 3 rfl) ?_
  refine mm_v (F := f_M_cutRow r0 p1 20 p3) (w1 := fun g5 => (mW ad cJ cZ c0 g5 w0 s0)) (va_runV (As := [.int (nI p1), .int (20), .int (p3)]) (rest := []) ⟨hx, hb, hml, hown, hts⟩ (c_M_cutRow l dC dI ad cJ cZ s.heap.size c0 r0 w0 s0 p1 20 p3 b1 (by decide)) (cwV 3 hts (gxV gx99 gx100 gx279 gx0 gx101) rfl rfl rfl (by decide +kernel) ⟨(Nat.le_of_ble_eq_true rfl), (Nat.le_of_ble_eq_true rfl)⟩) ⟨blp, va_recv hK hP (ci := 2) (q0 := 0) rfl rfl, fun U hU hW => ⟨rfl, by rw [hU], by rw [hU]; exact hP, va_K.moved hW.alike hK, hD.weaken (fun _ _ _ _ => trivial)⟩⟩ rfl rfl hl.1 rfl (lv_room (Nat.le_of_ble_eq_true rfl)) d_M_extendRow_5 ⟨Nat.zero_le _, Nat.zero_le _⟩) hD hS hA (fun g5 eg5 H locs hP hD hS => ?_)
  refine K5g g5 (Eq.trans (rfl) (congrArg (fun g5 => f_M_extendRow_5g r0 p1 p2 p3 g5) eg5)) H locs ?_ ?_ hS ls (lv_sub hl [0, 2, 3] rfl)
  · with_reducible exact hP
  · with_reducible exact hD
-- swapped
theorem d_M_swapped_0 : decode b_M_swapped 0 = .ok (.lconst 0, 1) := by decide +kernel
theorem d_M_swapped_1 : decode b_M_swapped 1 = .ok (.lstore_n 3, 1) := by decide +kernel
theorem d_M_swapped_2 : decode b_M_swapped 2 = .ok (.iconst 0, 1) := by decide +kernel
theorem d_M_swapped_3 : decode b_M_swapped 3 = .ok (.istore 5, 2) := by decide +kernel
theorem d_M_swapped_5 : decode b_M_swapped 5 = .ok (.iload 5, 2) := by decide +kernel
theorem d_M_swapped_7 : decode b_M_swapped 7 = .ok (.iload_n 2, 1) := by decide +kernel
theorem d_M_swapped_8 : decode b_M_swapped 8 = .ok (.if_icmp .ge 23, 3) := by decide +kernel
theorem d_M_swapped_11 : decode b_M_swapped 11 = .ok (.lload_n 3, 1) := by decide +kernel
theorem d_M_swapped_12 : decode b_M_swapped 12 = .ok (.bipush 8, 2) := by decide +kernel
theorem d_M_swapped_14 : decode b_M_swapped 14 = .ok (.lshl, 1) := by decide +kernel
theorem d_M_swapped_15 : decode b_M_swapped 15 = .ok (.lload_n 0, 1) := by decide +kernel
theorem d_M_swapped_16 : decode b_M_swapped 16 = .ok (.iload 5, 2) := by decide +kernel
theorem d_M_swapped_18 : decode b_M_swapped 18 = .ok (.lushr, 1) := by decide +kernel
theorem d_M_swapped_19 : decode b_M_swapped 19 = .ok (.ldc2_w 124, 3) := by decide +kernel
theorem d_M_swapped_22 : decode b_M_swapped 22 = .ok (.land, 1) := by decide +kernel
theorem d_M_swapped_23 : decode b_M_swapped 23 = .ok (.lor, 1) := by decide +kernel
theorem d_M_swapped_24 : decode b_M_swapped 24 = .ok (.lstore_n 3, 1) := by decide +kernel
theorem d_M_swapped_25 : decode b_M_swapped 25 = .ok (.iinc 5 8, 3) := by decide +kernel
theorem d_M_swapped_28 : decode b_M_swapped 28 = .ok (.goto (-23), 3) := by decide +kernel
theorem d_M_swapped_31 : decode b_M_swapped 31 = .ok (.lload_n 3, 1) := by decide +kernel
theorem d_M_swapped_32 : decode b_M_swapped 32 = .ok (.lreturn, 1) := by decide +kernel
def f_M_swapped_24v (p1 : Int64) (p2 : Int32) (x5_5 : Int32) (x5_3 : Int64) (k5 : Int32 → Int64 → Int64) (v24 : Int64) : Int64 := k5 (x5_5 + 8) v24
def f_M_swapped_5 (p1 : Int64) (p2 : Int32) : Nat → Int32 → Int64 → Int64
  | 0, _, _ => default
  | n5 + 1, x5_5, x5_3 => (if p2 ≤ x5_5 then x5_3 else f_M_swapped_24v p1 p2 x5_5 x5_3 (fun y0 y1 => f_M_swapped_5 p1 p2 n5 y0 y1) ((x5_3 <<< ((8 : Int32).toInt64 &&& 63)) ||| (((p1.toUInt64 >>> (x5_5.toInt64.toUInt64 &&& Int64.toUInt64 63)).toInt64) &&& (255 : Int64))))
def f_M_swapped (p1 : Int64) (p2 : Int32) : Int64 := f_M_swapped_5 p1 p2 65 0 0
set_option maxRecDepth 100000 in
set_option maxHeartbeats 4000000 in
theorem c_M_swapped (l : Launch) (p1 : Int64) (p2 : Int32) (h64 : p2 ≤ 64) : Met l y_M_swapped w_M_swapped ({ frames := 0, cells := 0, slots := 0, locals := 0 } : Room) (va_Pc [.long (p1), .int (p2)] (fun _ => True)) (vp_Sl (fun r => r = (f_M_swapped p1 p2))) 0 0 (fun _ => False) := by
  refine Met.ofW (cc := b_M_swapped) (maxL := 6) (ret := (some .long)) (by decide) rfl ?_
  intro p e s m args below meth c s₁ B hml hv
  obtain ⟨rfl, -⟩ := hv
  have hx := B.exec
  have hb := B.bytes
  have hr := B.returns
  have hts := atoms_spec (ws := w_M_swapped) B.pre
  have hG : ∀ w ∈ gM, w.before _ s = true := fun w h => hts w (List.mem_cons_of_mem _ h)
  have hown : s.vm.findClass R_M = some m.cls := findClass_of_methodNamed B.named
  have hlocks := B.notSynchronized
  have hl := lv_entry ([.long (p1), .int (p2)]) (n := 6) (Nat.le_of_ble_eq_true rfl)
  rw [lg_entry_eq]
  generalize (lg_sl ([.long (p1), .int (p2)]) ++ List.replicate (6 - (lg_sl ([.long (p1), .int (p2)])).length) Slot.unset).toArray = ls at hl ⊢
  have hl : lv_has ls 6 [(0, .long (p1)), (2, .int (p2))] := hl
  have K5 : ∀ (n5 : Nat) (x5_5 : Int32) (x5_3 : Int64) (hm5 : (p2.toInt - x5_5.toInt).toNat < n5) (hj : f_M_swapped p1 p2 = f_M_swapped_5 p1 p2 n5 x5_5 x5_3) (ls : Array Slot) (hl : lv_has ls 6 [(5, .int (x5_5)), (3, .long (x5_3)), (0, .long (p1)), (2, .int (p2))]), W p l e (headSpec w_M_swapped ({ frames := 0, cells := 0, slots := 0, locals := 0 } : Room)).room s m ([.long (p1), .int (p2)] : List Value).toArray below meth c s.heap [] 0 0 (MQ below (vp_Sl (fun r => r = (f_M_swapped p1 p2))) ([.long (p1), .int (p2)] : List Value).toArray s 0 0 (fun _ => False)) (F0 m 5 ls []) := by
    intro n5
    induction n5 with
    | zero => intro x5_5 x5_3 hm5 hj ls hl; exact absurd hm5 (Nat.not_lt_zero _)
    | succ n5 ih5 =>
      intro x5_5 x5_3 hm5 hj ls hl
      have K24v : ∀ (v24 : Int64) (hj : f_M_swapped p1 p2 = f_M_swapped_24v p1 p2 x5_5 x5_3 (fun y0 y1 => f_M_swapped_5 p1 p2 n5 y0 y1) v24) (hf0 : ¬ p2 ≤ x5_5) (ls : Array Slot) (hl : lv_has ls 6 [(3, .long (v24)), (5, .int (x5_5)), (0, .long (p1)), (2, .int (p2))]), W p l e (headSpec w_M_swapped ({ frames := 0, cells := 0, slots := 0, locals := 0 } : Room)).room s m ([.long (p1), .int (p2)] : List Value).toArray below meth c s.heap [] 0 0 (MQ below (vp_Sl (fun r => r = (f_M_swapped p1 p2))) ([.long (p1), .int (p2)] : List Value).toArray s 0 0 (fun _ => False)) (F0 m 25 ls []) := by
        intro v24 hj hf0 ls hl
        refine lv_iinc (v := x5_5 + 8) (lv' := [(5, .int (x5_5 + 8)), (3, .long (v24)), (0, .long (p1)), (2, .int (p2))]) hx hb d_M_swapped_25 hl (k := 1) rfl rfl (by decide) rfl (fun ls hl => ?_)
        refine lv_goto (tgt := 5) hx hb d_M_swapped_28 (by decide) ?_
        exact ih5 (x5_5 + 8) v24 (sw_step h64 hf0 hm5) (hj.trans rfl) ls (lv_sub hl [0, 1, 2, 3] rfl)
      refine lv_iload hx hb d_M_swapped_5 (lv_at hl 0 rfl) ?_
      refine lv_iload_n hx hb d_M_swapped_7 rfl (lv_at hl 3 rfl) ?_
      refine lv_icmp_ge (tgt := 31) hx hb d_M_swapped_8 (by decide) (fun e1_31 => ?_) (fun e1_31 => ?_)
      · refine lv_lload_n hx hb d_M_swapped_31 rfl (lv_at hl 1 rfl) ?_
        have fe : f_M_swapped p1 p2 = x5_3 := hj.trans ((f_M_swapped_5.eq_2 p1 p2 _ _ _).trans (by first | with_reducible exact if_pos e1_31 | exact if_pos e1_31))
        exact W.lret (v := x5_3) hx hb hr (fun t ht hW => ⟨_, rfl, by rw [fe], ht⟩) t_nil d_M_swapped_32
      · refine lv_lload_n hx hb d_M_swapped_11 rfl (lv_at hl 1 rfl) ?_
        refine lv_bipush (v := 8) hx hb d_M_swapped_12 (by decide) ?_
        refine lv_lshl (v := x5_3 <<< ((8 : Int32).toInt64 &&& 63)) hx hb d_M_swapped_14 rfl ?_
        refine lv_lload_n hx hb d_M_swapped_15 rfl (lv_at hl 2 rfl) ?_
        refine lv_iload hx hb d_M_swapped_16 (lv_at hl 0 rfl) ?_
        refine lv_lushr (v := (p1.toUInt64 >>> (x5_5.toInt64.toUInt64 &&& Int64.toUInt64 63)).toInt64) hx hb d_M_swapped_18 rfl ?_
        refine lv_ldc2 (v := 255) hx hb hown (hG (.constantLong R_M 124 (255)) gx120) d_M_swapped_19 ?_
        refine lv_land hx hb d_M_swapped_22 ?_
        refine lv_lor hx hb d_M_swapped_23 ?_
        refine lv_topl (fun v24 ev24 => ?_)
        refine lv_lstore_n (lv' := [(3, .long (v24)), (5, .int (x5_5)), (0, .long (p1)), (2, .int (p2))]) hx hb d_M_swapped_24 rfl hl (by decide) rfl (fun ls hl => ?_)
        exact K24v v24 (Eq.trans (hj.trans ((f_M_swapped_5.eq_2 p1 p2 _ _ _).trans (by first | with_reducible exact if_neg e1_31 | exact if_neg e1_31))) (congrArg (fun v24 => f_M_swapped_24v p1 p2 x5_5 x5_3 (fun y0 y1 => f_M_swapped_5 p1 p2 n5 y0 y1) v24) ev24.symm)) e1_31 ls (lv_sub hl [0, 1, 2, 3] rfl)
  refine lv_lconst (v := 0) hx hb d_M_swapped_0 (by decide) ?_
  refine lv_lstore_n (lv' := [(3, .long (0)), (0, .long (p1)), (2, .int (p2))]) hx hb d_M_swapped_1 rfl hl (by decide) rfl (fun ls hl => ?_)
  refine lv_iconst (v := 0) hx hb d_M_swapped_2 (by decide) ?_
  refine lv_istore (lv' := [(5, .int (0)), (3, .long (0)), (0, .long (p1)), (2, .int (p2))]) hx hb d_M_swapped_3 hl (by decide) rfl (fun ls hl => ?_)
  exact K5 65 0 0 (sw_init h64) (rfl) ls (lv_sub hl [0, 1, 2, 3] rfl)
-- swapRow
theorem d_M_swapRow_0 : decode b_M_swapRow 0 = .ok (.aload_n 0, 1) := by decide +kernel
theorem d_M_swapRow_1 : decode b_M_swapRow 1 = .ok (.iload_n 1, 1) := by decide +kernel
theorem d_M_swapRow_2 : decode b_M_swapRow 2 = .ok (.bipush 20, 2) := by decide +kernel
theorem d_M_swapRow_4 : decode b_M_swapRow 4 = .ok (.iload_n 3, 1) := by decide +kernel
theorem d_M_swapRow_5 : decode b_M_swapRow 5 = .ok (.invokevirtual 120, 3) := by decide +kernel
theorem d_M_swapRow_8 : decode b_M_swapRow 8 = .ok (.aload_n 0, 1) := by decide +kernel
theorem d_M_swapRow_9 : decode b_M_swapRow 9 = .ok (.iload_n 2, 1) := by decide +kernel
theorem d_M_swapRow_10 : decode b_M_swapRow 10 = .ok (.invokevirtual 102, 3) := by decide +kernel
theorem d_M_swapRow_13 : decode b_M_swapRow 13 = .ok (.aload_n 0, 1) := by decide +kernel
theorem d_M_swapRow_14 : decode b_M_swapRow 14 = .ok (.getfield 7, 3) := by decide +kernel
theorem d_M_swapRow_17 : decode b_M_swapRow 17 = .ok (.iload_n 2, 1) := by decide +kernel
theorem d_M_swapRow_18 : decode b_M_swapRow 18 = .ok (.aload_n 0, 1) := by decide +kernel
theorem d_M_swapRow_19 : decode b_M_swapRow 19 = .ok (.getfield 7, 3) := by decide +kernel
theorem d_M_swapRow_22 : decode b_M_swapRow 22 = .ok (.bipush 20, 2) := by decide +kernel
theorem d_M_swapRow_24 : decode b_M_swapRow 24 = .ok (.laload, 1) := by decide +kernel
theorem d_M_swapRow_25 : decode b_M_swapRow 25 = .ok (.iload_n 3, 1) := by decide +kernel
theorem d_M_swapRow_26 : decode b_M_swapRow 26 = .ok (.invokestatic 126, 3) := by decide +kernel
theorem d_M_swapRow_29 : decode b_M_swapRow 29 = .ok (.lastore, 1) := by decide +kernel
theorem d_M_swapRow_30 : decode b_M_swapRow 30 = .ok (.aload_n 0, 1) := by decide +kernel
theorem d_M_swapRow_31 : decode b_M_swapRow 31 = .ok (.getfield 13, 3) := by decide +kernel
theorem d_M_swapRow_34 : decode b_M_swapRow 34 = .ok (.iload_n 2, 1) := by decide +kernel
theorem d_M_swapRow_35 : decode b_M_swapRow 35 = .ok (.aload_n 0, 1) := by decide +kernel
theorem d_M_swapRow_36 : decode b_M_swapRow 36 = .ok (.getfield 13, 3) := by decide +kernel
theorem d_M_swapRow_39 : decode b_M_swapRow 39 = .ok (.bipush 20, 2) := by decide +kernel
theorem d_M_swapRow_41 : decode b_M_swapRow 41 = .ok (.laload, 1) := by decide +kernel
theorem d_M_swapRow_42 : decode b_M_swapRow 42 = .ok (.iload_n 3, 1) := by decide +kernel
theorem d_M_swapRow_43 : decode b_M_swapRow 43 = .ok (.invokestatic 126, 3) := by decide +kernel
theorem d_M_swapRow_46 : decode b_M_swapRow 46 = .ok (.lastore, 1) := by decide +kernel
theorem d_M_swapRow_47 : decode b_M_swapRow 47 = .ok (.aload_n 0, 1) := by decide +kernel
theorem d_M_swapRow_48 : decode b_M_swapRow 48 = .ok (.iload_n 2, 1) := by decide +kernel
theorem d_M_swapRow_49 : decode b_M_swapRow 49 = .ok (.invokevirtual 113, 3) := by decide +kernel
theorem d_M_swapRow_52 : decode b_M_swapRow 52 = .ok (.return_, 1) := by decide +kernel
def f_M_swapRow_49g (r0 : (Nat → VV)) (p1 : Nat) (p2 : Nat) (p3 : Int32) (g49 : (Nat → VV)) : (Nat → VV) := g49
def f_M_swapRow_46u (r0 : (Nat → VV)) (p1 : Nat) (p2 : Nat) (p3 : Int32) (r46n : (Nat → VV)) : (Nat → VV) := f_M_swapRow_49g r0 p1 p2 p3 (f_M_tighten r46n p2)
def f_M_swapRow_29u (r0 : (Nat → VV)) (p1 : Nat) (p2 : Nat) (p3 : Int32) (r29n : (Nat → VV)) : (Nat → VV) := f_M_swapRow_46u r0 p1 p2 p3 (u2 r29n p2 (f_M_swapped ((r29n 20).2.1) p3))
def f_M_swapRow_10g (r0 : (Nat → VV)) (p1 : Nat) (p2 : Nat) (p3 : Int32) (g10 : (Nat → VV)) : (Nat → VV) := f_M_swapRow_29u r0 p1 p2 p3 (u1 g10 p2 (f_M_swapped ((g10 20).1) p3))
def f_M_swapRow_5g (r0 : (Nat → VV)) (p1 : Nat) (p2 : Nat) (p3 : Int32) (g5 : (Nat → VV)) : (Nat → VV) := f_M_swapRow_10g r0 p1 p2 p3 (f_M_nothingSaid g5 p2)
def f_M_swapRow (r0 : (Nat → VV)) (p1 : Nat) (p2 : Nat) (p3 : Int32) : (Nat → VV) := f_M_swapRow_5g r0 p1 p2 p3 (f_M_cutRow r0 p1 20 p3)
set_option maxRecDepth 100000 in
set_option maxHeartbeats 4000000 in
theorem c_M_swapRow (l : Launch) (dC : Nat → ClassId) (dI : Nat → Nat → Nat) (ad : Nat → Nat) (cJ cZ : ClassId) (sz : Nat) (c0 : Int32) (r0 : (Nat → VV)) (w0 : (Nat → Int64)) (s0 : Int32) (p1 : Nat) (p2 : Nat) (p3 : Int32) (b1 : p1 < 24) (b2 : p2 < 24) (h64 : p3 ≤ 64) : Met l y_M_swapRow w_M_swapRow ({ frames := 7, cells := 0, slots := 0, locals := 208 } : Room) (va_Pc [.ref (ad 0), .int (nI p1), .int (nI p2), .int (p3)] (nP (dC, dI) (mT cJ cZ) (mW ad cJ cZ c0 r0 w0 s0) sz)) (va_Qv (fun _ : Unit => True) (mB (dC, dI) (va_A (mW ad cJ cZ c0 r0 w0 s0) sz) (mW ad cJ cZ c0 (f_M_swapRow r0 p1 p2 p3) w0 s0)) (va_A (mW ad cJ cZ c0 r0 w0 s0) sz)) 0 0 (va_A (mW ad cJ cZ c0 r0 w0 s0) sz) := by
  refine Met.ofW (cc := b_M_swapRow) (maxL := 4) (ret := none) (by decide) rfl ?_
  intro p e s m args below meth c s₁ B hml hv
  obtain ⟨rfl, hsz, hP, hK, hD0⟩ := hv
  have hx := B.exec
  have hb := B.bytes
  have hr := B.returns
  have hts := atoms_spec (ws := w_M_swapRow) B.pre
  have hG : ∀ w ∈ gM, w.before _ s = true := fun w h => hts w (List.mem_cons_of_mem _ h)
  have hown : s.vm.findClass R_M = some m.cls := findClass_of_methodNamed B.named
  have hlocks := B.notSynchronized
  subst hsz
  have hD := hD0.self (sz := s.heap.size)
  generalize hAe : va_A (mW ad cJ cZ c0 r0 w0 s0) s.heap.size = A at hD ⊢
  have hA : ∀ q : Nat, s.heap.size ≤ q → A q := fun q h => by rw [← hAe]; exact Or.inr h
  have hS : va_S A s.heap s.heap [] := va_S.rf
  have hl := lv_entry ([.ref (ad 0), .int (nI p1), .int (nI p2), .int (p3)]) (n := 4) (Nat.le_of_ble_eq_true rfl)
  rw [lg_entry_eq]
  generalize (lg_sl ([.ref (ad 0), .int (nI p1), .int (nI p2), .int (p3)]) ++ List.replicate (4 - (lg_sl ([.ref (ad 0), .int (nI p1), .int (nI p2), .int (p3)])).length) Slot.unset).toArray = ls at hl ⊢
  have hl : lv_has ls 4 [(0, .ref (ad 0)), (1, .int (nI p1)), (2, .int (nI p2)), (3, .int (p3))] := hl
  have K49g : ∀ (g49 : (Nat → VV)) (hj : f_M_swapRow r0 p1 p2 p3 = f_M_swapRow_49g r0 p1 p2 p3 g49) (H : Heap) (locs : List Loc) (hP : va_P (dC, dI) classes (mW ad cJ cZ c0 g49 w0 s0) H) (hD : va_D A (mW ad cJ cZ c0 g49 w0 s0)) (hS : va_S A s.heap H locs) (ls : Array Slot) (hl : lv_has ls 4 []), W p l e (headSpec w_M_swapRow ({ frames := 7, cells := 0, slots := 0, locals := 208 } : Room)).room s m ([.ref (ad 0), .int (nI p1), .int (nI p2), .int (p3)] : List Value).toArray below meth c H locs 0 0 (MQ below (va_Qv (fun _ : Unit => True) (mB (dC, dI) A (mW ad cJ cZ c0 (f_M_swapRow r0 p1 p2 p3) w0 s0)) A) ([.ref (ad 0), .int (nI p1), .int (nI p2), .int (p3)] : List Value).toArray s 0 0 A) (F0 m 52 ls []) := by
    intro g49 hj H locs hP hD hS ls hl
    have fe : f_M_swapRow r0 p1 p2 p3 = g49 := hj.trans rfl
    exact W.vret hx hb hr (fun t ht hW => ⟨⟨(), rfl, trivial, by rw [ht, fe]; exact hP, by rw [fe]; exact hD⟩, hS.F ht⟩) hS.2.2 d_M_swapRow_52
  have K46u : ∀ (r46n : (Nat → VV)) (hj : f_M_swapRow r0 p1 p2 p3 = f_M_swapRow_46u r0 p1 p2 p3 r46n) (H : Heap) (locs : List Loc) (hP : va_P (dC, dI) classes (mW ad cJ cZ c0 r46n w0 s0) H) (hD : va_D A (mW ad cJ cZ c0 r46n w0 s0)) (hS : va_S A s.heap H locs) (ls : Array Slot) (hl : lv_has ls 4 [(0, .ref (ad 0)), (2, .int (nI p2))]), W p l e (headSpec w_M_swapRow ({ frames := 7, cells := 0, slots := 0, locals := 208 } : Room)).room s m ([.ref (ad 0), .int (nI p1), .int (nI p2), .int (p3)] : List Value).toArray below meth c H locs 0 0 (MQ below (va_Qv (fun _ : Unit => True) (mB (dC, dI) A (mW ad cJ cZ c0 (f_M_swapRow r0 p1 p2 p3) w0 s0)) A) ([.ref (ad 0), .int (nI p1), .int (nI p2), .int (p3)] : List Value).toArray s 0 0 A) (F0 m 47 ls []) := by
    intro r46n hj H locs hP hD hS ls hl
    refine lv_aload_n hx hb d_M_swapRow_47 rfl (lv_at hl 0 rfl) ?_
    refine lv_iload_n hx hb d_M_swapRow_48 rfl (lv_at hl 1 rfl) ?_
    refine mm_v (F := f_M_tighten r46n p2) (w1 := fun g49 => (mW ad cJ cZ c0 g49 w0 s0)) (va_runV (As := [.int (nI p2)]) (rest := []) ⟨hx, hb, hml, hown, hts⟩ (c_M_tighten l dC dI ad cJ cZ H.size c0 r46n w0 s0 p2 b2) (cwV 1 hts (gxV gx69 gx70 gx274 gx0 gx71) rfl rfl rfl (by decide +kernel) ⟨(Nat.le_of_ble_eq_true rfl), (Nat.le_of_ble_eq_true rfl)⟩) ⟨blp, va_recv hK hP (ci := 2) (q0 := 0) rfl rfl, fun U hU hW => ⟨rfl, by rw [hU], by rw [hU]; exact hP, va_K.moved hW.alike hK, hD.weaken (fun _ _ _ _ => trivial)⟩⟩ rfl rfl hl.1 rfl (lv_room (Nat.le_of_ble_eq_true rfl)) d_M_swapRow_49 ⟨Nat.zero_le _, Nat.zero_le _⟩) hD hS hA (fun g49 eg49 H locs hP hD hS => ?_)
    refine K49g g49 (Eq.trans (hj.trans rfl) (congrArg (fun g49 => f_M_swapRow_49g r0 p1 p2 p3 g49) eg49)) H locs ?_ ?_ hS ls (lv_sub hl [] rfl)
    · with_reducible exact hP
    · with_reducible exact hD
  have K29u : ∀ (r29n : (Nat → VV)) (hj : f_M_swapRow r0 p1 p2 p3 = f_M_swapRow_29u r0 p1 p2 p3 r29n) (H : Heap) (locs : List Loc) (hP : va_P (dC, dI) classes (mW ad cJ cZ c0 r29n w0 s0) H) (hD : va_D A (mW ad cJ cZ c0 r29n w0 s0)) (hS : va_S A s.heap H locs) (ls : Array Slot) (hl : lv_has ls 4 [(0, .ref (ad 0)), (2, .int (nI p2)), (3, .int (p3))]), W p l e (headSpec w_M_swapRow ({ frames := 7, cells := 0, slots := 0, locals := 208 } : Room)).room s m ([.ref (ad 0), .int (nI p1), .int (nI p2), .int (p3)] : List Value).toArray below meth c H locs 0 0 (MQ below (va_Qv (fun _ : Unit => True) (mB (dC, dI) A (mW ad cJ cZ c0 (f_M_swapRow r0 p1 p2 p3) w0 s0)) A) ([.ref (ad 0), .int (nI p1), .int (nI p2), .int (p3)] : List Value).toArray s 0 0 A) (F0 m 30 ls []) := by
    intro r29n hj H locs hP hD hS ls hl
    refine lv_aload_n hx hb d_M_swapRow_30 rfl (lv_at hl 0 rfl) ?_
    refine va_get (D := (dC, dI)) (ci := 2) (v := .ref (ad 2)) (C := R_M) (T := F_M) (N := 10) hx hb hts (fun w h => List.mem_cons_of_mem _ (uw_M w h)) hown hK hP 0 rfl rfl 2 (by decide) (hG (.fieldLink R_M 13 "ValueSieveModel" "open" "[J") gx11) (fun _ h9 => h9) rfl d_M_swapRow_31 ?_
    refine lv_iload_n hx hb d_M_swapRow_34 rfl (lv_at hl 1 rfl) ?_
    refine lv_aload_n hx hb d_M_swapRow_35 rfl (lv_at hl 0 rfl) ?_
    refine va_get (D := (dC, dI)) (ci := 2) (v := .ref (ad 2)) (C := R_M) (T := F_M) (N := 10) hx hb hts (fun w h => List.mem_cons_of_mem _ (uw_M w h)) hown hK hP 0 rfl rfl 2 (by decide) (hG (.fieldLink R_M 13 "ValueSieveModel" "open" "[J") gx11) (fun _ h9 => h9) rfl d_M_swapRow_36 ?_
    refine lv_bipush (v := 20) hx hb d_M_swapRow_39 (by decide) ?_
    refine ml_2 (P := 20) hx hb hK hP rfl (by decide) d_M_swapRow_41 ?_
    refine lv_iload_n hx hb d_M_swapRow_42 rfl (lv_at hl 2 rfl) ?_
    refine rc_l (W.runS (As := [.long ((r29n 20).2.1), .int (p3)]) (rest := [.int (nI p2), .ref (ad 2)]) ⟨hx, hb, hml, hown, hts⟩ (c_M_swapped l ((r29n 20).2.1) p3 h64) (va_cwS 2 hts (gxS gx117 gx118 gx0 gx119) rfl rfl rfl (by decide +kernel) ⟨(Nat.le_of_ble_eq_true rfl), (Nat.le_of_ble_eq_true rfl)⟩) ⟨bl0, fun U hU hW => ⟨rfl, trivial⟩⟩ rfl rfl hl.1 rfl (lv_room (Nat.le_of_ble_eq_true rfl)) d_M_swapRow_43 ⟨Nat.zero_le _, Nat.zero_le _⟩) ?_
    refine ms_2 (P := p2) (x := f_M_swapped ((r29n 20).2.1) p3) hx hb hK hP hD hS rfl b2 d_M_swapRow_46 (fun H locs hP hD hS => ?_)
    obtain ⟨r46n, er46n⟩ : ∃ z, z = u2 r29n p2 (f_M_swapped ((r29n 20).2.1) p3) := ⟨_, rfl⟩
    rw [← er46n] at hP hD
    refine K46u r46n (Eq.trans (hj.trans rfl) (congrArg (fun r46n => f_M_swapRow_46u r0 p1 p2 p3 r46n) er46n.symm)) H locs ?_ ?_ hS ls (lv_sub hl [0, 1] rfl)
    · with_reducible exact hP
    · with_reducible exact hD
  have K10g : ∀ (g10 : (Nat → VV)) (hj : f_M_swapRow r0 p1 p2 p3 = f_M_swapRow_10g r0 p1 p2 p3 g10) (H : Heap) (locs : List Loc) (hP : va_P (dC, dI) classes (mW ad cJ cZ c0 g10 w0 s0) H) (hD : va_D A (mW ad cJ cZ c0 g10 w0 s0)) (hS : va_S A s.heap H locs) (ls : Array Slot) (hl : lv_has ls 4 [(0, .ref (ad 0)), (2, .int (nI p2)), (3, .int (p3))]), W p l e (headSpec w_M_swapRow ({ frames := 7, cells := 0, slots := 0, locals := 208 } : Room)).room s m ([.ref (ad 0), .int (nI p1), .int (nI p2), .int (p3)] : List Value).toArray below meth c H locs 0 0 (MQ below (va_Qv (fun _ : Unit => True) (mB (dC, dI) A (mW ad cJ cZ c0 (f_M_swapRow r0 p1 p2 p3) w0 s0)) A) ([.ref (ad 0), .int (nI p1), .int (nI p2), .int (p3)] : List Value).toArray s 0 0 A) (F0 m 13 ls []) := by
    intro g10 hj H locs hP hD hS ls hl
    refine lv_aload_n hx hb d_M_swapRow_13 rfl (lv_at hl 0 rfl) ?_
    refine va_get (D := (dC, dI)) (ci := 2) (v := .ref (ad 1)) (C := R_M) (T := F_M) (N := 10) hx hb hts (fun w h => List.mem_cons_of_mem _ (uw_M w h)) hown hK hP 0 rfl rfl 1 (by decide) (hG (.fieldLink R_M 7 "ValueSieveModel" "bits" "[J") gx10) (fun _ h9 => h9) rfl d_M_swapRow_14 ?_
    refine lv_iload_n hx hb d_M_swapRow_17 rfl (lv_at hl 1 rfl) ?_
    refine lv_aload_n hx hb d_M_swapRow_18 rfl (lv_at hl 0 rfl) ?_
    refine va_get (D := (dC, dI)) (ci := 2) (v := .ref (ad 1)) (C := R_M) (T := F_M) (N := 10) hx hb hts (fun w h => List.mem_cons_of_mem _ (uw_M w h)) hown hK hP 0 rfl rfl 1 (by decide) (hG (.fieldLink R_M 7 "ValueSieveModel" "bits" "[J") gx10) (fun _ h9 => h9) rfl d_M_swapRow_19 ?_
    refine lv_bipush (v := 20) hx hb d_M_swapRow_22 (by decide) ?_
    refine ml_1 (P := 20) hx hb hK hP rfl (by decide) d_M_swapRow_24 ?_
    refine lv_iload_n hx hb d_M_swapRow_25 rfl (lv_at hl 2 rfl) ?_
    refine rc_l (W.runS (As := [.long ((g10 20).1), .int (p3)]) (rest := [.int (nI p2), .ref (ad 1)]) ⟨hx, hb, hml, hown, hts⟩ (c_M_swapped l ((g10 20).1) p3 h64) (va_cwS 2 hts (gxS gx117 gx118 gx0 gx119) rfl rfl rfl (by decide +kernel) ⟨(Nat.le_of_ble_eq_true rfl), (Nat.le_of_ble_eq_true rfl)⟩) ⟨bl0, fun U hU hW => ⟨rfl, trivial⟩⟩ rfl rfl hl.1 rfl (lv_room (Nat.le_of_ble_eq_true rfl)) d_M_swapRow_26 ⟨Nat.zero_le _, Nat.zero_le _⟩) ?_
    refine ms_1 (P := p2) (x := f_M_swapped ((g10 20).1) p3) hx hb hK hP hD hS rfl b2 d_M_swapRow_29 (fun H locs hP hD hS => ?_)
    obtain ⟨r29n, er29n⟩ : ∃ z, z = u1 g10 p2 (f_M_swapped ((g10 20).1) p3) := ⟨_, rfl⟩
    rw [← er29n] at hP hD
    refine K29u r29n (Eq.trans (hj.trans rfl) (congrArg (fun r29n => f_M_swapRow_29u r0 p1 p2 p3 r29n) er29n.symm)) H locs ?_ ?_ hS ls (lv_sub hl [0, 1, 2] rfl)
    · with_reducible exact hP
    · with_reducible exact hD
  have K5g : ∀ (g5 : (Nat → VV)) (hj : f_M_swapRow r0 p1 p2 p3 = f_M_swapRow_5g r0 p1 p2 p3 g5) (H : Heap) (locs : List Loc) (hP : va_P (dC, dI) classes (mW ad cJ cZ c0 g5 w0 s0) H) (hD : va_D A (mW ad cJ cZ c0 g5 w0 s0)) (hS : va_S A s.heap H locs) (ls : Array Slot) (hl : lv_has ls 4 [(0, .ref (ad 0)), (2, .int (nI p2)), (3, .int (p3))]), W p l e (headSpec w_M_swapRow ({ frames := 7, cells := 0, slots := 0, locals := 208 } : Room)).room s m ([.ref (ad 0), .int (nI p1), .int (nI p2), .int (p3)] : List Value).toArray below meth c H locs 0 0 (MQ below (va_Qv (fun _ : Unit => True) (mB (dC, dI) A (mW ad cJ cZ c0 (f_M_swapRow r0 p1 p2 p3) w0 s0)) A) ([.ref (ad 0), .int (nI p1), .int (nI p2), .int (p3)] : List Value).toArray s 0 0 A) (F0 m 8 ls []) := by
    intro g5 hj H locs hP hD hS ls hl
    refine lv_aload_n hx hb d_M_swapRow_8 rfl (lv_at hl 0 rfl) ?_
    refine lv_iload_n hx hb d_M_swapRow_9 rfl (lv_at hl 1 rfl) ?_
    refine mm_v (F := f_M_nothingSaid g5 p2) (w1 := fun g10 => (mW ad cJ cZ c0 g10 w0 s0)) (va_runV (As := [.int (nI p2)]) (rest := []) ⟨hx, hb, hml, hown, hts⟩ (c_M_nothingSaid l dC dI ad cJ cZ H.size c0 g5 w0 s0 p2 b2) (cwV 1 hts (gxV gx39 gx40 gx267 gx0 gx41) rfl rfl rfl (by decide +kernel) ⟨(Nat.le_of_ble_eq_true rfl), (Nat.le_of_ble_eq_true rfl)⟩) ⟨blp, va_recv hK hP (ci := 2) (q0 := 0) rfl rfl, fun U hU hW => ⟨rfl, by rw [hU], by rw [hU]; exact hP, va_K.moved hW.alike hK, hD.weaken (fun _ _ _ _ => trivial)⟩⟩ rfl rfl hl.1 rfl (lv_room (Nat.le_of_ble_eq_true rfl)) d_M_swapRow_10 ⟨Nat.zero_le _, Nat.zero_le _⟩) hD hS hA (fun g10 eg10 H locs hP hD hS => ?_)
    refine K10g g10 (Eq.trans (hj.trans rfl) (congrArg (fun g10 => f_M_swapRow_10g r0 p1 p2 p3 g10) eg10)) H locs ?_ ?_ hS ls (lv_sub hl [0, 1, 2] rfl)
    · with_reducible exact hP
    · with_reducible exact hD
  refine lv_aload_n hx hb d_M_swapRow_0 rfl (lv_at hl 0 rfl) ?_
  refine lv_iload_n hx hb d_M_swapRow_1 rfl (lv_at hl 1 rfl) ?_
  refine lv_bipush (v := 20) hx hb d_M_swapRow_2 (by decide) ?_
  refine lv_iload_n hx hb d_M_swapRow_4 rfl (lv_at hl 3 rfl) ?_
  refine mm_v (F := f_M_cutRow r0 p1 20 p3) (w1 := fun g5 => (mW ad cJ cZ c0 g5 w0 s0)) (va_runV (As := [.int (nI p1), .int (20), .int (p3)]) (rest := []) ⟨hx, hb, hml, hown, hts⟩ (c_M_cutRow l dC dI ad cJ cZ s.heap.size c0 r0 w0 s0 p1 20 p3 b1 (by decide)) (cwV 3 hts (gxV gx99 gx100 gx279 gx0 gx101) rfl rfl rfl (by decide +kernel) ⟨(Nat.le_of_ble_eq_true rfl), (Nat.le_of_ble_eq_true rfl)⟩) ⟨blp, va_recv hK hP (ci := 2) (q0 := 0) rfl rfl, fun U hU hW => ⟨rfl, by rw [hU], by rw [hU]; exact hP, va_K.moved hW.alike hK, hD.weaken (fun _ _ _ _ => trivial)⟩⟩ rfl rfl hl.1 rfl (lv_room (Nat.le_of_ble_eq_true rfl)) d_M_swapRow_5 ⟨Nat.zero_le _, Nat.zero_le _⟩) hD hS hA (fun g5 eg5 H locs hP hD hS => ?_)
  refine K5g g5 (Eq.trans (rfl) (congrArg (fun g5 => f_M_swapRow_5g r0 p1 p2 p3 g5) eg5)) H locs ?_ ?_ hS ls (lv_sub hl [0, 2, 3] rfl)
  · with_reducible exact hP
  · with_reducible exact hD
