-- refine
theorem d_M_refine_0 : decode b_M_refine 0 = .ok (.aload_n 0, 1) := by decide +kernel
theorem d_M_refine_1 : decode b_M_refine 1 = .ok (.bipush 16, 2) := by decide +kernel
theorem d_M_refine_3 : decode b_M_refine 3 = .ok (.bipush 19, 2) := by decide +kernel
theorem d_M_refine_5 : decode b_M_refine 5 = .ok (.invokevirtual 90, 3) := by decide +kernel
theorem d_M_refine_8 : decode b_M_refine 8 = .ok (.aload_n 0, 1) := by decide +kernel
theorem d_M_refine_9 : decode b_M_refine 9 = .ok (.bipush 17, 2) := by decide +kernel
theorem d_M_refine_11 : decode b_M_refine 11 = .ok (.bipush 20, 2) := by decide +kernel
theorem d_M_refine_13 : decode b_M_refine 13 = .ok (.invokevirtual 90, 3) := by decide +kernel
theorem d_M_refine_16 : decode b_M_refine 16 = .ok (.iload_n 1, 1) := by decide +kernel
theorem d_M_refine_17 : decode b_M_refine 17 = .ok (.tableswitch 468 0 10 #[59, 78, 119, 145, 171, 197, 223, 249, 275, 301, 327], 59) := by decide +kernel
theorem d_M_refine_76 : decode b_M_refine 76 = .ok (.aload_n 0, 1) := by decide +kernel
theorem d_M_refine_77 : decode b_M_refine 77 = .ok (.bipush 16, 2) := by decide +kernel
theorem d_M_refine_79 : decode b_M_refine 79 = .ok (.bipush 20, 2) := by decide +kernel
theorem d_M_refine_81 : decode b_M_refine 81 = .ok (.invokevirtual 211, 3) := by decide +kernel
theorem d_M_refine_84 : decode b_M_refine 84 = .ok (.aload_n 0, 1) := by decide +kernel
theorem d_M_refine_85 : decode b_M_refine 85 = .ok (.bipush 17, 2) := by decide +kernel
theorem d_M_refine_87 : decode b_M_refine 87 = .ok (.bipush 19, 2) := by decide +kernel
theorem d_M_refine_89 : decode b_M_refine 89 = .ok (.invokevirtual 211, 3) := by decide +kernel
theorem d_M_refine_92 : decode b_M_refine 92 = .ok (.goto 489, 3) := by decide +kernel
theorem d_M_refine_95 : decode b_M_refine 95 = .ok (.aload_n 0, 1) := by decide +kernel
theorem d_M_refine_96 : decode b_M_refine 96 = .ok (.bipush 16, 2) := by decide +kernel
theorem d_M_refine_98 : decode b_M_refine 98 = .ok (.aload_n 0, 1) := by decide +kernel
theorem d_M_refine_99 : decode b_M_refine 99 = .ok (.bipush 20, 2) := by decide +kernel
theorem d_M_refine_101 : decode b_M_refine 101 = .ok (.invokevirtual 159, 3) := by decide +kernel
theorem d_M_refine_104 : decode b_M_refine 104 = .ok (.aload_n 0, 1) := by decide +kernel
theorem d_M_refine_105 : decode b_M_refine 105 = .ok (.getfield 16, 3) := by decide +kernel
theorem d_M_refine_108 : decode b_M_refine 108 = .ok (.bipush 20, 2) := by decide +kernel
theorem d_M_refine_110 : decode b_M_refine 110 = .ok (.laload, 1) := by decide +kernel
theorem d_M_refine_111 : decode b_M_refine 111 = .ok (.invokevirtual 214, 3) := by decide +kernel
theorem d_M_refine_114 : decode b_M_refine 114 = .ok (.aload_n 0, 1) := by decide +kernel
theorem d_M_refine_115 : decode b_M_refine 115 = .ok (.bipush 17, 2) := by decide +kernel
theorem d_M_refine_117 : decode b_M_refine 117 = .ok (.aload_n 0, 1) := by decide +kernel
theorem d_M_refine_118 : decode b_M_refine 118 = .ok (.bipush 19, 2) := by decide +kernel
theorem d_M_refine_120 : decode b_M_refine 120 = .ok (.invokevirtual 159, 3) := by decide +kernel
theorem d_M_refine_123 : decode b_M_refine 123 = .ok (.aload_n 0, 1) := by decide +kernel
theorem d_M_refine_124 : decode b_M_refine 124 = .ok (.getfield 16, 3) := by decide +kernel
theorem d_M_refine_127 : decode b_M_refine 127 = .ok (.bipush 19, 2) := by decide +kernel
theorem d_M_refine_129 : decode b_M_refine 129 = .ok (.laload, 1) := by decide +kernel
theorem d_M_refine_130 : decode b_M_refine 130 = .ok (.invokevirtual 214, 3) := by decide +kernel
theorem d_M_refine_133 : decode b_M_refine 133 = .ok (.goto 448, 3) := by decide +kernel
theorem d_M_refine_136 : decode b_M_refine 136 = .ok (.aload_n 0, 1) := by decide +kernel
theorem d_M_refine_137 : decode b_M_refine 137 = .ok (.bipush 16, 2) := by decide +kernel
theorem d_M_refine_139 : decode b_M_refine 139 = .ok (.bipush 17, 2) := by decide +kernel
theorem d_M_refine_141 : decode b_M_refine 141 = .ok (.aload_n 0, 1) := by decide +kernel
theorem d_M_refine_142 : decode b_M_refine 142 = .ok (.getfield 19, 3) := by decide +kernel
theorem d_M_refine_145 : decode b_M_refine 145 = .ok (.bipush 20, 2) := by decide +kernel
theorem d_M_refine_147 : decode b_M_refine 147 = .ok (.laload, 1) := by decide +kernel
theorem d_M_refine_148 : decode b_M_refine 148 = .ok (.aload_n 0, 1) := by decide +kernel
theorem d_M_refine_149 : decode b_M_refine 149 = .ok (.getfield 16, 3) := by decide +kernel
theorem d_M_refine_152 : decode b_M_refine 152 = .ok (.bipush 19, 2) := by decide +kernel
theorem d_M_refine_154 : decode b_M_refine 154 = .ok (.laload, 1) := by decide +kernel
theorem d_M_refine_155 : decode b_M_refine 155 = .ok (.iconst 1, 1) := by decide +kernel
theorem d_M_refine_156 : decode b_M_refine 156 = .ok (.invokevirtual 218, 3) := by decide +kernel
theorem d_M_refine_159 : decode b_M_refine 159 = .ok (.goto 422, 3) := by decide +kernel
theorem d_M_refine_162 : decode b_M_refine 162 = .ok (.aload_n 0, 1) := by decide +kernel
theorem d_M_refine_163 : decode b_M_refine 163 = .ok (.bipush 16, 2) := by decide +kernel
theorem d_M_refine_165 : decode b_M_refine 165 = .ok (.bipush 17, 2) := by decide +kernel
theorem d_M_refine_167 : decode b_M_refine 167 = .ok (.aload_n 0, 1) := by decide +kernel
theorem d_M_refine_168 : decode b_M_refine 168 = .ok (.getfield 19, 3) := by decide +kernel
theorem d_M_refine_171 : decode b_M_refine 171 = .ok (.bipush 20, 2) := by decide +kernel
theorem d_M_refine_173 : decode b_M_refine 173 = .ok (.laload, 1) := by decide +kernel
theorem d_M_refine_174 : decode b_M_refine 174 = .ok (.aload_n 0, 1) := by decide +kernel
theorem d_M_refine_175 : decode b_M_refine 175 = .ok (.getfield 16, 3) := by decide +kernel
theorem d_M_refine_178 : decode b_M_refine 178 = .ok (.bipush 19, 2) := by decide +kernel
theorem d_M_refine_180 : decode b_M_refine 180 = .ok (.laload, 1) := by decide +kernel
theorem d_M_refine_181 : decode b_M_refine 181 = .ok (.iconst 0, 1) := by decide +kernel
theorem d_M_refine_182 : decode b_M_refine 182 = .ok (.invokevirtual 218, 3) := by decide +kernel
theorem d_M_refine_185 : decode b_M_refine 185 = .ok (.goto 396, 3) := by decide +kernel
theorem d_M_refine_188 : decode b_M_refine 188 = .ok (.aload_n 0, 1) := by decide +kernel
theorem d_M_refine_189 : decode b_M_refine 189 = .ok (.bipush 17, 2) := by decide +kernel
theorem d_M_refine_191 : decode b_M_refine 191 = .ok (.bipush 16, 2) := by decide +kernel
theorem d_M_refine_193 : decode b_M_refine 193 = .ok (.aload_n 0, 1) := by decide +kernel
theorem d_M_refine_194 : decode b_M_refine 194 = .ok (.getfield 19, 3) := by decide +kernel
theorem d_M_refine_197 : decode b_M_refine 197 = .ok (.bipush 19, 2) := by decide +kernel
theorem d_M_refine_199 : decode b_M_refine 199 = .ok (.laload, 1) := by decide +kernel
theorem d_M_refine_200 : decode b_M_refine 200 = .ok (.aload_n 0, 1) := by decide +kernel
theorem d_M_refine_201 : decode b_M_refine 201 = .ok (.getfield 16, 3) := by decide +kernel
theorem d_M_refine_204 : decode b_M_refine 204 = .ok (.bipush 20, 2) := by decide +kernel
theorem d_M_refine_206 : decode b_M_refine 206 = .ok (.laload, 1) := by decide +kernel
theorem d_M_refine_207 : decode b_M_refine 207 = .ok (.iconst 1, 1) := by decide +kernel
theorem d_M_refine_208 : decode b_M_refine 208 = .ok (.invokevirtual 218, 3) := by decide +kernel
theorem d_M_refine_211 : decode b_M_refine 211 = .ok (.goto 370, 3) := by decide +kernel
theorem d_M_refine_214 : decode b_M_refine 214 = .ok (.aload_n 0, 1) := by decide +kernel
theorem d_M_refine_215 : decode b_M_refine 215 = .ok (.bipush 17, 2) := by decide +kernel
theorem d_M_refine_217 : decode b_M_refine 217 = .ok (.bipush 16, 2) := by decide +kernel
theorem d_M_refine_219 : decode b_M_refine 219 = .ok (.aload_n 0, 1) := by decide +kernel
theorem d_M_refine_220 : decode b_M_refine 220 = .ok (.getfield 19, 3) := by decide +kernel
theorem d_M_refine_223 : decode b_M_refine 223 = .ok (.bipush 19, 2) := by decide +kernel
theorem d_M_refine_225 : decode b_M_refine 225 = .ok (.laload, 1) := by decide +kernel
theorem d_M_refine_226 : decode b_M_refine 226 = .ok (.aload_n 0, 1) := by decide +kernel
theorem d_M_refine_227 : decode b_M_refine 227 = .ok (.getfield 16, 3) := by decide +kernel
theorem d_M_refine_230 : decode b_M_refine 230 = .ok (.bipush 20, 2) := by decide +kernel
theorem d_M_refine_232 : decode b_M_refine 232 = .ok (.laload, 1) := by decide +kernel
theorem d_M_refine_233 : decode b_M_refine 233 = .ok (.iconst 0, 1) := by decide +kernel
theorem d_M_refine_234 : decode b_M_refine 234 = .ok (.invokevirtual 218, 3) := by decide +kernel
theorem d_M_refine_237 : decode b_M_refine 237 = .ok (.goto 344, 3) := by decide +kernel
theorem d_M_refine_240 : decode b_M_refine 240 = .ok (.aload_n 0, 1) := by decide +kernel
theorem d_M_refine_241 : decode b_M_refine 241 = .ok (.bipush 16, 2) := by decide +kernel
theorem d_M_refine_243 : decode b_M_refine 243 = .ok (.bipush 17, 2) := by decide +kernel
theorem d_M_refine_245 : decode b_M_refine 245 = .ok (.aload_n 0, 1) := by decide +kernel
theorem d_M_refine_246 : decode b_M_refine 246 = .ok (.getfield 25, 3) := by decide +kernel
theorem d_M_refine_249 : decode b_M_refine 249 = .ok (.bipush 20, 2) := by decide +kernel
theorem d_M_refine_251 : decode b_M_refine 251 = .ok (.laload, 1) := by decide +kernel
theorem d_M_refine_252 : decode b_M_refine 252 = .ok (.aload_n 0, 1) := by decide +kernel
theorem d_M_refine_253 : decode b_M_refine 253 = .ok (.getfield 22, 3) := by decide +kernel
theorem d_M_refine_256 : decode b_M_refine 256 = .ok (.bipush 19, 2) := by decide +kernel
theorem d_M_refine_258 : decode b_M_refine 258 = .ok (.laload, 1) := by decide +kernel
theorem d_M_refine_259 : decode b_M_refine 259 = .ok (.iconst 1, 1) := by decide +kernel
theorem d_M_refine_260 : decode b_M_refine 260 = .ok (.invokevirtual 222, 3) := by decide +kernel
theorem d_M_refine_263 : decode b_M_refine 263 = .ok (.goto 318, 3) := by decide +kernel
theorem d_M_refine_266 : decode b_M_refine 266 = .ok (.aload_n 0, 1) := by decide +kernel
theorem d_M_refine_267 : decode b_M_refine 267 = .ok (.bipush 16, 2) := by decide +kernel
theorem d_M_refine_269 : decode b_M_refine 269 = .ok (.bipush 17, 2) := by decide +kernel
theorem d_M_refine_271 : decode b_M_refine 271 = .ok (.aload_n 0, 1) := by decide +kernel
theorem d_M_refine_272 : decode b_M_refine 272 = .ok (.getfield 25, 3) := by decide +kernel
theorem d_M_refine_275 : decode b_M_refine 275 = .ok (.bipush 20, 2) := by decide +kernel
theorem d_M_refine_277 : decode b_M_refine 277 = .ok (.laload, 1) := by decide +kernel
theorem d_M_refine_278 : decode b_M_refine 278 = .ok (.aload_n 0, 1) := by decide +kernel
theorem d_M_refine_279 : decode b_M_refine 279 = .ok (.getfield 22, 3) := by decide +kernel
theorem d_M_refine_282 : decode b_M_refine 282 = .ok (.bipush 19, 2) := by decide +kernel
theorem d_M_refine_284 : decode b_M_refine 284 = .ok (.laload, 1) := by decide +kernel
theorem d_M_refine_285 : decode b_M_refine 285 = .ok (.iconst 0, 1) := by decide +kernel
theorem d_M_refine_286 : decode b_M_refine 286 = .ok (.invokevirtual 222, 3) := by decide +kernel
theorem d_M_refine_289 : decode b_M_refine 289 = .ok (.goto 292, 3) := by decide +kernel
theorem d_M_refine_292 : decode b_M_refine 292 = .ok (.aload_n 0, 1) := by decide +kernel
theorem d_M_refine_293 : decode b_M_refine 293 = .ok (.bipush 17, 2) := by decide +kernel
theorem d_M_refine_295 : decode b_M_refine 295 = .ok (.bipush 16, 2) := by decide +kernel
theorem d_M_refine_297 : decode b_M_refine 297 = .ok (.aload_n 0, 1) := by decide +kernel
theorem d_M_refine_298 : decode b_M_refine 298 = .ok (.getfield 25, 3) := by decide +kernel
theorem d_M_refine_301 : decode b_M_refine 301 = .ok (.bipush 19, 2) := by decide +kernel
theorem d_M_refine_303 : decode b_M_refine 303 = .ok (.laload, 1) := by decide +kernel
theorem d_M_refine_304 : decode b_M_refine 304 = .ok (.aload_n 0, 1) := by decide +kernel
theorem d_M_refine_305 : decode b_M_refine 305 = .ok (.getfield 22, 3) := by decide +kernel
theorem d_M_refine_308 : decode b_M_refine 308 = .ok (.bipush 20, 2) := by decide +kernel
theorem d_M_refine_310 : decode b_M_refine 310 = .ok (.laload, 1) := by decide +kernel
theorem d_M_refine_311 : decode b_M_refine 311 = .ok (.iconst 1, 1) := by decide +kernel
theorem d_M_refine_312 : decode b_M_refine 312 = .ok (.invokevirtual 222, 3) := by decide +kernel
theorem d_M_refine_315 : decode b_M_refine 315 = .ok (.goto 266, 3) := by decide +kernel
theorem d_M_refine_318 : decode b_M_refine 318 = .ok (.aload_n 0, 1) := by decide +kernel
theorem d_M_refine_319 : decode b_M_refine 319 = .ok (.bipush 17, 2) := by decide +kernel
theorem d_M_refine_321 : decode b_M_refine 321 = .ok (.bipush 16, 2) := by decide +kernel
theorem d_M_refine_323 : decode b_M_refine 323 = .ok (.aload_n 0, 1) := by decide +kernel
theorem d_M_refine_324 : decode b_M_refine 324 = .ok (.getfield 25, 3) := by decide +kernel
theorem d_M_refine_327 : decode b_M_refine 327 = .ok (.bipush 19, 2) := by decide +kernel
theorem d_M_refine_329 : decode b_M_refine 329 = .ok (.laload, 1) := by decide +kernel
theorem d_M_refine_330 : decode b_M_refine 330 = .ok (.aload_n 0, 1) := by decide +kernel
theorem d_M_refine_331 : decode b_M_refine 331 = .ok (.getfield 22, 3) := by decide +kernel
theorem d_M_refine_334 : decode b_M_refine 334 = .ok (.bipush 20, 2) := by decide +kernel
theorem d_M_refine_336 : decode b_M_refine 336 = .ok (.laload, 1) := by decide +kernel
theorem d_M_refine_337 : decode b_M_refine 337 = .ok (.iconst 0, 1) := by decide +kernel
theorem d_M_refine_338 : decode b_M_refine 338 = .ok (.invokevirtual 222, 3) := by decide +kernel
theorem d_M_refine_341 : decode b_M_refine 341 = .ok (.goto 240, 3) := by decide +kernel
theorem d_M_refine_344 : decode b_M_refine 344 = .ok (.aload_n 0, 1) := by decide +kernel
theorem d_M_refine_345 : decode b_M_refine 345 = .ok (.getfield 28, 3) := by decide +kernel
theorem d_M_refine_348 : decode b_M_refine 348 = .ok (.bipush 16, 2) := by decide +kernel
theorem d_M_refine_350 : decode b_M_refine 350 = .ok (.aload_n 0, 1) := by decide +kernel
theorem d_M_refine_351 : decode b_M_refine 351 = .ok (.getfield 28, 3) := by decide +kernel
theorem d_M_refine_354 : decode b_M_refine 354 = .ok (.bipush 16, 2) := by decide +kernel
theorem d_M_refine_356 : decode b_M_refine 356 = .ok (.baload, 1) := by decide +kernel
theorem d_M_refine_357 : decode b_M_refine 357 = .ok (.ifCond .ne 39, 3) := by decide +kernel
theorem d_M_refine_360 : decode b_M_refine 360 = .ok (.aload_n 0, 1) := by decide +kernel
theorem d_M_refine_361 : decode b_M_refine 361 = .ok (.getfield 7, 3) := by decide +kernel
theorem d_M_refine_364 : decode b_M_refine 364 = .ok (.bipush 19, 2) := by decide +kernel
theorem d_M_refine_366 : decode b_M_refine 366 = .ok (.laload, 1) := by decide +kernel
theorem d_M_refine_367 : decode b_M_refine 367 = .ok (.aload_n 0, 1) := by decide +kernel
theorem d_M_refine_368 : decode b_M_refine 368 = .ok (.getfield 13, 3) := by decide +kernel
theorem d_M_refine_371 : decode b_M_refine 371 = .ok (.bipush 19, 2) := by decide +kernel
theorem d_M_refine_373 : decode b_M_refine 373 = .ok (.laload, 1) := by decide +kernel
theorem d_M_refine_374 : decode b_M_refine 374 = .ok (.lor, 1) := by decide +kernel
theorem d_M_refine_375 : decode b_M_refine 375 = .ok (.aload_n 0, 1) := by decide +kernel
theorem d_M_refine_376 : decode b_M_refine 376 = .ok (.getfield 7, 3) := by decide +kernel
theorem d_M_refine_379 : decode b_M_refine 379 = .ok (.bipush 20, 2) := by decide +kernel
theorem d_M_refine_381 : decode b_M_refine 381 = .ok (.laload, 1) := by decide +kernel
theorem d_M_refine_382 : decode b_M_refine 382 = .ok (.aload_n 0, 1) := by decide +kernel
theorem d_M_refine_383 : decode b_M_refine 383 = .ok (.getfield 13, 3) := by decide +kernel
theorem d_M_refine_386 : decode b_M_refine 386 = .ok (.bipush 20, 2) := by decide +kernel
theorem d_M_refine_388 : decode b_M_refine 388 = .ok (.laload, 1) := by decide +kernel
theorem d_M_refine_389 : decode b_M_refine 389 = .ok (.lor, 1) := by decide +kernel
theorem d_M_refine_390 : decode b_M_refine 390 = .ok (.land, 1) := by decide +kernel
theorem d_M_refine_391 : decode b_M_refine 391 = .ok (.lconst 0, 1) := by decide +kernel
theorem d_M_refine_392 : decode b_M_refine 392 = .ok (.lcmp, 1) := by decide +kernel
theorem d_M_refine_393 : decode b_M_refine 393 = .ok (.ifCond .ne 7, 3) := by decide +kernel
theorem d_M_refine_396 : decode b_M_refine 396 = .ok (.iconst 1, 1) := by decide +kernel
theorem d_M_refine_397 : decode b_M_refine 397 = .ok (.goto 4, 3) := by decide +kernel
theorem d_M_refine_400 : decode b_M_refine 400 = .ok (.iconst 0, 1) := by decide +kernel
theorem d_M_refine_401 : decode b_M_refine 401 = .ok (.bastore, 1) := by decide +kernel
theorem d_M_refine_402 : decode b_M_refine 402 = .ok (.aload_n 0, 1) := by decide +kernel
theorem d_M_refine_403 : decode b_M_refine 403 = .ok (.bipush 16, 2) := by decide +kernel
theorem d_M_refine_405 : decode b_M_refine 405 = .ok (.aload_n 0, 1) := by decide +kernel
theorem d_M_refine_406 : decode b_M_refine 406 = .ok (.bipush 20, 2) := by decide +kernel
theorem d_M_refine_408 : decode b_M_refine 408 = .ok (.invokevirtual 159, 3) := by decide +kernel
theorem d_M_refine_411 : decode b_M_refine 411 = .ok (.ifCond .eq 26, 3) := by decide +kernel
theorem d_M_refine_414 : decode b_M_refine 414 = .ok (.aload_n 0, 1) := by decide +kernel
theorem d_M_refine_415 : decode b_M_refine 415 = .ok (.getfield 16, 3) := by decide +kernel
theorem d_M_refine_418 : decode b_M_refine 418 = .ok (.bipush 20, 2) := by decide +kernel
theorem d_M_refine_420 : decode b_M_refine 420 = .ok (.laload, 1) := by decide +kernel
theorem d_M_refine_421 : decode b_M_refine 421 = .ok (.invokestatic 225, 3) := by decide +kernel
theorem d_M_refine_424 : decode b_M_refine 424 = .ok (.ifCond .eq 13, 3) := by decide +kernel
theorem d_M_refine_427 : decode b_M_refine 427 = .ok (.aload_n 0, 1) := by decide +kernel
theorem d_M_refine_428 : decode b_M_refine 428 = .ok (.getfield 16, 3) := by decide +kernel
theorem d_M_refine_431 : decode b_M_refine 431 = .ok (.bipush 20, 2) := by decide +kernel
theorem d_M_refine_433 : decode b_M_refine 433 = .ok (.laload, 1) := by decide +kernel
theorem d_M_refine_434 : decode b_M_refine 434 = .ok (.goto 4, 3) := by decide +kernel
theorem d_M_refine_437 : decode b_M_refine 437 = .ok (.lconst 0, 1) := by decide +kernel
theorem d_M_refine_438 : decode b_M_refine 438 = .ok (.lconst 0, 1) := by decide +kernel
theorem d_M_refine_439 : decode b_M_refine 439 = .ok (.invokevirtual 229, 3) := by decide +kernel
theorem d_M_refine_442 : decode b_M_refine 442 = .ok (.aload_n 0, 1) := by decide +kernel
theorem d_M_refine_443 : decode b_M_refine 443 = .ok (.bipush 17, 2) := by decide +kernel
theorem d_M_refine_445 : decode b_M_refine 445 = .ok (.aload_n 0, 1) := by decide +kernel
theorem d_M_refine_446 : decode b_M_refine 446 = .ok (.bipush 19, 2) := by decide +kernel
theorem d_M_refine_448 : decode b_M_refine 448 = .ok (.invokevirtual 159, 3) := by decide +kernel
theorem d_M_refine_451 : decode b_M_refine 451 = .ok (.ifCond .eq 26, 3) := by decide +kernel
theorem d_M_refine_454 : decode b_M_refine 454 = .ok (.aload_n 0, 1) := by decide +kernel
theorem d_M_refine_455 : decode b_M_refine 455 = .ok (.getfield 16, 3) := by decide +kernel
theorem d_M_refine_458 : decode b_M_refine 458 = .ok (.bipush 19, 2) := by decide +kernel
theorem d_M_refine_460 : decode b_M_refine 460 = .ok (.laload, 1) := by decide +kernel
theorem d_M_refine_461 : decode b_M_refine 461 = .ok (.invokestatic 225, 3) := by decide +kernel
theorem d_M_refine_464 : decode b_M_refine 464 = .ok (.ifCond .eq 13, 3) := by decide +kernel
theorem d_M_refine_467 : decode b_M_refine 467 = .ok (.aload_n 0, 1) := by decide +kernel
theorem d_M_refine_468 : decode b_M_refine 468 = .ok (.getfield 16, 3) := by decide +kernel
theorem d_M_refine_471 : decode b_M_refine 471 = .ok (.bipush 19, 2) := by decide +kernel
theorem d_M_refine_473 : decode b_M_refine 473 = .ok (.laload, 1) := by decide +kernel
theorem d_M_refine_474 : decode b_M_refine 474 = .ok (.goto 4, 3) := by decide +kernel
theorem d_M_refine_477 : decode b_M_refine 477 = .ok (.lconst 0, 1) := by decide +kernel
theorem d_M_refine_478 : decode b_M_refine 478 = .ok (.lconst 0, 1) := by decide +kernel
theorem d_M_refine_479 : decode b_M_refine 479 = .ok (.invokevirtual 229, 3) := by decide +kernel
theorem d_M_refine_482 : decode b_M_refine 482 = .ok (.goto 99, 3) := by decide +kernel
theorem d_M_refine_485 : decode b_M_refine 485 = .ok (.aload_n 0, 1) := by decide +kernel
theorem d_M_refine_486 : decode b_M_refine 486 = .ok (.getfield 28, 3) := by decide +kernel
theorem d_M_refine_489 : decode b_M_refine 489 = .ok (.bipush 16, 2) := by decide +kernel
theorem d_M_refine_491 : decode b_M_refine 491 = .ok (.aload_n 0, 1) := by decide +kernel
theorem d_M_refine_492 : decode b_M_refine 492 = .ok (.getfield 28, 3) := by decide +kernel
theorem d_M_refine_495 : decode b_M_refine 495 = .ok (.bipush 16, 2) := by decide +kernel
theorem d_M_refine_497 : decode b_M_refine 497 = .ok (.baload, 1) := by decide +kernel
theorem d_M_refine_498 : decode b_M_refine 498 = .ok (.ifCond .ne 23, 3) := by decide +kernel
theorem d_M_refine_501 : decode b_M_refine 501 = .ok (.aload_n 0, 1) := by decide +kernel
theorem d_M_refine_502 : decode b_M_refine 502 = .ok (.getfield 7, 3) := by decide +kernel
theorem d_M_refine_505 : decode b_M_refine 505 = .ok (.bipush 19, 2) := by decide +kernel
theorem d_M_refine_507 : decode b_M_refine 507 = .ok (.laload, 1) := by decide +kernel
theorem d_M_refine_508 : decode b_M_refine 508 = .ok (.aload_n 0, 1) := by decide +kernel
theorem d_M_refine_509 : decode b_M_refine 509 = .ok (.getfield 7, 3) := by decide +kernel
theorem d_M_refine_512 : decode b_M_refine 512 = .ok (.bipush 20, 2) := by decide +kernel
theorem d_M_refine_514 : decode b_M_refine 514 = .ok (.laload, 1) := by decide +kernel
theorem d_M_refine_515 : decode b_M_refine 515 = .ok (.land, 1) := by decide +kernel
theorem d_M_refine_516 : decode b_M_refine 516 = .ok (.lconst 0, 1) := by decide +kernel
theorem d_M_refine_517 : decode b_M_refine 517 = .ok (.lcmp, 1) := by decide +kernel
theorem d_M_refine_518 : decode b_M_refine 518 = .ok (.ifCond .eq 7, 3) := by decide +kernel
theorem d_M_refine_521 : decode b_M_refine 521 = .ok (.iconst 1, 1) := by decide +kernel
theorem d_M_refine_522 : decode b_M_refine 522 = .ok (.goto 4, 3) := by decide +kernel
theorem d_M_refine_525 : decode b_M_refine 525 = .ok (.iconst 0, 1) := by decide +kernel
theorem d_M_refine_526 : decode b_M_refine 526 = .ok (.bastore, 1) := by decide +kernel
theorem d_M_refine_527 : decode b_M_refine 527 = .ok (.aload_n 0, 1) := by decide +kernel
theorem d_M_refine_528 : decode b_M_refine 528 = .ok (.bipush 16, 2) := by decide +kernel
theorem d_M_refine_530 : decode b_M_refine 530 = .ok (.lconst 0, 1) := by decide +kernel
theorem d_M_refine_531 : decode b_M_refine 531 = .ok (.aload_n 0, 1) := by decide +kernel
theorem d_M_refine_532 : decode b_M_refine 532 = .ok (.bipush 20, 2) := by decide +kernel
theorem d_M_refine_534 : decode b_M_refine 534 = .ok (.invokevirtual 159, 3) := by decide +kernel
theorem d_M_refine_537 : decode b_M_refine 537 = .ok (.ifCond .eq 13, 3) := by decide +kernel
theorem d_M_refine_540 : decode b_M_refine 540 = .ok (.aload_n 0, 1) := by decide +kernel
theorem d_M_refine_541 : decode b_M_refine 541 = .ok (.getfield 16, 3) := by decide +kernel
theorem d_M_refine_544 : decode b_M_refine 544 = .ok (.bipush 20, 2) := by decide +kernel
theorem d_M_refine_546 : decode b_M_refine 546 = .ok (.laload, 1) := by decide +kernel
theorem d_M_refine_547 : decode b_M_refine 547 = .ok (.goto 4, 3) := by decide +kernel
theorem d_M_refine_550 : decode b_M_refine 550 = .ok (.lconst 0, 1) := by decide +kernel
theorem d_M_refine_551 : decode b_M_refine 551 = .ok (.invokevirtual 229, 3) := by decide +kernel
theorem d_M_refine_554 : decode b_M_refine 554 = .ok (.aload_n 0, 1) := by decide +kernel
theorem d_M_refine_555 : decode b_M_refine 555 = .ok (.bipush 17, 2) := by decide +kernel
theorem d_M_refine_557 : decode b_M_refine 557 = .ok (.lconst 0, 1) := by decide +kernel
theorem d_M_refine_558 : decode b_M_refine 558 = .ok (.aload_n 0, 1) := by decide +kernel
theorem d_M_refine_559 : decode b_M_refine 559 = .ok (.bipush 19, 2) := by decide +kernel
theorem d_M_refine_561 : decode b_M_refine 561 = .ok (.invokevirtual 159, 3) := by decide +kernel
theorem d_M_refine_564 : decode b_M_refine 564 = .ok (.ifCond .eq 13, 3) := by decide +kernel
theorem d_M_refine_567 : decode b_M_refine 567 = .ok (.aload_n 0, 1) := by decide +kernel
theorem d_M_refine_568 : decode b_M_refine 568 = .ok (.getfield 16, 3) := by decide +kernel
theorem d_M_refine_571 : decode b_M_refine 571 = .ok (.bipush 19, 2) := by decide +kernel
theorem d_M_refine_573 : decode b_M_refine 573 = .ok (.laload, 1) := by decide +kernel
theorem d_M_refine_574 : decode b_M_refine 574 = .ok (.goto 4, 3) := by decide +kernel
theorem d_M_refine_577 : decode b_M_refine 577 = .ok (.lconst 0, 1) := by decide +kernel
theorem d_M_refine_578 : decode b_M_refine 578 = .ok (.invokevirtual 229, 3) := by decide +kernel
theorem d_M_refine_581 : decode b_M_refine 581 = .ok (.aload_n 0, 1) := by decide +kernel
theorem d_M_refine_582 : decode b_M_refine 582 = .ok (.bipush 16, 2) := by decide +kernel
theorem d_M_refine_584 : decode b_M_refine 584 = .ok (.invokevirtual 113, 3) := by decide +kernel
theorem d_M_refine_587 : decode b_M_refine 587 = .ok (.aload_n 0, 1) := by decide +kernel
theorem d_M_refine_588 : decode b_M_refine 588 = .ok (.bipush 17, 2) := by decide +kernel
theorem d_M_refine_590 : decode b_M_refine 590 = .ok (.invokevirtual 113, 3) := by decide +kernel
theorem d_M_refine_593 : decode b_M_refine 593 = .ok (.return_, 1) := by decide +kernel
def f_M_refine_590g (r0 : (Nat → VV)) (p1 : Int32) (g590 : (Nat → VV)) : (Nat → VV) := g590
def f_M_refine_584g (r0 : (Nat → VV)) (p1 : Int32) (g584 : (Nat → VV)) : (Nat → VV) := f_M_refine_590g r0 p1 (f_M_tighten g584 17)
def f_M_refine_581 (r0 : (Nat → VV)) (p1 : Int32) (r581 : (Nat → VV)) : (Nat → VV) := f_M_refine_584g r0 p1 (f_M_tighten r581 16)
def f_M_refine_578g (r0 : (Nat → VV)) (p1 : Int32) (g578 : (Nat → VV)) : (Nat → VV) := f_M_refine_581 r0 p1 g578
def f_M_refine_578 (r0 : (Nat → VV)) (p1 : Int32) (s578_0 : Int64) (g551 : (Nat → VV)) : (Nat → VV) := f_M_refine_578g r0 p1 (f_M_force g551 17 0 s578_0)
def f_M_refine_551g (r0 : (Nat → VV)) (p1 : Int32) (g551 : (Nat → VV)) : (Nat → VV) := (if (f_M_isSingle g551 19) = true then f_M_refine_578 r0 p1 ((g551 19).2.2.1) g551 else f_M_refine_578 r0 p1 0 g551)
def f_M_refine_551 (r0 : (Nat → VV)) (p1 : Int32) (s551_0 : Int64) (r526n : (Nat → VV)) : (Nat → VV) := f_M_refine_551g r0 p1 (f_M_force r526n 16 0 s551_0)
def f_M_refine_526u (r0 : (Nat → VV)) (p1 : Int32) (r526n : (Nat → VV)) : (Nat → VV) := (if (f_M_isSingle r526n 20) = true then f_M_refine_551 r0 p1 ((r526n 20).2.2.1) r526n else f_M_refine_551 r0 p1 0 r526n)
def f_M_refine_526 (r0 : (Nat → VV)) (p1 : Int32) (s526_0 : Bool) (g13 : (Nat → VV)) : (Nat → VV) := f_M_refine_526u r0 p1 (u7 g13 16 s526_0)
def f_M_refine_521 (r0 : (Nat → VV)) (p1 : Int32) (g13 : (Nat → VV)) : (Nat → VV) := f_M_refine_526 r0 p1 true g13
def f_M_refine_479g (r0 : (Nat → VV)) (p1 : Int32) (g479 : (Nat → VV)) : (Nat → VV) := f_M_refine_581 r0 p1 g479
def f_M_refine_478 (r0 : (Nat → VV)) (p1 : Int32) (s478_0 : Int64) (g439 : (Nat → VV)) : (Nat → VV) := f_M_refine_479g r0 p1 (f_M_force g439 17 s478_0 0)
def f_M_refine_477 (r0 : (Nat → VV)) (p1 : Int32) (g439 : (Nat → VV)) : (Nat → VV) := f_M_refine_478 r0 p1 0 g439
def f_M_refine_439g (r0 : (Nat → VV)) (p1 : Int32) (g439 : (Nat → VV)) : (Nat → VV) := (if (f_M_isSingle g439 19) = true then (if (f_M_isOneBit ((g439 19).2.2.1)) = true then f_M_refine_478 r0 p1 ((g439 19).2.2.1) g439 else f_M_refine_477 r0 p1 g439) else f_M_refine_477 r0 p1 g439)
def f_M_refine_438 (r0 : (Nat → VV)) (p1 : Int32) (s438_0 : Int64) (r401n : (Nat → VV)) : (Nat → VV) := f_M_refine_439g r0 p1 (f_M_force r401n 16 s438_0 0)
def f_M_refine_437 (r0 : (Nat → VV)) (p1 : Int32) (r401n : (Nat → VV)) : (Nat → VV) := f_M_refine_438 r0 p1 0 r401n
def f_M_refine_401u (r0 : (Nat → VV)) (p1 : Int32) (r401n : (Nat → VV)) : (Nat → VV) := (if (f_M_isSingle r401n 20) = true then (if (f_M_isOneBit ((r401n 20).2.2.1)) = true then f_M_refine_438 r0 p1 ((r401n 20).2.2.1) r401n else f_M_refine_437 r0 p1 r401n) else f_M_refine_437 r0 p1 r401n)
def f_M_refine_401 (r0 : (Nat → VV)) (p1 : Int32) (s401_0 : Bool) (g13 : (Nat → VV)) : (Nat → VV) := f_M_refine_401u r0 p1 (u7 g13 16 s401_0)
def f_M_refine_396 (r0 : (Nat → VV)) (p1 : Int32) (g13 : (Nat → VV)) : (Nat → VV) := f_M_refine_401 r0 p1 true g13
def f_M_refine_338g (r0 : (Nat → VV)) (p1 : Int32) (g338 : (Nat → VV)) : (Nat → VV) := f_M_refine_581 r0 p1 g338
def f_M_refine_312g (r0 : (Nat → VV)) (p1 : Int32) (g312 : (Nat → VV)) : (Nat → VV) := f_M_refine_581 r0 p1 g312
def f_M_refine_286g (r0 : (Nat → VV)) (p1 : Int32) (g286 : (Nat → VV)) : (Nat → VV) := f_M_refine_581 r0 p1 g286
def f_M_refine_260g (r0 : (Nat → VV)) (p1 : Int32) (g260 : (Nat → VV)) : (Nat → VV) := f_M_refine_581 r0 p1 g260
def f_M_refine_234g (r0 : (Nat → VV)) (p1 : Int32) (g234 : (Nat → VV)) : (Nat → VV) := f_M_refine_581 r0 p1 g234
def f_M_refine_208g (r0 : (Nat → VV)) (p1 : Int32) (g208 : (Nat → VV)) : (Nat → VV) := f_M_refine_581 r0 p1 g208
def f_M_refine_182g (r0 : (Nat → VV)) (p1 : Int32) (g182 : (Nat → VV)) : (Nat → VV) := f_M_refine_581 r0 p1 g182
def f_M_refine_156g (r0 : (Nat → VV)) (p1 : Int32) (g156 : (Nat → VV)) : (Nat → VV) := f_M_refine_581 r0 p1 g156
def f_M_refine_130g (r0 : (Nat → VV)) (p1 : Int32) (g130 : (Nat → VV)) : (Nat → VV) := f_M_refine_581 r0 p1 g130
def f_M_refine_111g (r0 : (Nat → VV)) (p1 : Int32) (g111 : (Nat → VV)) : (Nat → VV) := f_M_refine_130g r0 p1 (f_M_lose g111 17 (f_M_isSingle g111 19) ((g111 19).2.2.1))
def f_M_refine_89g (r0 : (Nat → VV)) (p1 : Int32) (g89 : (Nat → VV)) : (Nat → VV) := f_M_refine_581 r0 p1 g89
def f_M_refine_81g (r0 : (Nat → VV)) (p1 : Int32) (g81 : (Nat → VV)) : (Nat → VV) := f_M_refine_89g r0 p1 (f_M_both g81 17 19)
def f_M_refine_13g (r0 : (Nat → VV)) (p1 : Int32) (g13 : (Nat → VV)) : (Nat → VV) := (if p1 = 0 then f_M_refine_81g r0 p1 (f_M_both g13 16 20) else (if p1 = 1 then f_M_refine_111g r0 p1 (f_M_lose g13 16 (f_M_isSingle g13 20) ((g13 20).2.2.1)) else (if p1 = 2 then f_M_refine_156g r0 p1 (f_M_order g13 16 17 ((g13 20).2.2.2.1) ((g13 19).2.2.1) true) else (if p1 = 3 then f_M_refine_182g r0 p1 (f_M_order g13 16 17 ((g13 20).2.2.2.1) ((g13 19).2.2.1) false) else (if p1 = 4 then f_M_refine_208g r0 p1 (f_M_order g13 17 16 ((g13 19).2.2.2.1) ((g13 20).2.2.1) true) else (if p1 = 5 then f_M_refine_234g r0 p1 (f_M_order g13 17 16 ((g13 19).2.2.2.1) ((g13 20).2.2.1) false) else (if p1 = 6 then f_M_refine_260g r0 p1 (f_M_orderLongs g13 16 17 ((g13 20).2.2.2.2.2.1) ((g13 19).2.2.2.2.1) true) else (if p1 = 7 then f_M_refine_286g r0 p1 (f_M_orderLongs g13 16 17 ((g13 20).2.2.2.2.2.1) ((g13 19).2.2.2.2.1) false) else (if p1 = 8 then f_M_refine_312g r0 p1 (f_M_orderLongs g13 17 16 ((g13 19).2.2.2.2.2.1) ((g13 20).2.2.2.2.1) true) else (if p1 = 9 then f_M_refine_338g r0 p1 (f_M_orderLongs g13 17 16 ((g13 19).2.2.2.2.2.1) ((g13 20).2.2.2.2.1) false) else (if p1 = 10 then (if ((g13 16).2.2.2.2.2.2) = true then f_M_refine_396 r0 p1 g13 else (if ((((g13 19).1) ||| ((g13 19).2.1)) &&& (((g13 20).1) ||| ((g13 20).2.1))) = 0 then f_M_refine_396 r0 p1 g13 else f_M_refine_401 r0 p1 false g13)) else (if ((g13 16).2.2.2.2.2.2) = true then f_M_refine_521 r0 p1 g13 else (if (((g13 19).1) &&& ((g13 20).1)) = 0 then f_M_refine_526 r0 p1 false g13 else f_M_refine_521 r0 p1 g13)))))))))))))
def f_M_refine_5g (r0 : (Nat → VV)) (p1 : Int32) (g5 : (Nat → VV)) : (Nat → VV) := f_M_refine_13g r0 p1 (f_M_copy g5 17 20)
def f_M_refine (r0 : (Nat → VV)) (p1 : Int32) : (Nat → VV) := f_M_refine_5g r0 p1 (f_M_copy r0 16 19)
set_option maxRecDepth 100000 in
set_option maxHeartbeats 4000000 in
theorem c_M_refine (l : Launch) (dC : Nat → ClassId) (dI : Nat → Nat → Nat) (ad : Nat → Nat) (cJ cZ : ClassId) (sz : Nat) (c0 : Int32) (r0 : (Nat → VV)) (w0 : (Nat → Int64)) (s0 : Int32) (p1 : Int32) : Met l y_M_refine w_M_refine ({ frames := 6, cells := 0, slots := 0, locals := 183 } : Room) (va_Pc [.ref (ad 0), .int (p1)] (nP (dC, dI) (mT cJ cZ) (mW ad cJ cZ c0 r0 w0 s0) sz)) (va_Qv (fun _ : Unit => True) (mB (dC, dI) (va_A (mW ad cJ cZ c0 r0 w0 s0) sz) (mW ad cJ cZ c0 (f_M_refine r0 p1) w0 s0)) (va_A (mW ad cJ cZ c0 r0 w0 s0) sz)) 0 0 (va_A (mW ad cJ cZ c0 r0 w0 s0) sz) := by
  refine Met.ofW (cc := b_M_refine) (maxL := 2) (ret := none) (by decide) rfl ?_
  intro p e s m args below meth c s₁ B hml hv
  obtain ⟨rfl, hsz, hP, hK, hD0⟩ := hv
  have hx := B.exec
  have hb := B.bytes
  have hr := B.returns
  have hts := atoms_spec (ws := w_M_refine) B.pre
  have hG : ∀ w ∈ gM, w.before _ s = true := fun w h => hts w (List.mem_cons_of_mem _ h)
  have hown : s.vm.findClass R_M = some m.cls := findClass_of_methodNamed B.named
  have hlocks := B.notSynchronized
  subst hsz
  have hD := hD0.self (sz := s.heap.size)
  generalize hAe : va_A (mW ad cJ cZ c0 r0 w0 s0) s.heap.size = A at hD ⊢
  have hA : ∀ q : Nat, s.heap.size ≤ q → A q := fun q h => by rw [← hAe]; exact Or.inr h
  have hS : va_S A s.heap s.heap [] := va_S.rf
  have hl := lv_entry ([.ref (ad 0), .int (p1)]) (n := 2) (Nat.le_of_ble_eq_true rfl)
  rw [lg_entry_eq]
  generalize (lg_sl ([.ref (ad 0), .int (p1)]) ++ List.replicate (2 - (lg_sl ([.ref (ad 0), .int (p1)])).length) Slot.unset).toArray = ls at hl ⊢
  have hl : lv_has ls 2 [(0, .ref (ad 0)), (1, .int (p1))] := hl
  have K590g : ∀ (g590 : (Nat → VV)) (hj : f_M_refine r0 p1 = f_M_refine_590g r0 p1 g590) (H : Heap) (locs : List Loc) (hP : va_P (dC, dI) classes (mW ad cJ cZ c0 g590 w0 s0) H) (hD : va_D A (mW ad cJ cZ c0 g590 w0 s0)) (hS : va_S A s.heap H locs) (ls : Array Slot) (hl : lv_has ls 2 []), W p l e (headSpec w_M_refine ({ frames := 6, cells := 0, slots := 0, locals := 183 } : Room)).room s m ([.ref (ad 0), .int (p1)] : List Value).toArray below meth c H locs 0 0 (MQ below (va_Qv (fun _ : Unit => True) (mB (dC, dI) A (mW ad cJ cZ c0 (f_M_refine r0 p1) w0 s0)) A) ([.ref (ad 0), .int (p1)] : List Value).toArray s 0 0 A) (F0 m 593 ls []) := by
    intro g590 hj H locs hP hD hS ls hl
    have fe : f_M_refine r0 p1 = g590 := hj.trans rfl
    exact W.vret hx hb hr (fun t ht hW => ⟨⟨(), rfl, trivial, by rw [ht, fe]; exact hP, by rw [fe]; exact hD⟩, hS.F ht⟩) hS.2.2 d_M_refine_593
  have K584g : ∀ (g584 : (Nat → VV)) (hj : f_M_refine r0 p1 = f_M_refine_584g r0 p1 g584) (H : Heap) (locs : List Loc) (hP : va_P (dC, dI) classes (mW ad cJ cZ c0 g584 w0 s0) H) (hD : va_D A (mW ad cJ cZ c0 g584 w0 s0)) (hS : va_S A s.heap H locs) (ls : Array Slot) (hl : lv_has ls 2 [(0, .ref (ad 0))]), W p l e (headSpec w_M_refine ({ frames := 6, cells := 0, slots := 0, locals := 183 } : Room)).room s m ([.ref (ad 0), .int (p1)] : List Value).toArray below meth c H locs 0 0 (MQ below (va_Qv (fun _ : Unit => True) (mB (dC, dI) A (mW ad cJ cZ c0 (f_M_refine r0 p1) w0 s0)) A) ([.ref (ad 0), .int (p1)] : List Value).toArray s 0 0 A) (F0 m 587 ls []) := by
    intro g584 hj H locs hP hD hS ls hl
    refine lv_aload_n hx hb d_M_refine_587 rfl (lv_at hl 0 rfl) ?_
    refine lv_bipush (v := 17) hx hb d_M_refine_588 (by decide) ?_
    refine mm_v (F := f_M_tighten g584 17) (w1 := fun g590 => (mW ad cJ cZ c0 g590 w0 s0)) (va_runV (As := [.int (17)]) (rest := []) ⟨hx, hb, hml, hown, hts⟩ (c_M_tighten l dC dI ad cJ cZ H.size c0 g584 w0 s0 17 (by decide)) (cwV 1 hts (gxV gx69 gx70 gx274 gx0 gx71) rfl rfl rfl (by decide +kernel) ⟨(Nat.le_of_ble_eq_true rfl), (Nat.le_of_ble_eq_true rfl)⟩) ⟨blp, va_recv hK hP (ci := 2) (q0 := 0) rfl rfl, fun U hU hW => ⟨rfl, by rw [hU], by rw [hU]; exact hP, va_K.moved hW.alike hK, hD.weaken (fun _ _ _ _ => trivial)⟩⟩ rfl rfl hl.1 rfl (lv_room (Nat.le_of_ble_eq_true rfl)) d_M_refine_590 ⟨Nat.zero_le _, Nat.zero_le _⟩) hD hS hA (fun g590 eg590 H locs hP hD hS => ?_)
    refine K590g g590 (Eq.trans (hj.trans rfl) (congrArg (fun g590 => f_M_refine_590g r0 p1 g590) eg590)) H locs ?_ ?_ hS ls (lv_sub hl [] rfl)
    · with_reducible exact hP
    · with_reducible exact hD
  have K581 : ∀ (r581 : (Nat → VV)) (hj : f_M_refine r0 p1 = f_M_refine_581 r0 p1 r581) (H : Heap) (locs : List Loc) (hP : va_P (dC, dI) classes (mW ad cJ cZ c0 r581 w0 s0) H) (hD : va_D A (mW ad cJ cZ c0 r581 w0 s0)) (hS : va_S A s.heap H locs) (ls : Array Slot) (hl : lv_has ls 2 [(0, .ref (ad 0))]), W p l e (headSpec w_M_refine ({ frames := 6, cells := 0, slots := 0, locals := 183 } : Room)).room s m ([.ref (ad 0), .int (p1)] : List Value).toArray below meth c H locs 0 0 (MQ below (va_Qv (fun _ : Unit => True) (mB (dC, dI) A (mW ad cJ cZ c0 (f_M_refine r0 p1) w0 s0)) A) ([.ref (ad 0), .int (p1)] : List Value).toArray s 0 0 A) (F0 m 581 ls []) := by
    intro r581 hj H locs hP hD hS ls hl
    refine lv_aload_n hx hb d_M_refine_581 rfl (lv_at hl 0 rfl) ?_
    refine lv_bipush (v := 16) hx hb d_M_refine_582 (by decide) ?_
    refine mm_v (F := f_M_tighten r581 16) (w1 := fun g584 => (mW ad cJ cZ c0 g584 w0 s0)) (va_runV (As := [.int (16)]) (rest := []) ⟨hx, hb, hml, hown, hts⟩ (c_M_tighten l dC dI ad cJ cZ H.size c0 r581 w0 s0 16 (by decide)) (cwV 1 hts (gxV gx69 gx70 gx274 gx0 gx71) rfl rfl rfl (by decide +kernel) ⟨(Nat.le_of_ble_eq_true rfl), (Nat.le_of_ble_eq_true rfl)⟩) ⟨blp, va_recv hK hP (ci := 2) (q0 := 0) rfl rfl, fun U hU hW => ⟨rfl, by rw [hU], by rw [hU]; exact hP, va_K.moved hW.alike hK, hD.weaken (fun _ _ _ _ => trivial)⟩⟩ rfl rfl hl.1 rfl (lv_room (Nat.le_of_ble_eq_true rfl)) d_M_refine_584 ⟨Nat.zero_le _, Nat.zero_le _⟩) hD hS hA (fun g584 eg584 H locs hP hD hS => ?_)
    refine K584g g584 (Eq.trans (hj.trans rfl) (congrArg (fun g584 => f_M_refine_584g r0 p1 g584) eg584)) H locs ?_ ?_ hS ls (lv_sub hl [0] rfl)
    · with_reducible exact hP
    · with_reducible exact hD
  have K578g : ∀ (g578 : (Nat → VV)) (hj : f_M_refine r0 p1 = f_M_refine_578g r0 p1 g578) (H : Heap) (locs : List Loc) (hP : va_P (dC, dI) classes (mW ad cJ cZ c0 g578 w0 s0) H) (hD : va_D A (mW ad cJ cZ c0 g578 w0 s0)) (hS : va_S A s.heap H locs) (ls : Array Slot) (hl : lv_has ls 2 [(0, .ref (ad 0))]), W p l e (headSpec w_M_refine ({ frames := 6, cells := 0, slots := 0, locals := 183 } : Room)).room s m ([.ref (ad 0), .int (p1)] : List Value).toArray below meth c H locs 0 0 (MQ below (va_Qv (fun _ : Unit => True) (mB (dC, dI) A (mW ad cJ cZ c0 (f_M_refine r0 p1) w0 s0)) A) ([.ref (ad 0), .int (p1)] : List Value).toArray s 0 0 A) (F0 m 581 ls []) := by
    intro g578 hj H locs hP hD hS ls hl
    refine K581 g578 (hj.trans rfl) H locs ?_ ?_ hS ls (lv_sub hl [0] rfl)
    · with_reducible exact hP
    · with_reducible exact hD
  have K578 : ∀ (s578_0 : Int64) (g551 : (Nat → VV)) (hj : f_M_refine r0 p1 = f_M_refine_578 r0 p1 s578_0 g551) (H : Heap) (locs : List Loc) (hP : va_P (dC, dI) classes (mW ad cJ cZ c0 g551 w0 s0) H) (hD : va_D A (mW ad cJ cZ c0 g551 w0 s0)) (hS : va_S A s.heap H locs) (ls : Array Slot) (hl : lv_has ls 2 [(0, .ref (ad 0))]), W p l e (headSpec w_M_refine ({ frames := 6, cells := 0, slots := 0, locals := 183 } : Room)).room s m ([.ref (ad 0), .int (p1)] : List Value).toArray below meth c H locs 0 0 (MQ below (va_Qv (fun _ : Unit => True) (mB (dC, dI) A (mW ad cJ cZ c0 (f_M_refine r0 p1) w0 s0)) A) ([.ref (ad 0), .int (p1)] : List Value).toArray s 0 0 A) (F0 m 578 ls [.long (s578_0), .long (0), .int (17), .ref (ad 0)]) := by
    intro s578_0 g551 hj H locs hP hD hS ls hl
    refine mm_v (F := f_M_force g551 17 0 s578_0) (w1 := fun g578 => (mW ad cJ cZ c0 g578 w0 s0)) (va_runV (As := [.int (17), .long (0), .long (s578_0)]) (rest := []) ⟨hx, hb, hml, hown, hts⟩ (c_M_force l dC dI ad cJ cZ H.size c0 g551 w0 s0 17 0 s578_0 (by decide)) (cwV 3 hts (gxV gx240 gx241 gx303 gx0 gx242) rfl rfl rfl (by decide +kernel) ⟨(Nat.le_of_ble_eq_true rfl), (Nat.le_of_ble_eq_true rfl)⟩) ⟨blp, va_recv hK hP (ci := 2) (q0 := 0) rfl rfl, fun U hU hW => ⟨rfl, by rw [hU], by rw [hU]; exact hP, va_K.moved hW.alike hK, hD.weaken (fun _ _ _ _ => trivial)⟩⟩ rfl rfl hl.1 rfl (lv_room (Nat.le_of_ble_eq_true rfl)) d_M_refine_578 ⟨Nat.zero_le _, Nat.zero_le _⟩) hD hS hA (fun g578 eg578 H locs hP hD hS => ?_)
    refine K578g g578 (Eq.trans (hj.trans rfl) (congrArg (fun g578 => f_M_refine_578g r0 p1 g578) eg578)) H locs ?_ ?_ hS ls (lv_sub hl [0] rfl)
    · with_reducible exact hP
    · with_reducible exact hD
  have K551g : ∀ (g551 : (Nat → VV)) (hj : f_M_refine r0 p1 = f_M_refine_551g r0 p1 g551) (H : Heap) (locs : List Loc) (hP : va_P (dC, dI) classes (mW ad cJ cZ c0 g551 w0 s0) H) (hD : va_D A (mW ad cJ cZ c0 g551 w0 s0)) (hS : va_S A s.heap H locs) (ls : Array Slot) (hl : lv_has ls 2 [(0, .ref (ad 0))]), W p l e (headSpec w_M_refine ({ frames := 6, cells := 0, slots := 0, locals := 183 } : Room)).room s m ([.ref (ad 0), .int (p1)] : List Value).toArray below meth c H locs 0 0 (MQ below (va_Qv (fun _ : Unit => True) (mB (dC, dI) A (mW ad cJ cZ c0 (f_M_refine r0 p1) w0 s0)) A) ([.ref (ad 0), .int (p1)] : List Value).toArray s 0 0 A) (F0 m 554 ls []) := by
    intro g551 hj H locs hP hD hS ls hl
    refine lv_aload_n hx hb d_M_refine_554 rfl (lv_at hl 0 rfl) ?_
    refine lv_bipush (v := 17) hx hb d_M_refine_555 (by decide) ?_
    refine lv_lconst (v := 0) hx hb d_M_refine_557 (by decide) ?_
    refine lv_aload_n hx hb d_M_refine_558 rfl (lv_at hl 0 rfl) ?_
    refine lv_bipush (v := 19) hx hb d_M_refine_559 (by decide) ?_
    refine rc_i (W.runV (As := [.int (19)]) (rest := [.long (0), .int (17), .ref (ad 0)]) ⟨hx, hb, hml, hown, hts⟩ (c_M_isSingle l dC dI ad cJ cZ c0 g551 w0 s0 19 (by decide)) (cwV 1 hts (gxV gx182 gx183 gx270 gx0 gx184) rfl rfl rfl (by decide +kernel) ⟨(Nat.le_of_ble_eq_true rfl), (Nat.le_of_ble_eq_true rfl)⟩) ⟨bln, va_recv hK hP (ci := 2) (q0 := 0) rfl rfl, fun U hU hW => ⟨rfl, by rw [hU]; exact hP, va_K.moved hW.alike hK⟩⟩ rfl rfl hl.1 rfl (lv_room (Nat.le_of_ble_eq_true rfl)) d_M_refine_561 ⟨Nat.zero_le _, Nat.zero_le _⟩) ?_
    refine wz_eq (tgt := 577) hx hb d_M_refine_564 (by decide) (fun e1_577 => ?_) (fun e1_577 => ?_)
    · refine lv_lconst (v := 0) hx hb d_M_refine_577 (by decide) ?_
      refine K578 0 g551 (hj.trans (by unfold f_M_refine_551g; first | with_reducible exact if_neg e1_577 | exact if_neg e1_577)) H locs ?_ ?_ hS ls (lv_sub hl [0] rfl)
      · with_reducible exact hP
      · with_reducible exact hD
    · refine lv_aload_n hx hb d_M_refine_567 rfl (lv_at hl 0 rfl) ?_
      refine va_get (D := (dC, dI)) (ci := 2) (v := .ref (ad 3)) (C := R_M) (T := F_M) (N := 10) hx hb hts (fun w h => List.mem_cons_of_mem _ (uw_M w h)) hown hK hP 0 rfl rfl 3 (by decide) (hG (.fieldLink R_M 16 "ValueSieveModel" "low" "[J") gx12) (fun _ h9 => h9) rfl d_M_refine_568 ?_
      refine lv_bipush (v := 19) hx hb d_M_refine_571 (by decide) ?_
      refine ml_3 (P := 19) hx hb hK hP rfl (by decide) d_M_refine_573 ?_
      refine lv_goto (tgt := 578) hx hb d_M_refine_574 (by decide) ?_
      refine K578 ((g551 19).2.2.1) g551 (hj.trans (by unfold f_M_refine_551g; first | with_reducible exact if_pos e1_577 | exact if_pos e1_577)) H locs ?_ ?_ hS ls (lv_sub hl [0] rfl)
      · with_reducible exact hP
      · with_reducible exact hD
  have K551 : ∀ (s551_0 : Int64) (r526n : (Nat → VV)) (hj : f_M_refine r0 p1 = f_M_refine_551 r0 p1 s551_0 r526n) (H : Heap) (locs : List Loc) (hP : va_P (dC, dI) classes (mW ad cJ cZ c0 r526n w0 s0) H) (hD : va_D A (mW ad cJ cZ c0 r526n w0 s0)) (hS : va_S A s.heap H locs) (ls : Array Slot) (hl : lv_has ls 2 [(0, .ref (ad 0))]), W p l e (headSpec w_M_refine ({ frames := 6, cells := 0, slots := 0, locals := 183 } : Room)).room s m ([.ref (ad 0), .int (p1)] : List Value).toArray below meth c H locs 0 0 (MQ below (va_Qv (fun _ : Unit => True) (mB (dC, dI) A (mW ad cJ cZ c0 (f_M_refine r0 p1) w0 s0)) A) ([.ref (ad 0), .int (p1)] : List Value).toArray s 0 0 A) (F0 m 551 ls [.long (s551_0), .long (0), .int (16), .ref (ad 0)]) := by
    intro s551_0 r526n hj H locs hP hD hS ls hl
    refine mm_v (F := f_M_force r526n 16 0 s551_0) (w1 := fun g551 => (mW ad cJ cZ c0 g551 w0 s0)) (va_runV (As := [.int (16), .long (0), .long (s551_0)]) (rest := []) ⟨hx, hb, hml, hown, hts⟩ (c_M_force l dC dI ad cJ cZ H.size c0 r526n w0 s0 16 0 s551_0 (by decide)) (cwV 3 hts (gxV gx240 gx241 gx303 gx0 gx242) rfl rfl rfl (by decide +kernel) ⟨(Nat.le_of_ble_eq_true rfl), (Nat.le_of_ble_eq_true rfl)⟩) ⟨blp, va_recv hK hP (ci := 2) (q0 := 0) rfl rfl, fun U hU hW => ⟨rfl, by rw [hU], by rw [hU]; exact hP, va_K.moved hW.alike hK, hD.weaken (fun _ _ _ _ => trivial)⟩⟩ rfl rfl hl.1 rfl (lv_room (Nat.le_of_ble_eq_true rfl)) d_M_refine_551 ⟨Nat.zero_le _, Nat.zero_le _⟩) hD hS hA (fun g551 eg551 H locs hP hD hS => ?_)
    refine K551g g551 (Eq.trans (hj.trans rfl) (congrArg (fun g551 => f_M_refine_551g r0 p1 g551) eg551)) H locs ?_ ?_ hS ls (lv_sub hl [0] rfl)
    · with_reducible exact hP
    · with_reducible exact hD
  have K526u : ∀ (r526n : (Nat → VV)) (hj : f_M_refine r0 p1 = f_M_refine_526u r0 p1 r526n) (H : Heap) (locs : List Loc) (hP : va_P (dC, dI) classes (mW ad cJ cZ c0 r526n w0 s0) H) (hD : va_D A (mW ad cJ cZ c0 r526n w0 s0)) (hS : va_S A s.heap H locs) (ls : Array Slot) (hl : lv_has ls 2 [(0, .ref (ad 0))]), W p l e (headSpec w_M_refine ({ frames := 6, cells := 0, slots := 0, locals := 183 } : Room)).room s m ([.ref (ad 0), .int (p1)] : List Value).toArray below meth c H locs 0 0 (MQ below (va_Qv (fun _ : Unit => True) (mB (dC, dI) A (mW ad cJ cZ c0 (f_M_refine r0 p1) w0 s0)) A) ([.ref (ad 0), .int (p1)] : List Value).toArray s 0 0 A) (F0 m 527 ls []) := by
    intro r526n hj H locs hP hD hS ls hl
    refine lv_aload_n hx hb d_M_refine_527 rfl (lv_at hl 0 rfl) ?_
    refine lv_bipush (v := 16) hx hb d_M_refine_528 (by decide) ?_
    refine lv_lconst (v := 0) hx hb d_M_refine_530 (by decide) ?_
    refine lv_aload_n hx hb d_M_refine_531 rfl (lv_at hl 0 rfl) ?_
    refine lv_bipush (v := 20) hx hb d_M_refine_532 (by decide) ?_
    refine rc_i (W.runV (As := [.int (20)]) (rest := [.long (0), .int (16), .ref (ad 0)]) ⟨hx, hb, hml, hown, hts⟩ (c_M_isSingle l dC dI ad cJ cZ c0 r526n w0 s0 20 (by decide)) (cwV 1 hts (gxV gx182 gx183 gx270 gx0 gx184) rfl rfl rfl (by decide +kernel) ⟨(Nat.le_of_ble_eq_true rfl), (Nat.le_of_ble_eq_true rfl)⟩) ⟨bln, va_recv hK hP (ci := 2) (q0 := 0) rfl rfl, fun U hU hW => ⟨rfl, by rw [hU]; exact hP, va_K.moved hW.alike hK⟩⟩ rfl rfl hl.1 rfl (lv_room (Nat.le_of_ble_eq_true rfl)) d_M_refine_534 ⟨Nat.zero_le _, Nat.zero_le _⟩) ?_
    refine wz_eq (tgt := 550) hx hb d_M_refine_537 (by decide) (fun e1_550 => ?_) (fun e1_550 => ?_)
    · refine lv_lconst (v := 0) hx hb d_M_refine_550 (by decide) ?_
      refine K551 0 r526n (hj.trans (by unfold f_M_refine_526u; first | with_reducible exact if_neg e1_550 | exact if_neg e1_550)) H locs ?_ ?_ hS ls (lv_sub hl [0] rfl)
      · with_reducible exact hP
      · with_reducible exact hD
    · refine lv_aload_n hx hb d_M_refine_540 rfl (lv_at hl 0 rfl) ?_
      refine va_get (D := (dC, dI)) (ci := 2) (v := .ref (ad 3)) (C := R_M) (T := F_M) (N := 10) hx hb hts (fun w h => List.mem_cons_of_mem _ (uw_M w h)) hown hK hP 0 rfl rfl 3 (by decide) (hG (.fieldLink R_M 16 "ValueSieveModel" "low" "[J") gx12) (fun _ h9 => h9) rfl d_M_refine_541 ?_
      refine lv_bipush (v := 20) hx hb d_M_refine_544 (by decide) ?_
      refine ml_3 (P := 20) hx hb hK hP rfl (by decide) d_M_refine_546 ?_
      refine lv_goto (tgt := 551) hx hb d_M_refine_547 (by decide) ?_
      refine K551 ((r526n 20).2.2.1) r526n (hj.trans (by unfold f_M_refine_526u; first | with_reducible exact if_pos e1_550 | exact if_pos e1_550)) H locs ?_ ?_ hS ls (lv_sub hl [0] rfl)
      · with_reducible exact hP
      · with_reducible exact hD
  have K526 : ∀ (s526_0 : Bool) (g13 : (Nat → VV)) (hj : f_M_refine r0 p1 = f_M_refine_526 r0 p1 s526_0 g13) (H : Heap) (locs : List Loc) (hP : va_P (dC, dI) classes (mW ad cJ cZ c0 g13 w0 s0) H) (hD : va_D A (mW ad cJ cZ c0 g13 w0 s0)) (hS : va_S A s.heap H locs) (ls : Array Slot) (hl : lv_has ls 2 [(0, .ref (ad 0))]), W p l e (headSpec w_M_refine ({ frames := 6, cells := 0, slots := 0, locals := 183 } : Room)).room s m ([.ref (ad 0), .int (p1)] : List Value).toArray below meth c H locs 0 0 (MQ below (va_Qv (fun _ : Unit => True) (mB (dC, dI) A (mW ad cJ cZ c0 (f_M_refine r0 p1) w0 s0)) A) ([.ref (ad 0), .int (p1)] : List Value).toArray s 0 0 A) (F0 m 526 ls [.int (bI s526_0), .int (16), .ref (ad 7)]) := by
    intro s526_0 g13 hj H locs hP hD hS ls hl
    refine ms_7 (P := 16) (x := s526_0) hx hb hK hP hD hS rfl (by decide) d_M_refine_526 (fun H locs hP hD hS => ?_)
    obtain ⟨r526n, er526n⟩ : ∃ z, z = u7 g13 16 s526_0 := ⟨_, rfl⟩
    rw [← er526n] at hP hD
    refine K526u r526n (Eq.trans (hj.trans rfl) (congrArg (fun r526n => f_M_refine_526u r0 p1 r526n) er526n.symm)) H locs ?_ ?_ hS ls (lv_sub hl [0] rfl)
    · with_reducible exact hP
    · with_reducible exact hD
  have K521 : ∀ (g13 : (Nat → VV)) (hj : f_M_refine r0 p1 = f_M_refine_521 r0 p1 g13) (H : Heap) (locs : List Loc) (hP : va_P (dC, dI) classes (mW ad cJ cZ c0 g13 w0 s0) H) (hD : va_D A (mW ad cJ cZ c0 g13 w0 s0)) (hS : va_S A s.heap H locs) (ls : Array Slot) (hl : lv_has ls 2 [(0, .ref (ad 0))]), W p l e (headSpec w_M_refine ({ frames := 6, cells := 0, slots := 0, locals := 183 } : Room)).room s m ([.ref (ad 0), .int (p1)] : List Value).toArray below meth c H locs 0 0 (MQ below (va_Qv (fun _ : Unit => True) (mB (dC, dI) A (mW ad cJ cZ c0 (f_M_refine r0 p1) w0 s0)) A) ([.ref (ad 0), .int (p1)] : List Value).toArray s 0 0 A) (F0 m 521 ls [.int (16), .ref (ad 7)]) := by
    intro g13 hj H locs hP hD hS ls hl
    refine lv_iconst (v := 1) hx hb d_M_refine_521 (by decide) ?_
    refine lv_goto (tgt := 526) hx hb d_M_refine_522 (by decide) ?_
    refine K526 true g13 (hj.trans rfl) H locs ?_ ?_ hS ls (lv_sub hl [0] rfl)
    · with_reducible exact hP
    · with_reducible exact hD
  have K479g : ∀ (g479 : (Nat → VV)) (hj : f_M_refine r0 p1 = f_M_refine_479g r0 p1 g479) (H : Heap) (locs : List Loc) (hP : va_P (dC, dI) classes (mW ad cJ cZ c0 g479 w0 s0) H) (hD : va_D A (mW ad cJ cZ c0 g479 w0 s0)) (hS : va_S A s.heap H locs) (ls : Array Slot) (hl : lv_has ls 2 [(0, .ref (ad 0))]), W p l e (headSpec w_M_refine ({ frames := 6, cells := 0, slots := 0, locals := 183 } : Room)).room s m ([.ref (ad 0), .int (p1)] : List Value).toArray below meth c H locs 0 0 (MQ below (va_Qv (fun _ : Unit => True) (mB (dC, dI) A (mW ad cJ cZ c0 (f_M_refine r0 p1) w0 s0)) A) ([.ref (ad 0), .int (p1)] : List Value).toArray s 0 0 A) (F0 m 482 ls []) := by
    intro g479 hj H locs hP hD hS ls hl
    refine lv_goto (tgt := 581) hx hb d_M_refine_482 (by decide) ?_
    refine K581 g479 (hj.trans rfl) H locs ?_ ?_ hS ls (lv_sub hl [0] rfl)
    · with_reducible exact hP
    · with_reducible exact hD
  have K478 : ∀ (s478_0 : Int64) (g439 : (Nat → VV)) (hj : f_M_refine r0 p1 = f_M_refine_478 r0 p1 s478_0 g439) (H : Heap) (locs : List Loc) (hP : va_P (dC, dI) classes (mW ad cJ cZ c0 g439 w0 s0) H) (hD : va_D A (mW ad cJ cZ c0 g439 w0 s0)) (hS : va_S A s.heap H locs) (ls : Array Slot) (hl : lv_has ls 2 [(0, .ref (ad 0))]), W p l e (headSpec w_M_refine ({ frames := 6, cells := 0, slots := 0, locals := 183 } : Room)).room s m ([.ref (ad 0), .int (p1)] : List Value).toArray below meth c H locs 0 0 (MQ below (va_Qv (fun _ : Unit => True) (mB (dC, dI) A (mW ad cJ cZ c0 (f_M_refine r0 p1) w0 s0)) A) ([.ref (ad 0), .int (p1)] : List Value).toArray s 0 0 A) (F0 m 478 ls [.long (s478_0), .int (17), .ref (ad 0)]) := by
    intro s478_0 g439 hj H locs hP hD hS ls hl
    refine lv_lconst (v := 0) hx hb d_M_refine_478 (by decide) ?_
    refine mm_v (F := f_M_force g439 17 s478_0 0) (w1 := fun g479 => (mW ad cJ cZ c0 g479 w0 s0)) (va_runV (As := [.int (17), .long (s478_0), .long (0)]) (rest := []) ⟨hx, hb, hml, hown, hts⟩ (c_M_force l dC dI ad cJ cZ H.size c0 g439 w0 s0 17 s478_0 0 (by decide)) (cwV 3 hts (gxV gx240 gx241 gx303 gx0 gx242) rfl rfl rfl (by decide +kernel) ⟨(Nat.le_of_ble_eq_true rfl), (Nat.le_of_ble_eq_true rfl)⟩) ⟨blp, va_recv hK hP (ci := 2) (q0 := 0) rfl rfl, fun U hU hW => ⟨rfl, by rw [hU], by rw [hU]; exact hP, va_K.moved hW.alike hK, hD.weaken (fun _ _ _ _ => trivial)⟩⟩ rfl rfl hl.1 rfl (lv_room (Nat.le_of_ble_eq_true rfl)) d_M_refine_479 ⟨Nat.zero_le _, Nat.zero_le _⟩) hD hS hA (fun g479 eg479 H locs hP hD hS => ?_)
    refine K479g g479 (Eq.trans (hj.trans rfl) (congrArg (fun g479 => f_M_refine_479g r0 p1 g479) eg479)) H locs ?_ ?_ hS ls (lv_sub hl [0] rfl)
    · with_reducible exact hP
    · with_reducible exact hD
  have K477 : ∀ (g439 : (Nat → VV)) (hj : f_M_refine r0 p1 = f_M_refine_477 r0 p1 g439) (H : Heap) (locs : List Loc) (hP : va_P (dC, dI) classes (mW ad cJ cZ c0 g439 w0 s0) H) (hD : va_D A (mW ad cJ cZ c0 g439 w0 s0)) (hS : va_S A s.heap H locs) (ls : Array Slot) (hl : lv_has ls 2 [(0, .ref (ad 0))]), W p l e (headSpec w_M_refine ({ frames := 6, cells := 0, slots := 0, locals := 183 } : Room)).room s m ([.ref (ad 0), .int (p1)] : List Value).toArray below meth c H locs 0 0 (MQ below (va_Qv (fun _ : Unit => True) (mB (dC, dI) A (mW ad cJ cZ c0 (f_M_refine r0 p1) w0 s0)) A) ([.ref (ad 0), .int (p1)] : List Value).toArray s 0 0 A) (F0 m 477 ls [.int (17), .ref (ad 0)]) := by
    intro g439 hj H locs hP hD hS ls hl
    refine lv_lconst (v := 0) hx hb d_M_refine_477 (by decide) ?_
    refine K478 0 g439 (hj.trans rfl) H locs ?_ ?_ hS ls (lv_sub hl [0] rfl)
    · with_reducible exact hP
    · with_reducible exact hD
  have K439g : ∀ (g439 : (Nat → VV)) (hj : f_M_refine r0 p1 = f_M_refine_439g r0 p1 g439) (H : Heap) (locs : List Loc) (hP : va_P (dC, dI) classes (mW ad cJ cZ c0 g439 w0 s0) H) (hD : va_D A (mW ad cJ cZ c0 g439 w0 s0)) (hS : va_S A s.heap H locs) (ls : Array Slot) (hl : lv_has ls 2 [(0, .ref (ad 0))]), W p l e (headSpec w_M_refine ({ frames := 6, cells := 0, slots := 0, locals := 183 } : Room)).room s m ([.ref (ad 0), .int (p1)] : List Value).toArray below meth c H locs 0 0 (MQ below (va_Qv (fun _ : Unit => True) (mB (dC, dI) A (mW ad cJ cZ c0 (f_M_refine r0 p1) w0 s0)) A) ([.ref (ad 0), .int (p1)] : List Value).toArray s 0 0 A) (F0 m 442 ls []) := by
    intro g439 hj H locs hP hD hS ls hl
    refine lv_aload_n hx hb d_M_refine_442 rfl (lv_at hl 0 rfl) ?_
    refine lv_bipush (v := 17) hx hb d_M_refine_443 (by decide) ?_
    refine lv_aload_n hx hb d_M_refine_445 rfl (lv_at hl 0 rfl) ?_
    refine lv_bipush (v := 19) hx hb d_M_refine_446 (by decide) ?_
    refine rc_i (W.runV (As := [.int (19)]) (rest := [.int (17), .ref (ad 0)]) ⟨hx, hb, hml, hown, hts⟩ (c_M_isSingle l dC dI ad cJ cZ c0 g439 w0 s0 19 (by decide)) (cwV 1 hts (gxV gx182 gx183 gx270 gx0 gx184) rfl rfl rfl (by decide +kernel) ⟨(Nat.le_of_ble_eq_true rfl), (Nat.le_of_ble_eq_true rfl)⟩) ⟨bln, va_recv hK hP (ci := 2) (q0 := 0) rfl rfl, fun U hU hW => ⟨rfl, by rw [hU]; exact hP, va_K.moved hW.alike hK⟩⟩ rfl rfl hl.1 rfl (lv_room (Nat.le_of_ble_eq_true rfl)) d_M_refine_448 ⟨Nat.zero_le _, Nat.zero_le _⟩) ?_
    refine wz_eq (tgt := 477) hx hb d_M_refine_451 (by decide) (fun e1_477 => ?_) (fun e1_477 => ?_)
    · refine K477 g439 (hj.trans (by unfold f_M_refine_439g; first | with_reducible exact if_neg e1_477 | exact if_neg e1_477)) H locs ?_ ?_ hS ls (lv_sub hl [0] rfl)
      · with_reducible exact hP
      · with_reducible exact hD
    · refine lv_aload_n hx hb d_M_refine_454 rfl (lv_at hl 0 rfl) ?_
      refine va_get (D := (dC, dI)) (ci := 2) (v := .ref (ad 3)) (C := R_M) (T := F_M) (N := 10) hx hb hts (fun w h => List.mem_cons_of_mem _ (uw_M w h)) hown hK hP 0 rfl rfl 3 (by decide) (hG (.fieldLink R_M 16 "ValueSieveModel" "low" "[J") gx12) (fun _ h9 => h9) rfl d_M_refine_455 ?_
      refine lv_bipush (v := 19) hx hb d_M_refine_458 (by decide) ?_
      refine ml_3 (P := 19) hx hb hK hP rfl (by decide) d_M_refine_460 ?_
      refine rc_i (W.runS (As := [.long ((g439 19).2.2.1)]) (rest := [.int (17), .ref (ad 0)]) ⟨hx, hb, hml, hown, hts⟩ (c_M_isOneBit l ((g439 19).2.2.1)) (va_cwS 1 hts (gxS gx237 gx238 gx0 gx239) rfl rfl rfl (by decide +kernel) ⟨(Nat.le_of_ble_eq_true rfl), (Nat.le_of_ble_eq_true rfl)⟩) ⟨bl0, fun U hU hW => ⟨rfl, trivial⟩⟩ rfl rfl hl.1 rfl (lv_room (Nat.le_of_ble_eq_true rfl)) d_M_refine_461 ⟨Nat.zero_le _, Nat.zero_le _⟩) ?_
      refine wz_eq (tgt := 477) hx hb d_M_refine_464 (by decide) (fun e2_477 => ?_) (fun e2_477 => ?_)
      · refine K477 g439 (hj.trans (by unfold f_M_refine_439g; first | with_reducible exact (if_pos e1_477).trans (if_neg e2_477) | exact (if_pos e1_477).trans (if_neg e2_477))) H locs ?_ ?_ hS ls (lv_sub hl [0] rfl)
        · with_reducible exact hP
        · with_reducible exact hD
      · refine lv_aload_n hx hb d_M_refine_467 rfl (lv_at hl 0 rfl) ?_
        refine va_get (D := (dC, dI)) (ci := 2) (v := .ref (ad 3)) (C := R_M) (T := F_M) (N := 10) hx hb hts (fun w h => List.mem_cons_of_mem _ (uw_M w h)) hown hK hP 0 rfl rfl 3 (by decide) (hG (.fieldLink R_M 16 "ValueSieveModel" "low" "[J") gx12) (fun _ h9 => h9) rfl d_M_refine_468 ?_
        refine lv_bipush (v := 19) hx hb d_M_refine_471 (by decide) ?_
        refine ml_3 (P := 19) hx hb hK hP rfl (by decide) d_M_refine_473 ?_
        refine lv_goto (tgt := 478) hx hb d_M_refine_474 (by decide) ?_
        refine K478 ((g439 19).2.2.1) g439 (hj.trans (by unfold f_M_refine_439g; first | with_reducible exact (if_pos e1_477).trans (if_pos e2_477) | exact (if_pos e1_477).trans (if_pos e2_477))) H locs ?_ ?_ hS ls (lv_sub hl [0] rfl)
        · with_reducible exact hP
        · with_reducible exact hD
  have K438 : ∀ (s438_0 : Int64) (r401n : (Nat → VV)) (hj : f_M_refine r0 p1 = f_M_refine_438 r0 p1 s438_0 r401n) (H : Heap) (locs : List Loc) (hP : va_P (dC, dI) classes (mW ad cJ cZ c0 r401n w0 s0) H) (hD : va_D A (mW ad cJ cZ c0 r401n w0 s0)) (hS : va_S A s.heap H locs) (ls : Array Slot) (hl : lv_has ls 2 [(0, .ref (ad 0))]), W p l e (headSpec w_M_refine ({ frames := 6, cells := 0, slots := 0, locals := 183 } : Room)).room s m ([.ref (ad 0), .int (p1)] : List Value).toArray below meth c H locs 0 0 (MQ below (va_Qv (fun _ : Unit => True) (mB (dC, dI) A (mW ad cJ cZ c0 (f_M_refine r0 p1) w0 s0)) A) ([.ref (ad 0), .int (p1)] : List Value).toArray s 0 0 A) (F0 m 438 ls [.long (s438_0), .int (16), .ref (ad 0)]) := by
    intro s438_0 r401n hj H locs hP hD hS ls hl
    refine lv_lconst (v := 0) hx hb d_M_refine_438 (by decide) ?_
    refine mm_v (F := f_M_force r401n 16 s438_0 0) (w1 := fun g439 => (mW ad cJ cZ c0 g439 w0 s0)) (va_runV (As := [.int (16), .long (s438_0), .long (0)]) (rest := []) ⟨hx, hb, hml, hown, hts⟩ (c_M_force l dC dI ad cJ cZ H.size c0 r401n w0 s0 16 s438_0 0 (by decide)) (cwV 3 hts (gxV gx240 gx241 gx303 gx0 gx242) rfl rfl rfl (by decide +kernel) ⟨(Nat.le_of_ble_eq_true rfl), (Nat.le_of_ble_eq_true rfl)⟩) ⟨blp, va_recv hK hP (ci := 2) (q0 := 0) rfl rfl, fun U hU hW => ⟨rfl, by rw [hU], by rw [hU]; exact hP, va_K.moved hW.alike hK, hD.weaken (fun _ _ _ _ => trivial)⟩⟩ rfl rfl hl.1 rfl (lv_room (Nat.le_of_ble_eq_true rfl)) d_M_refine_439 ⟨Nat.zero_le _, Nat.zero_le _⟩) hD hS hA (fun g439 eg439 H locs hP hD hS => ?_)
    refine K439g g439 (Eq.trans (hj.trans rfl) (congrArg (fun g439 => f_M_refine_439g r0 p1 g439) eg439)) H locs ?_ ?_ hS ls (lv_sub hl [0] rfl)
    · with_reducible exact hP
    · with_reducible exact hD
  have K437 : ∀ (r401n : (Nat → VV)) (hj : f_M_refine r0 p1 = f_M_refine_437 r0 p1 r401n) (H : Heap) (locs : List Loc) (hP : va_P (dC, dI) classes (mW ad cJ cZ c0 r401n w0 s0) H) (hD : va_D A (mW ad cJ cZ c0 r401n w0 s0)) (hS : va_S A s.heap H locs) (ls : Array Slot) (hl : lv_has ls 2 [(0, .ref (ad 0))]), W p l e (headSpec w_M_refine ({ frames := 6, cells := 0, slots := 0, locals := 183 } : Room)).room s m ([.ref (ad 0), .int (p1)] : List Value).toArray below meth c H locs 0 0 (MQ below (va_Qv (fun _ : Unit => True) (mB (dC, dI) A (mW ad cJ cZ c0 (f_M_refine r0 p1) w0 s0)) A) ([.ref (ad 0), .int (p1)] : List Value).toArray s 0 0 A) (F0 m 437 ls [.int (16), .ref (ad 0)]) := by
    intro r401n hj H locs hP hD hS ls hl
    refine lv_lconst (v := 0) hx hb d_M_refine_437 (by decide) ?_
    refine K438 0 r401n (hj.trans rfl) H locs ?_ ?_ hS ls (lv_sub hl [0] rfl)
    · with_reducible exact hP
    · with_reducible exact hD
  have K401u : ∀ (r401n : (Nat → VV)) (hj : f_M_refine r0 p1 = f_M_refine_401u r0 p1 r401n) (H : Heap) (locs : List Loc) (hP : va_P (dC, dI) classes (mW ad cJ cZ c0 r401n w0 s0) H) (hD : va_D A (mW ad cJ cZ c0 r401n w0 s0)) (hS : va_S A s.heap H locs) (ls : Array Slot) (hl : lv_has ls 2 [(0, .ref (ad 0))]), W p l e (headSpec w_M_refine ({ frames := 6, cells := 0, slots := 0, locals := 183 } : Room)).room s m ([.ref (ad 0), .int (p1)] : List Value).toArray below meth c H locs 0 0 (MQ below (va_Qv (fun _ : Unit => True) (mB (dC, dI) A (mW ad cJ cZ c0 (f_M_refine r0 p1) w0 s0)) A) ([.ref (ad 0), .int (p1)] : List Value).toArray s 0 0 A) (F0 m 402 ls []) := by
    intro r401n hj H locs hP hD hS ls hl
    refine lv_aload_n hx hb d_M_refine_402 rfl (lv_at hl 0 rfl) ?_
    refine lv_bipush (v := 16) hx hb d_M_refine_403 (by decide) ?_
    refine lv_aload_n hx hb d_M_refine_405 rfl (lv_at hl 0 rfl) ?_
    refine lv_bipush (v := 20) hx hb d_M_refine_406 (by decide) ?_
    refine rc_i (W.runV (As := [.int (20)]) (rest := [.int (16), .ref (ad 0)]) ⟨hx, hb, hml, hown, hts⟩ (c_M_isSingle l dC dI ad cJ cZ c0 r401n w0 s0 20 (by decide)) (cwV 1 hts (gxV gx182 gx183 gx270 gx0 gx184) rfl rfl rfl (by decide +kernel) ⟨(Nat.le_of_ble_eq_true rfl), (Nat.le_of_ble_eq_true rfl)⟩) ⟨bln, va_recv hK hP (ci := 2) (q0 := 0) rfl rfl, fun U hU hW => ⟨rfl, by rw [hU]; exact hP, va_K.moved hW.alike hK⟩⟩ rfl rfl hl.1 rfl (lv_room (Nat.le_of_ble_eq_true rfl)) d_M_refine_408 ⟨Nat.zero_le _, Nat.zero_le _⟩) ?_
    refine wz_eq (tgt := 437) hx hb d_M_refine_411 (by decide) (fun e1_437 => ?_) (fun e1_437 => ?_)
    · refine K437 r401n (hj.trans (by unfold f_M_refine_401u; first | with_reducible exact if_neg e1_437 | exact if_neg e1_437)) H locs ?_ ?_ hS ls (lv_sub hl [0] rfl)
      · with_reducible exact hP
      · with_reducible exact hD
    · refine lv_aload_n hx hb d_M_refine_414 rfl (lv_at hl 0 rfl) ?_
      refine va_get (D := (dC, dI)) (ci := 2) (v := .ref (ad 3)) (C := R_M) (T := F_M) (N := 10) hx hb hts (fun w h => List.mem_cons_of_mem _ (uw_M w h)) hown hK hP 0 rfl rfl 3 (by decide) (hG (.fieldLink R_M 16 "ValueSieveModel" "low" "[J") gx12) (fun _ h9 => h9) rfl d_M_refine_415 ?_
      refine lv_bipush (v := 20) hx hb d_M_refine_418 (by decide) ?_
      refine ml_3 (P := 20) hx hb hK hP rfl (by decide) d_M_refine_420 ?_
      refine rc_i (W.runS (As := [.long ((r401n 20).2.2.1)]) (rest := [.int (16), .ref (ad 0)]) ⟨hx, hb, hml, hown, hts⟩ (c_M_isOneBit l ((r401n 20).2.2.1)) (va_cwS 1 hts (gxS gx237 gx238 gx0 gx239) rfl rfl rfl (by decide +kernel) ⟨(Nat.le_of_ble_eq_true rfl), (Nat.le_of_ble_eq_true rfl)⟩) ⟨bl0, fun U hU hW => ⟨rfl, trivial⟩⟩ rfl rfl hl.1 rfl (lv_room (Nat.le_of_ble_eq_true rfl)) d_M_refine_421 ⟨Nat.zero_le _, Nat.zero_le _⟩) ?_
      refine wz_eq (tgt := 437) hx hb d_M_refine_424 (by decide) (fun e2_437 => ?_) (fun e2_437 => ?_)
      · refine K437 r401n (hj.trans (by unfold f_M_refine_401u; first | with_reducible exact (if_pos e1_437).trans (if_neg e2_437) | exact (if_pos e1_437).trans (if_neg e2_437))) H locs ?_ ?_ hS ls (lv_sub hl [0] rfl)
        · with_reducible exact hP
        · with_reducible exact hD
      · refine lv_aload_n hx hb d_M_refine_427 rfl (lv_at hl 0 rfl) ?_
        refine va_get (D := (dC, dI)) (ci := 2) (v := .ref (ad 3)) (C := R_M) (T := F_M) (N := 10) hx hb hts (fun w h => List.mem_cons_of_mem _ (uw_M w h)) hown hK hP 0 rfl rfl 3 (by decide) (hG (.fieldLink R_M 16 "ValueSieveModel" "low" "[J") gx12) (fun _ h9 => h9) rfl d_M_refine_428 ?_
        refine lv_bipush (v := 20) hx hb d_M_refine_431 (by decide) ?_
        refine ml_3 (P := 20) hx hb hK hP rfl (by decide) d_M_refine_433 ?_
        refine lv_goto (tgt := 438) hx hb d_M_refine_434 (by decide) ?_
        refine K438 ((r401n 20).2.2.1) r401n (hj.trans (by unfold f_M_refine_401u; first | with_reducible exact (if_pos e1_437).trans (if_pos e2_437) | exact (if_pos e1_437).trans (if_pos e2_437))) H locs ?_ ?_ hS ls (lv_sub hl [0] rfl)
        · with_reducible exact hP
        · with_reducible exact hD
  have K401 : ∀ (s401_0 : Bool) (g13 : (Nat → VV)) (hj : f_M_refine r0 p1 = f_M_refine_401 r0 p1 s401_0 g13) (H : Heap) (locs : List Loc) (hP : va_P (dC, dI) classes (mW ad cJ cZ c0 g13 w0 s0) H) (hD : va_D A (mW ad cJ cZ c0 g13 w0 s0)) (hS : va_S A s.heap H locs) (ls : Array Slot) (hl : lv_has ls 2 [(0, .ref (ad 0))]), W p l e (headSpec w_M_refine ({ frames := 6, cells := 0, slots := 0, locals := 183 } : Room)).room s m ([.ref (ad 0), .int (p1)] : List Value).toArray below meth c H locs 0 0 (MQ below (va_Qv (fun _ : Unit => True) (mB (dC, dI) A (mW ad cJ cZ c0 (f_M_refine r0 p1) w0 s0)) A) ([.ref (ad 0), .int (p1)] : List Value).toArray s 0 0 A) (F0 m 401 ls [.int (bI s401_0), .int (16), .ref (ad 7)]) := by
    intro s401_0 g13 hj H locs hP hD hS ls hl
    refine ms_7 (P := 16) (x := s401_0) hx hb hK hP hD hS rfl (by decide) d_M_refine_401 (fun H locs hP hD hS => ?_)
    obtain ⟨r401n, er401n⟩ : ∃ z, z = u7 g13 16 s401_0 := ⟨_, rfl⟩
    rw [← er401n] at hP hD
    refine K401u r401n (Eq.trans (hj.trans rfl) (congrArg (fun r401n => f_M_refine_401u r0 p1 r401n) er401n.symm)) H locs ?_ ?_ hS ls (lv_sub hl [0] rfl)
    · with_reducible exact hP
    · with_reducible exact hD
  have K396 : ∀ (g13 : (Nat → VV)) (hj : f_M_refine r0 p1 = f_M_refine_396 r0 p1 g13) (H : Heap) (locs : List Loc) (hP : va_P (dC, dI) classes (mW ad cJ cZ c0 g13 w0 s0) H) (hD : va_D A (mW ad cJ cZ c0 g13 w0 s0)) (hS : va_S A s.heap H locs) (ls : Array Slot) (hl : lv_has ls 2 [(0, .ref (ad 0))]), W p l e (headSpec w_M_refine ({ frames := 6, cells := 0, slots := 0, locals := 183 } : Room)).room s m ([.ref (ad 0), .int (p1)] : List Value).toArray below meth c H locs 0 0 (MQ below (va_Qv (fun _ : Unit => True) (mB (dC, dI) A (mW ad cJ cZ c0 (f_M_refine r0 p1) w0 s0)) A) ([.ref (ad 0), .int (p1)] : List Value).toArray s 0 0 A) (F0 m 396 ls [.int (16), .ref (ad 7)]) := by
    intro g13 hj H locs hP hD hS ls hl
    refine lv_iconst (v := 1) hx hb d_M_refine_396 (by decide) ?_
    refine lv_goto (tgt := 401) hx hb d_M_refine_397 (by decide) ?_
    refine K401 true g13 (hj.trans rfl) H locs ?_ ?_ hS ls (lv_sub hl [0] rfl)
    · with_reducible exact hP
    · with_reducible exact hD
  have K338g : ∀ (g338 : (Nat → VV)) (hj : f_M_refine r0 p1 = f_M_refine_338g r0 p1 g338) (H : Heap) (locs : List Loc) (hP : va_P (dC, dI) classes (mW ad cJ cZ c0 g338 w0 s0) H) (hD : va_D A (mW ad cJ cZ c0 g338 w0 s0)) (hS : va_S A s.heap H locs) (ls : Array Slot) (hl : lv_has ls 2 [(0, .ref (ad 0))]), W p l e (headSpec w_M_refine ({ frames := 6, cells := 0, slots := 0, locals := 183 } : Room)).room s m ([.ref (ad 0), .int (p1)] : List Value).toArray below meth c H locs 0 0 (MQ below (va_Qv (fun _ : Unit => True) (mB (dC, dI) A (mW ad cJ cZ c0 (f_M_refine r0 p1) w0 s0)) A) ([.ref (ad 0), .int (p1)] : List Value).toArray s 0 0 A) (F0 m 341 ls []) := by
    intro g338 hj H locs hP hD hS ls hl
    refine lv_goto (tgt := 581) hx hb d_M_refine_341 (by decide) ?_
    refine K581 g338 (hj.trans rfl) H locs ?_ ?_ hS ls (lv_sub hl [0] rfl)
    · with_reducible exact hP
    · with_reducible exact hD
  have K312g : ∀ (g312 : (Nat → VV)) (hj : f_M_refine r0 p1 = f_M_refine_312g r0 p1 g312) (H : Heap) (locs : List Loc) (hP : va_P (dC, dI) classes (mW ad cJ cZ c0 g312 w0 s0) H) (hD : va_D A (mW ad cJ cZ c0 g312 w0 s0)) (hS : va_S A s.heap H locs) (ls : Array Slot) (hl : lv_has ls 2 [(0, .ref (ad 0))]), W p l e (headSpec w_M_refine ({ frames := 6, cells := 0, slots := 0, locals := 183 } : Room)).room s m ([.ref (ad 0), .int (p1)] : List Value).toArray below meth c H locs 0 0 (MQ below (va_Qv (fun _ : Unit => True) (mB (dC, dI) A (mW ad cJ cZ c0 (f_M_refine r0 p1) w0 s0)) A) ([.ref (ad 0), .int (p1)] : List Value).toArray s 0 0 A) (F0 m 315 ls []) := by
    intro g312 hj H locs hP hD hS ls hl
    refine lv_goto (tgt := 581) hx hb d_M_refine_315 (by decide) ?_
    refine K581 g312 (hj.trans rfl) H locs ?_ ?_ hS ls (lv_sub hl [0] rfl)
    · with_reducible exact hP
    · with_reducible exact hD
  have K286g : ∀ (g286 : (Nat → VV)) (hj : f_M_refine r0 p1 = f_M_refine_286g r0 p1 g286) (H : Heap) (locs : List Loc) (hP : va_P (dC, dI) classes (mW ad cJ cZ c0 g286 w0 s0) H) (hD : va_D A (mW ad cJ cZ c0 g286 w0 s0)) (hS : va_S A s.heap H locs) (ls : Array Slot) (hl : lv_has ls 2 [(0, .ref (ad 0))]), W p l e (headSpec w_M_refine ({ frames := 6, cells := 0, slots := 0, locals := 183 } : Room)).room s m ([.ref (ad 0), .int (p1)] : List Value).toArray below meth c H locs 0 0 (MQ below (va_Qv (fun _ : Unit => True) (mB (dC, dI) A (mW ad cJ cZ c0 (f_M_refine r0 p1) w0 s0)) A) ([.ref (ad 0), .int (p1)] : List Value).toArray s 0 0 A) (F0 m 289 ls []) := by
    intro g286 hj H locs hP hD hS ls hl
    refine lv_goto (tgt := 581) hx hb d_M_refine_289 (by decide) ?_
    refine K581 g286 (hj.trans rfl) H locs ?_ ?_ hS ls (lv_sub hl [0] rfl)
    · with_reducible exact hP
    · with_reducible exact hD
  have K260g : ∀ (g260 : (Nat → VV)) (hj : f_M_refine r0 p1 = f_M_refine_260g r0 p1 g260) (H : Heap) (locs : List Loc) (hP : va_P (dC, dI) classes (mW ad cJ cZ c0 g260 w0 s0) H) (hD : va_D A (mW ad cJ cZ c0 g260 w0 s0)) (hS : va_S A s.heap H locs) (ls : Array Slot) (hl : lv_has ls 2 [(0, .ref (ad 0))]), W p l e (headSpec w_M_refine ({ frames := 6, cells := 0, slots := 0, locals := 183 } : Room)).room s m ([.ref (ad 0), .int (p1)] : List Value).toArray below meth c H locs 0 0 (MQ below (va_Qv (fun _ : Unit => True) (mB (dC, dI) A (mW ad cJ cZ c0 (f_M_refine r0 p1) w0 s0)) A) ([.ref (ad 0), .int (p1)] : List Value).toArray s 0 0 A) (F0 m 263 ls []) := by
    intro g260 hj H locs hP hD hS ls hl
    refine lv_goto (tgt := 581) hx hb d_M_refine_263 (by decide) ?_
    refine K581 g260 (hj.trans rfl) H locs ?_ ?_ hS ls (lv_sub hl [0] rfl)
    · with_reducible exact hP
    · with_reducible exact hD
  have K234g : ∀ (g234 : (Nat → VV)) (hj : f_M_refine r0 p1 = f_M_refine_234g r0 p1 g234) (H : Heap) (locs : List Loc) (hP : va_P (dC, dI) classes (mW ad cJ cZ c0 g234 w0 s0) H) (hD : va_D A (mW ad cJ cZ c0 g234 w0 s0)) (hS : va_S A s.heap H locs) (ls : Array Slot) (hl : lv_has ls 2 [(0, .ref (ad 0))]), W p l e (headSpec w_M_refine ({ frames := 6, cells := 0, slots := 0, locals := 183 } : Room)).room s m ([.ref (ad 0), .int (p1)] : List Value).toArray below meth c H locs 0 0 (MQ below (va_Qv (fun _ : Unit => True) (mB (dC, dI) A (mW ad cJ cZ c0 (f_M_refine r0 p1) w0 s0)) A) ([.ref (ad 0), .int (p1)] : List Value).toArray s 0 0 A) (F0 m 237 ls []) := by
    intro g234 hj H locs hP hD hS ls hl
    refine lv_goto (tgt := 581) hx hb d_M_refine_237 (by decide) ?_
    refine K581 g234 (hj.trans rfl) H locs ?_ ?_ hS ls (lv_sub hl [0] rfl)
    · with_reducible exact hP
    · with_reducible exact hD
  have K208g : ∀ (g208 : (Nat → VV)) (hj : f_M_refine r0 p1 = f_M_refine_208g r0 p1 g208) (H : Heap) (locs : List Loc) (hP : va_P (dC, dI) classes (mW ad cJ cZ c0 g208 w0 s0) H) (hD : va_D A (mW ad cJ cZ c0 g208 w0 s0)) (hS : va_S A s.heap H locs) (ls : Array Slot) (hl : lv_has ls 2 [(0, .ref (ad 0))]), W p l e (headSpec w_M_refine ({ frames := 6, cells := 0, slots := 0, locals := 183 } : Room)).room s m ([.ref (ad 0), .int (p1)] : List Value).toArray below meth c H locs 0 0 (MQ below (va_Qv (fun _ : Unit => True) (mB (dC, dI) A (mW ad cJ cZ c0 (f_M_refine r0 p1) w0 s0)) A) ([.ref (ad 0), .int (p1)] : List Value).toArray s 0 0 A) (F0 m 211 ls []) := by
    intro g208 hj H locs hP hD hS ls hl
    refine lv_goto (tgt := 581) hx hb d_M_refine_211 (by decide) ?_
    refine K581 g208 (hj.trans rfl) H locs ?_ ?_ hS ls (lv_sub hl [0] rfl)
    · with_reducible exact hP
    · with_reducible exact hD
  have K182g : ∀ (g182 : (Nat → VV)) (hj : f_M_refine r0 p1 = f_M_refine_182g r0 p1 g182) (H : Heap) (locs : List Loc) (hP : va_P (dC, dI) classes (mW ad cJ cZ c0 g182 w0 s0) H) (hD : va_D A (mW ad cJ cZ c0 g182 w0 s0)) (hS : va_S A s.heap H locs) (ls : Array Slot) (hl : lv_has ls 2 [(0, .ref (ad 0))]), W p l e (headSpec w_M_refine ({ frames := 6, cells := 0, slots := 0, locals := 183 } : Room)).room s m ([.ref (ad 0), .int (p1)] : List Value).toArray below meth c H locs 0 0 (MQ below (va_Qv (fun _ : Unit => True) (mB (dC, dI) A (mW ad cJ cZ c0 (f_M_refine r0 p1) w0 s0)) A) ([.ref (ad 0), .int (p1)] : List Value).toArray s 0 0 A) (F0 m 185 ls []) := by
    intro g182 hj H locs hP hD hS ls hl
    refine lv_goto (tgt := 581) hx hb d_M_refine_185 (by decide) ?_
    refine K581 g182 (hj.trans rfl) H locs ?_ ?_ hS ls (lv_sub hl [0] rfl)
    · with_reducible exact hP
    · with_reducible exact hD
  have K156g : ∀ (g156 : (Nat → VV)) (hj : f_M_refine r0 p1 = f_M_refine_156g r0 p1 g156) (H : Heap) (locs : List Loc) (hP : va_P (dC, dI) classes (mW ad cJ cZ c0 g156 w0 s0) H) (hD : va_D A (mW ad cJ cZ c0 g156 w0 s0)) (hS : va_S A s.heap H locs) (ls : Array Slot) (hl : lv_has ls 2 [(0, .ref (ad 0))]), W p l e (headSpec w_M_refine ({ frames := 6, cells := 0, slots := 0, locals := 183 } : Room)).room s m ([.ref (ad 0), .int (p1)] : List Value).toArray below meth c H locs 0 0 (MQ below (va_Qv (fun _ : Unit => True) (mB (dC, dI) A (mW ad cJ cZ c0 (f_M_refine r0 p1) w0 s0)) A) ([.ref (ad 0), .int (p1)] : List Value).toArray s 0 0 A) (F0 m 159 ls []) := by
    intro g156 hj H locs hP hD hS ls hl
    refine lv_goto (tgt := 581) hx hb d_M_refine_159 (by decide) ?_
    refine K581 g156 (hj.trans rfl) H locs ?_ ?_ hS ls (lv_sub hl [0] rfl)
    · with_reducible exact hP
    · with_reducible exact hD
  have K130g : ∀ (g130 : (Nat → VV)) (hj : f_M_refine r0 p1 = f_M_refine_130g r0 p1 g130) (H : Heap) (locs : List Loc) (hP : va_P (dC, dI) classes (mW ad cJ cZ c0 g130 w0 s0) H) (hD : va_D A (mW ad cJ cZ c0 g130 w0 s0)) (hS : va_S A s.heap H locs) (ls : Array Slot) (hl : lv_has ls 2 [(0, .ref (ad 0))]), W p l e (headSpec w_M_refine ({ frames := 6, cells := 0, slots := 0, locals := 183 } : Room)).room s m ([.ref (ad 0), .int (p1)] : List Value).toArray below meth c H locs 0 0 (MQ below (va_Qv (fun _ : Unit => True) (mB (dC, dI) A (mW ad cJ cZ c0 (f_M_refine r0 p1) w0 s0)) A) ([.ref (ad 0), .int (p1)] : List Value).toArray s 0 0 A) (F0 m 133 ls []) := by
    intro g130 hj H locs hP hD hS ls hl
    refine lv_goto (tgt := 581) hx hb d_M_refine_133 (by decide) ?_
    refine K581 g130 (hj.trans rfl) H locs ?_ ?_ hS ls (lv_sub hl [0] rfl)
    · with_reducible exact hP
    · with_reducible exact hD
  have K111g : ∀ (g111 : (Nat → VV)) (hj : f_M_refine r0 p1 = f_M_refine_111g r0 p1 g111) (H : Heap) (locs : List Loc) (hP : va_P (dC, dI) classes (mW ad cJ cZ c0 g111 w0 s0) H) (hD : va_D A (mW ad cJ cZ c0 g111 w0 s0)) (hS : va_S A s.heap H locs) (ls : Array Slot) (hl : lv_has ls 2 [(0, .ref (ad 0))]), W p l e (headSpec w_M_refine ({ frames := 6, cells := 0, slots := 0, locals := 183 } : Room)).room s m ([.ref (ad 0), .int (p1)] : List Value).toArray below meth c H locs 0 0 (MQ below (va_Qv (fun _ : Unit => True) (mB (dC, dI) A (mW ad cJ cZ c0 (f_M_refine r0 p1) w0 s0)) A) ([.ref (ad 0), .int (p1)] : List Value).toArray s 0 0 A) (F0 m 114 ls []) := by
    intro g111 hj H locs hP hD hS ls hl
    refine lv_aload_n hx hb d_M_refine_114 rfl (lv_at hl 0 rfl) ?_
    refine lv_bipush (v := 17) hx hb d_M_refine_115 (by decide) ?_
    refine lv_aload_n hx hb d_M_refine_117 rfl (lv_at hl 0 rfl) ?_
    refine lv_bipush (v := 19) hx hb d_M_refine_118 (by decide) ?_
    refine rc_i (W.runV (As := [.int (19)]) (rest := [.int (17), .ref (ad 0)]) ⟨hx, hb, hml, hown, hts⟩ (c_M_isSingle l dC dI ad cJ cZ c0 g111 w0 s0 19 (by decide)) (cwV 1 hts (gxV gx182 gx183 gx270 gx0 gx184) rfl rfl rfl (by decide +kernel) ⟨(Nat.le_of_ble_eq_true rfl), (Nat.le_of_ble_eq_true rfl)⟩) ⟨bln, va_recv hK hP (ci := 2) (q0 := 0) rfl rfl, fun U hU hW => ⟨rfl, by rw [hU]; exact hP, va_K.moved hW.alike hK⟩⟩ rfl rfl hl.1 rfl (lv_room (Nat.le_of_ble_eq_true rfl)) d_M_refine_120 ⟨Nat.zero_le _, Nat.zero_le _⟩) ?_
    refine lv_aload_n hx hb d_M_refine_123 rfl (lv_at hl 0 rfl) ?_
    refine va_get (D := (dC, dI)) (ci := 2) (v := .ref (ad 3)) (C := R_M) (T := F_M) (N := 10) hx hb hts (fun w h => List.mem_cons_of_mem _ (uw_M w h)) hown hK hP 0 rfl rfl 3 (by decide) (hG (.fieldLink R_M 16 "ValueSieveModel" "low" "[J") gx12) (fun _ h9 => h9) rfl d_M_refine_124 ?_
    refine lv_bipush (v := 19) hx hb d_M_refine_127 (by decide) ?_
    refine ml_3 (P := 19) hx hb hK hP rfl (by decide) d_M_refine_129 ?_
    refine mm_v (F := f_M_lose g111 17 (f_M_isSingle g111 19) ((g111 19).2.2.1)) (w1 := fun g130 => (mW ad cJ cZ c0 g130 w0 s0)) (va_runV (As := [.int (17), .int (bI (f_M_isSingle g111 19)), .long ((g111 19).2.2.1)]) (rest := []) ⟨hx, hb, hml, hown, hts⟩ (c_M_lose l dC dI ad cJ cZ H.size c0 g111 w0 s0 17 (f_M_isSingle g111 19) ((g111 19).2.2.1) (by decide)) (cwV 3 hts (gxV gx228 gx229 gx300 gx0 gx230) rfl rfl rfl (by decide +kernel) ⟨(Nat.le_of_ble_eq_true rfl), (Nat.le_of_ble_eq_true rfl)⟩) ⟨blp, va_recv hK hP (ci := 2) (q0 := 0) rfl rfl, fun U hU hW => ⟨rfl, by rw [hU], by rw [hU]; exact hP, va_K.moved hW.alike hK, hD.weaken (fun _ _ _ _ => trivial)⟩⟩ rfl rfl hl.1 rfl (lv_room (Nat.le_of_ble_eq_true rfl)) d_M_refine_130 ⟨Nat.zero_le _, Nat.zero_le _⟩) hD hS hA (fun g130 eg130 H locs hP hD hS => ?_)
    refine K130g g130 (Eq.trans (hj.trans rfl) (congrArg (fun g130 => f_M_refine_130g r0 p1 g130) eg130)) H locs ?_ ?_ hS ls (lv_sub hl [0] rfl)
    · with_reducible exact hP
    · with_reducible exact hD
  have K89g : ∀ (g89 : (Nat → VV)) (hj : f_M_refine r0 p1 = f_M_refine_89g r0 p1 g89) (H : Heap) (locs : List Loc) (hP : va_P (dC, dI) classes (mW ad cJ cZ c0 g89 w0 s0) H) (hD : va_D A (mW ad cJ cZ c0 g89 w0 s0)) (hS : va_S A s.heap H locs) (ls : Array Slot) (hl : lv_has ls 2 [(0, .ref (ad 0))]), W p l e (headSpec w_M_refine ({ frames := 6, cells := 0, slots := 0, locals := 183 } : Room)).room s m ([.ref (ad 0), .int (p1)] : List Value).toArray below meth c H locs 0 0 (MQ below (va_Qv (fun _ : Unit => True) (mB (dC, dI) A (mW ad cJ cZ c0 (f_M_refine r0 p1) w0 s0)) A) ([.ref (ad 0), .int (p1)] : List Value).toArray s 0 0 A) (F0 m 92 ls []) := by
    intro g89 hj H locs hP hD hS ls hl
    refine lv_goto (tgt := 581) hx hb d_M_refine_92 (by decide) ?_
    refine K581 g89 (hj.trans rfl) H locs ?_ ?_ hS ls (lv_sub hl [0] rfl)
    · with_reducible exact hP
    · with_reducible exact hD
  have K81g : ∀ (g81 : (Nat → VV)) (hj : f_M_refine r0 p1 = f_M_refine_81g r0 p1 g81) (H : Heap) (locs : List Loc) (hP : va_P (dC, dI) classes (mW ad cJ cZ c0 g81 w0 s0) H) (hD : va_D A (mW ad cJ cZ c0 g81 w0 s0)) (hS : va_S A s.heap H locs) (ls : Array Slot) (hl : lv_has ls 2 [(0, .ref (ad 0))]), W p l e (headSpec w_M_refine ({ frames := 6, cells := 0, slots := 0, locals := 183 } : Room)).room s m ([.ref (ad 0), .int (p1)] : List Value).toArray below meth c H locs 0 0 (MQ below (va_Qv (fun _ : Unit => True) (mB (dC, dI) A (mW ad cJ cZ c0 (f_M_refine r0 p1) w0 s0)) A) ([.ref (ad 0), .int (p1)] : List Value).toArray s 0 0 A) (F0 m 84 ls []) := by
    intro g81 hj H locs hP hD hS ls hl
    refine lv_aload_n hx hb d_M_refine_84 rfl (lv_at hl 0 rfl) ?_
    refine lv_bipush (v := 17) hx hb d_M_refine_85 (by decide) ?_
    refine lv_bipush (v := 19) hx hb d_M_refine_87 (by decide) ?_
    refine mm_v (F := f_M_both g81 17 19) (w1 := fun g89 => (mW ad cJ cZ c0 g89 w0 s0)) (va_runV (As := [.int (17), .int (19)]) (rest := []) ⟨hx, hb, hml, hown, hts⟩ (c_M_both l dC dI ad cJ cZ H.size c0 g81 w0 s0 17 19 (by decide) (by decide)) (cwV 2 hts (gxV gx225 gx226 gx299 gx0 gx227) rfl rfl rfl (by decide +kernel) ⟨(Nat.le_of_ble_eq_true rfl), (Nat.le_of_ble_eq_true rfl)⟩) ⟨blp, va_recv hK hP (ci := 2) (q0 := 0) rfl rfl, fun U hU hW => ⟨rfl, by rw [hU], by rw [hU]; exact hP, va_K.moved hW.alike hK, hD.weaken (fun _ _ _ _ => trivial)⟩⟩ rfl rfl hl.1 rfl (lv_room (Nat.le_of_ble_eq_true rfl)) d_M_refine_89 ⟨Nat.zero_le _, Nat.zero_le _⟩) hD hS hA (fun g89 eg89 H locs hP hD hS => ?_)
    refine K89g g89 (Eq.trans (hj.trans rfl) (congrArg (fun g89 => f_M_refine_89g r0 p1 g89) eg89)) H locs ?_ ?_ hS ls (lv_sub hl [0] rfl)
    · with_reducible exact hP
    · with_reducible exact hD
  have K13g : ∀ (g13 : (Nat → VV)) (hj : f_M_refine r0 p1 = f_M_refine_13g r0 p1 g13) (H : Heap) (locs : List Loc) (hP : va_P (dC, dI) classes (mW ad cJ cZ c0 g13 w0 s0) H) (hD : va_D A (mW ad cJ cZ c0 g13 w0 s0)) (hS : va_S A s.heap H locs) (ls : Array Slot) (hl : lv_has ls 2 [(0, .ref (ad 0)), (1, .int (p1))]), W p l e (headSpec w_M_refine ({ frames := 6, cells := 0, slots := 0, locals := 183 } : Room)).room s m ([.ref (ad 0), .int (p1)] : List Value).toArray below meth c H locs 0 0 (MQ below (va_Qv (fun _ : Unit => True) (mB (dC, dI) A (mW ad cJ cZ c0 (f_M_refine r0 p1) w0 s0)) A) ([.ref (ad 0), .int (p1)] : List Value).toArray s 0 0 A) (F0 m 16 ls []) := by
    intro g13 hj H locs hP hD hS ls hl
    refine lv_iload_n hx hb d_M_refine_16 rfl (lv_at hl 1 rfl) ?_
    by_cases e1_76 : p1 = 0
    · refine lv_tableIn (off := 59) (tgt := 76) hx hb d_M_refine_17 (by rw [e1_76]; decide) (by rw [e1_76]; decide) (by rw [e1_76]; rfl) (by decide) ?_
      refine lv_aload_n hx hb d_M_refine_76 rfl (lv_at hl 0 rfl) ?_
      refine lv_bipush (v := 16) hx hb d_M_refine_77 (by decide) ?_
      refine lv_bipush (v := 20) hx hb d_M_refine_79 (by decide) ?_
      refine mm_v (F := f_M_both g13 16 20) (w1 := fun g81 => (mW ad cJ cZ c0 g81 w0 s0)) (va_runV (As := [.int (16), .int (20)]) (rest := []) ⟨hx, hb, hml, hown, hts⟩ (c_M_both l dC dI ad cJ cZ H.size c0 g13 w0 s0 16 20 (by decide) (by decide)) (cwV 2 hts (gxV gx225 gx226 gx299 gx0 gx227) rfl rfl rfl (by decide +kernel) ⟨(Nat.le_of_ble_eq_true rfl), (Nat.le_of_ble_eq_true rfl)⟩) ⟨blp, va_recv hK hP (ci := 2) (q0 := 0) rfl rfl, fun U hU hW => ⟨rfl, by rw [hU], by rw [hU]; exact hP, va_K.moved hW.alike hK, hD.weaken (fun _ _ _ _ => trivial)⟩⟩ rfl rfl hl.1 rfl (lv_room (Nat.le_of_ble_eq_true rfl)) d_M_refine_81 ⟨Nat.zero_le _, Nat.zero_le _⟩) hD hS hA (fun g81 eg81 H locs hP hD hS => ?_)
      refine K81g g81 (Eq.trans (hj.trans (by unfold f_M_refine_13g; first | with_reducible exact if_pos e1_76 | exact if_pos e1_76)) (congrArg (fun g81 => f_M_refine_81g r0 p1 g81) eg81)) H locs ?_ ?_ hS ls (lv_sub hl [0] rfl)
      · with_reducible exact hP
      · with_reducible exact hD
    by_cases e2_95 : p1 = 1
    · refine lv_tableIn (off := 78) (tgt := 95) hx hb d_M_refine_17 (by rw [e2_95]; decide) (by rw [e2_95]; decide) (by rw [e2_95]; rfl) (by decide) ?_
      refine lv_aload_n hx hb d_M_refine_95 rfl (lv_at hl 0 rfl) ?_
      refine lv_bipush (v := 16) hx hb d_M_refine_96 (by decide) ?_
      refine lv_aload_n hx hb d_M_refine_98 rfl (lv_at hl 0 rfl) ?_
      refine lv_bipush (v := 20) hx hb d_M_refine_99 (by decide) ?_
      refine rc_i (W.runV (As := [.int (20)]) (rest := [.int (16), .ref (ad 0)]) ⟨hx, hb, hml, hown, hts⟩ (c_M_isSingle l dC dI ad cJ cZ c0 g13 w0 s0 20 (by decide)) (cwV 1 hts (gxV gx182 gx183 gx270 gx0 gx184) rfl rfl rfl (by decide +kernel) ⟨(Nat.le_of_ble_eq_true rfl), (Nat.le_of_ble_eq_true rfl)⟩) ⟨bln, va_recv hK hP (ci := 2) (q0 := 0) rfl rfl, fun U hU hW => ⟨rfl, by rw [hU]; exact hP, va_K.moved hW.alike hK⟩⟩ rfl rfl hl.1 rfl (lv_room (Nat.le_of_ble_eq_true rfl)) d_M_refine_101 ⟨Nat.zero_le _, Nat.zero_le _⟩) ?_
      refine lv_aload_n hx hb d_M_refine_104 rfl (lv_at hl 0 rfl) ?_
      refine va_get (D := (dC, dI)) (ci := 2) (v := .ref (ad 3)) (C := R_M) (T := F_M) (N := 10) hx hb hts (fun w h => List.mem_cons_of_mem _ (uw_M w h)) hown hK hP 0 rfl rfl 3 (by decide) (hG (.fieldLink R_M 16 "ValueSieveModel" "low" "[J") gx12) (fun _ h9 => h9) rfl d_M_refine_105 ?_
      refine lv_bipush (v := 20) hx hb d_M_refine_108 (by decide) ?_
      refine ml_3 (P := 20) hx hb hK hP rfl (by decide) d_M_refine_110 ?_
      refine mm_v (F := f_M_lose g13 16 (f_M_isSingle g13 20) ((g13 20).2.2.1)) (w1 := fun g111 => (mW ad cJ cZ c0 g111 w0 s0)) (va_runV (As := [.int (16), .int (bI (f_M_isSingle g13 20)), .long ((g13 20).2.2.1)]) (rest := []) ⟨hx, hb, hml, hown, hts⟩ (c_M_lose l dC dI ad cJ cZ H.size c0 g13 w0 s0 16 (f_M_isSingle g13 20) ((g13 20).2.2.1) (by decide)) (cwV 3 hts (gxV gx228 gx229 gx300 gx0 gx230) rfl rfl rfl (by decide +kernel) ⟨(Nat.le_of_ble_eq_true rfl), (Nat.le_of_ble_eq_true rfl)⟩) ⟨blp, va_recv hK hP (ci := 2) (q0 := 0) rfl rfl, fun U hU hW => ⟨rfl, by rw [hU], by rw [hU]; exact hP, va_K.moved hW.alike hK, hD.weaken (fun _ _ _ _ => trivial)⟩⟩ rfl rfl hl.1 rfl (lv_room (Nat.le_of_ble_eq_true rfl)) d_M_refine_111 ⟨Nat.zero_le _, Nat.zero_le _⟩) hD hS hA (fun g111 eg111 H locs hP hD hS => ?_)
      refine K111g g111 (Eq.trans (hj.trans (by unfold f_M_refine_13g; first | with_reducible exact (if_neg e1_76).trans (if_pos e2_95) | exact (if_neg e1_76).trans (if_pos e2_95))) (congrArg (fun g111 => f_M_refine_111g r0 p1 g111) eg111)) H locs ?_ ?_ hS ls (lv_sub hl [0] rfl)
      · with_reducible exact hP
      · with_reducible exact hD
    by_cases e3_136 : p1 = 2
    · refine lv_tableIn (off := 119) (tgt := 136) hx hb d_M_refine_17 (by rw [e3_136]; decide) (by rw [e3_136]; decide) (by rw [e3_136]; rfl) (by decide) ?_
      refine lv_aload_n hx hb d_M_refine_136 rfl (lv_at hl 0 rfl) ?_
      refine lv_bipush (v := 16) hx hb d_M_refine_137 (by decide) ?_
      refine lv_bipush (v := 17) hx hb d_M_refine_139 (by decide) ?_
      refine lv_aload_n hx hb d_M_refine_141 rfl (lv_at hl 0 rfl) ?_
      refine va_get (D := (dC, dI)) (ci := 2) (v := .ref (ad 4)) (C := R_M) (T := F_M) (N := 10) hx hb hts (fun w h => List.mem_cons_of_mem _ (uw_M w h)) hown hK hP 0 rfl rfl 4 (by decide) (hG (.fieldLink R_M 19 "ValueSieveModel" "high" "[J") gx13) (fun _ h9 => h9) rfl d_M_refine_142 ?_
      refine lv_bipush (v := 20) hx hb d_M_refine_145 (by decide) ?_
      refine ml_4 (P := 20) hx hb hK hP rfl (by decide) d_M_refine_147 ?_
      refine lv_aload_n hx hb d_M_refine_148 rfl (lv_at hl 0 rfl) ?_
      refine va_get (D := (dC, dI)) (ci := 2) (v := .ref (ad 3)) (C := R_M) (T := F_M) (N := 10) hx hb hts (fun w h => List.mem_cons_of_mem _ (uw_M w h)) hown hK hP 0 rfl rfl 3 (by decide) (hG (.fieldLink R_M 16 "ValueSieveModel" "low" "[J") gx12) (fun _ h9 => h9) rfl d_M_refine_149 ?_
      refine lv_bipush (v := 19) hx hb d_M_refine_152 (by decide) ?_
      refine ml_3 (P := 19) hx hb hK hP rfl (by decide) d_M_refine_154 ?_
      refine lv_iconst (v := 1) hx hb d_M_refine_155 (by decide) ?_
      refine mm_v (F := f_M_order g13 16 17 ((g13 20).2.2.2.1) ((g13 19).2.2.1) true) (w1 := fun g156 => (mW ad cJ cZ c0 g156 w0 s0)) (va_runV (As := [.int (16), .int (17), .long ((g13 20).2.2.2.1), .long ((g13 19).2.2.1), .int (1)]) (rest := []) ⟨hx, hb, hml, hown, hts⟩ (c_M_order l dC dI ad cJ cZ H.size c0 g13 w0 s0 16 17 ((g13 20).2.2.2.1) ((g13 19).2.2.1) true (by decide) (by decide)) (cwV 5 hts (gxV gx231 gx232 gx301 gx0 gx233) rfl rfl rfl (by decide +kernel) ⟨(Nat.le_of_ble_eq_true rfl), (Nat.le_of_ble_eq_true rfl)⟩) ⟨blp, va_recv hK hP (ci := 2) (q0 := 0) rfl rfl, fun U hU hW => ⟨rfl, by rw [hU], by rw [hU]; exact hP, va_K.moved hW.alike hK, hD.weaken (fun _ _ _ _ => trivial)⟩⟩ rfl rfl hl.1 rfl (lv_room (Nat.le_of_ble_eq_true rfl)) d_M_refine_156 ⟨Nat.zero_le _, Nat.zero_le _⟩) hD hS hA (fun g156 eg156 H locs hP hD hS => ?_)
      refine K156g g156 (Eq.trans (hj.trans (by unfold f_M_refine_13g; first | with_reducible exact (if_neg e1_76).trans ((if_neg e2_95).trans (if_pos e3_136)) | exact (if_neg e1_76).trans ((if_neg e2_95).trans (if_pos e3_136)))) (congrArg (fun g156 => f_M_refine_156g r0 p1 g156) eg156)) H locs ?_ ?_ hS ls (lv_sub hl [0] rfl)
      · with_reducible exact hP
      · with_reducible exact hD
    by_cases e4_162 : p1 = 3
    · refine lv_tableIn (off := 145) (tgt := 162) hx hb d_M_refine_17 (by rw [e4_162]; decide) (by rw [e4_162]; decide) (by rw [e4_162]; rfl) (by decide) ?_
      refine lv_aload_n hx hb d_M_refine_162 rfl (lv_at hl 0 rfl) ?_
      refine lv_bipush (v := 16) hx hb d_M_refine_163 (by decide) ?_
      refine lv_bipush (v := 17) hx hb d_M_refine_165 (by decide) ?_
      refine lv_aload_n hx hb d_M_refine_167 rfl (lv_at hl 0 rfl) ?_
      refine va_get (D := (dC, dI)) (ci := 2) (v := .ref (ad 4)) (C := R_M) (T := F_M) (N := 10) hx hb hts (fun w h => List.mem_cons_of_mem _ (uw_M w h)) hown hK hP 0 rfl rfl 4 (by decide) (hG (.fieldLink R_M 19 "ValueSieveModel" "high" "[J") gx13) (fun _ h9 => h9) rfl d_M_refine_168 ?_
      refine lv_bipush (v := 20) hx hb d_M_refine_171 (by decide) ?_
      refine ml_4 (P := 20) hx hb hK hP rfl (by decide) d_M_refine_173 ?_
      refine lv_aload_n hx hb d_M_refine_174 rfl (lv_at hl 0 rfl) ?_
      refine va_get (D := (dC, dI)) (ci := 2) (v := .ref (ad 3)) (C := R_M) (T := F_M) (N := 10) hx hb hts (fun w h => List.mem_cons_of_mem _ (uw_M w h)) hown hK hP 0 rfl rfl 3 (by decide) (hG (.fieldLink R_M 16 "ValueSieveModel" "low" "[J") gx12) (fun _ h9 => h9) rfl d_M_refine_175 ?_
      refine lv_bipush (v := 19) hx hb d_M_refine_178 (by decide) ?_
      refine ml_3 (P := 19) hx hb hK hP rfl (by decide) d_M_refine_180 ?_
      refine lv_iconst (v := 0) hx hb d_M_refine_181 (by decide) ?_
      refine mm_v (F := f_M_order g13 16 17 ((g13 20).2.2.2.1) ((g13 19).2.2.1) false) (w1 := fun g182 => (mW ad cJ cZ c0 g182 w0 s0)) (va_runV (As := [.int (16), .int (17), .long ((g13 20).2.2.2.1), .long ((g13 19).2.2.1), .int (0)]) (rest := []) ⟨hx, hb, hml, hown, hts⟩ (c_M_order l dC dI ad cJ cZ H.size c0 g13 w0 s0 16 17 ((g13 20).2.2.2.1) ((g13 19).2.2.1) false (by decide) (by decide)) (cwV 5 hts (gxV gx231 gx232 gx301 gx0 gx233) rfl rfl rfl (by decide +kernel) ⟨(Nat.le_of_ble_eq_true rfl), (Nat.le_of_ble_eq_true rfl)⟩) ⟨blp, va_recv hK hP (ci := 2) (q0 := 0) rfl rfl, fun U hU hW => ⟨rfl, by rw [hU], by rw [hU]; exact hP, va_K.moved hW.alike hK, hD.weaken (fun _ _ _ _ => trivial)⟩⟩ rfl rfl hl.1 rfl (lv_room (Nat.le_of_ble_eq_true rfl)) d_M_refine_182 ⟨Nat.zero_le _, Nat.zero_le _⟩) hD hS hA (fun g182 eg182 H locs hP hD hS => ?_)
      refine K182g g182 (Eq.trans (hj.trans (by unfold f_M_refine_13g; first | with_reducible exact (if_neg e1_76).trans ((if_neg e2_95).trans ((if_neg e3_136).trans (if_pos e4_162))) | exact (if_neg e1_76).trans ((if_neg e2_95).trans ((if_neg e3_136).trans (if_pos e4_162))))) (congrArg (fun g182 => f_M_refine_182g r0 p1 g182) eg182)) H locs ?_ ?_ hS ls (lv_sub hl [0] rfl)
      · with_reducible exact hP
      · with_reducible exact hD
    by_cases e5_188 : p1 = 4
    · refine lv_tableIn (off := 171) (tgt := 188) hx hb d_M_refine_17 (by rw [e5_188]; decide) (by rw [e5_188]; decide) (by rw [e5_188]; rfl) (by decide) ?_
      refine lv_aload_n hx hb d_M_refine_188 rfl (lv_at hl 0 rfl) ?_
      refine lv_bipush (v := 17) hx hb d_M_refine_189 (by decide) ?_
      refine lv_bipush (v := 16) hx hb d_M_refine_191 (by decide) ?_
      refine lv_aload_n hx hb d_M_refine_193 rfl (lv_at hl 0 rfl) ?_
      refine va_get (D := (dC, dI)) (ci := 2) (v := .ref (ad 4)) (C := R_M) (T := F_M) (N := 10) hx hb hts (fun w h => List.mem_cons_of_mem _ (uw_M w h)) hown hK hP 0 rfl rfl 4 (by decide) (hG (.fieldLink R_M 19 "ValueSieveModel" "high" "[J") gx13) (fun _ h9 => h9) rfl d_M_refine_194 ?_
      refine lv_bipush (v := 19) hx hb d_M_refine_197 (by decide) ?_
      refine ml_4 (P := 19) hx hb hK hP rfl (by decide) d_M_refine_199 ?_
      refine lv_aload_n hx hb d_M_refine_200 rfl (lv_at hl 0 rfl) ?_
      refine va_get (D := (dC, dI)) (ci := 2) (v := .ref (ad 3)) (C := R_M) (T := F_M) (N := 10) hx hb hts (fun w h => List.mem_cons_of_mem _ (uw_M w h)) hown hK hP 0 rfl rfl 3 (by decide) (hG (.fieldLink R_M 16 "ValueSieveModel" "low" "[J") gx12) (fun _ h9 => h9) rfl d_M_refine_201 ?_
      refine lv_bipush (v := 20) hx hb d_M_refine_204 (by decide) ?_
      refine ml_3 (P := 20) hx hb hK hP rfl (by decide) d_M_refine_206 ?_
      refine lv_iconst (v := 1) hx hb d_M_refine_207 (by decide) ?_
      refine mm_v (F := f_M_order g13 17 16 ((g13 19).2.2.2.1) ((g13 20).2.2.1) true) (w1 := fun g208 => (mW ad cJ cZ c0 g208 w0 s0)) (va_runV (As := [.int (17), .int (16), .long ((g13 19).2.2.2.1), .long ((g13 20).2.2.1), .int (1)]) (rest := []) ⟨hx, hb, hml, hown, hts⟩ (c_M_order l dC dI ad cJ cZ H.size c0 g13 w0 s0 17 16 ((g13 19).2.2.2.1) ((g13 20).2.2.1) true (by decide) (by decide)) (cwV 5 hts (gxV gx231 gx232 gx301 gx0 gx233) rfl rfl rfl (by decide +kernel) ⟨(Nat.le_of_ble_eq_true rfl), (Nat.le_of_ble_eq_true rfl)⟩) ⟨blp, va_recv hK hP (ci := 2) (q0 := 0) rfl rfl, fun U hU hW => ⟨rfl, by rw [hU], by rw [hU]; exact hP, va_K.moved hW.alike hK, hD.weaken (fun _ _ _ _ => trivial)⟩⟩ rfl rfl hl.1 rfl (lv_room (Nat.le_of_ble_eq_true rfl)) d_M_refine_208 ⟨Nat.zero_le _, Nat.zero_le _⟩) hD hS hA (fun g208 eg208 H locs hP hD hS => ?_)
      refine K208g g208 (Eq.trans (hj.trans (by unfold f_M_refine_13g; first | with_reducible exact (if_neg e1_76).trans ((if_neg e2_95).trans ((if_neg e3_136).trans ((if_neg e4_162).trans (if_pos e5_188)))) | exact (if_neg e1_76).trans ((if_neg e2_95).trans ((if_neg e3_136).trans ((if_neg e4_162).trans (if_pos e5_188)))))) (congrArg (fun g208 => f_M_refine_208g r0 p1 g208) eg208)) H locs ?_ ?_ hS ls (lv_sub hl [0] rfl)
      · with_reducible exact hP
      · with_reducible exact hD
    by_cases e6_214 : p1 = 5
    · refine lv_tableIn (off := 197) (tgt := 214) hx hb d_M_refine_17 (by rw [e6_214]; decide) (by rw [e6_214]; decide) (by rw [e6_214]; rfl) (by decide) ?_
      refine lv_aload_n hx hb d_M_refine_214 rfl (lv_at hl 0 rfl) ?_
      refine lv_bipush (v := 17) hx hb d_M_refine_215 (by decide) ?_
      refine lv_bipush (v := 16) hx hb d_M_refine_217 (by decide) ?_
      refine lv_aload_n hx hb d_M_refine_219 rfl (lv_at hl 0 rfl) ?_
      refine va_get (D := (dC, dI)) (ci := 2) (v := .ref (ad 4)) (C := R_M) (T := F_M) (N := 10) hx hb hts (fun w h => List.mem_cons_of_mem _ (uw_M w h)) hown hK hP 0 rfl rfl 4 (by decide) (hG (.fieldLink R_M 19 "ValueSieveModel" "high" "[J") gx13) (fun _ h9 => h9) rfl d_M_refine_220 ?_
      refine lv_bipush (v := 19) hx hb d_M_refine_223 (by decide) ?_
      refine ml_4 (P := 19) hx hb hK hP rfl (by decide) d_M_refine_225 ?_
      refine lv_aload_n hx hb d_M_refine_226 rfl (lv_at hl 0 rfl) ?_
      refine va_get (D := (dC, dI)) (ci := 2) (v := .ref (ad 3)) (C := R_M) (T := F_M) (N := 10) hx hb hts (fun w h => List.mem_cons_of_mem _ (uw_M w h)) hown hK hP 0 rfl rfl 3 (by decide) (hG (.fieldLink R_M 16 "ValueSieveModel" "low" "[J") gx12) (fun _ h9 => h9) rfl d_M_refine_227 ?_
      refine lv_bipush (v := 20) hx hb d_M_refine_230 (by decide) ?_
      refine ml_3 (P := 20) hx hb hK hP rfl (by decide) d_M_refine_232 ?_
      refine lv_iconst (v := 0) hx hb d_M_refine_233 (by decide) ?_
      refine mm_v (F := f_M_order g13 17 16 ((g13 19).2.2.2.1) ((g13 20).2.2.1) false) (w1 := fun g234 => (mW ad cJ cZ c0 g234 w0 s0)) (va_runV (As := [.int (17), .int (16), .long ((g13 19).2.2.2.1), .long ((g13 20).2.2.1), .int (0)]) (rest := []) ⟨hx, hb, hml, hown, hts⟩ (c_M_order l dC dI ad cJ cZ H.size c0 g13 w0 s0 17 16 ((g13 19).2.2.2.1) ((g13 20).2.2.1) false (by decide) (by decide)) (cwV 5 hts (gxV gx231 gx232 gx301 gx0 gx233) rfl rfl rfl (by decide +kernel) ⟨(Nat.le_of_ble_eq_true rfl), (Nat.le_of_ble_eq_true rfl)⟩) ⟨blp, va_recv hK hP (ci := 2) (q0 := 0) rfl rfl, fun U hU hW => ⟨rfl, by rw [hU], by rw [hU]; exact hP, va_K.moved hW.alike hK, hD.weaken (fun _ _ _ _ => trivial)⟩⟩ rfl rfl hl.1 rfl (lv_room (Nat.le_of_ble_eq_true rfl)) d_M_refine_234 ⟨Nat.zero_le _, Nat.zero_le _⟩) hD hS hA (fun g234 eg234 H locs hP hD hS => ?_)
      refine K234g g234 (Eq.trans (hj.trans (by unfold f_M_refine_13g; first | with_reducible exact (if_neg e1_76).trans ((if_neg e2_95).trans ((if_neg e3_136).trans ((if_neg e4_162).trans ((if_neg e5_188).trans (if_pos e6_214))))) | exact (if_neg e1_76).trans ((if_neg e2_95).trans ((if_neg e3_136).trans ((if_neg e4_162).trans ((if_neg e5_188).trans (if_pos e6_214))))))) (congrArg (fun g234 => f_M_refine_234g r0 p1 g234) eg234)) H locs ?_ ?_ hS ls (lv_sub hl [0] rfl)
      · with_reducible exact hP
      · with_reducible exact hD
    by_cases e7_240 : p1 = 6
    · refine lv_tableIn (off := 223) (tgt := 240) hx hb d_M_refine_17 (by rw [e7_240]; decide) (by rw [e7_240]; decide) (by rw [e7_240]; rfl) (by decide) ?_
      refine lv_aload_n hx hb d_M_refine_240 rfl (lv_at hl 0 rfl) ?_
      refine lv_bipush (v := 16) hx hb d_M_refine_241 (by decide) ?_
      refine lv_bipush (v := 17) hx hb d_M_refine_243 (by decide) ?_
      refine lv_aload_n hx hb d_M_refine_245 rfl (lv_at hl 0 rfl) ?_
      refine va_get (D := (dC, dI)) (ci := 2) (v := .ref (ad 6)) (C := R_M) (T := F_M) (N := 10) hx hb hts (fun w h => List.mem_cons_of_mem _ (uw_M w h)) hown hK hP 0 rfl rfl 6 (by decide) (hG (.fieldLink R_M 25 "ValueSieveModel" "greatest" "[J") gx15) (fun _ h9 => h9) rfl d_M_refine_246 ?_
      refine lv_bipush (v := 20) hx hb d_M_refine_249 (by decide) ?_
      refine ml_6 (P := 20) hx hb hK hP rfl (by decide) d_M_refine_251 ?_
      refine lv_aload_n hx hb d_M_refine_252 rfl (lv_at hl 0 rfl) ?_
      refine va_get (D := (dC, dI)) (ci := 2) (v := .ref (ad 5)) (C := R_M) (T := F_M) (N := 10) hx hb hts (fun w h => List.mem_cons_of_mem _ (uw_M w h)) hown hK hP 0 rfl rfl 5 (by decide) (hG (.fieldLink R_M 22 "ValueSieveModel" "least" "[J") gx14) (fun _ h9 => h9) rfl d_M_refine_253 ?_
      refine lv_bipush (v := 19) hx hb d_M_refine_256 (by decide) ?_
      refine ml_5 (P := 19) hx hb hK hP rfl (by decide) d_M_refine_258 ?_
      refine lv_iconst (v := 1) hx hb d_M_refine_259 (by decide) ?_
      refine mm_v (F := f_M_orderLongs g13 16 17 ((g13 20).2.2.2.2.2.1) ((g13 19).2.2.2.2.1) true) (w1 := fun g260 => (mW ad cJ cZ c0 g260 w0 s0)) (va_runV (As := [.int (16), .int (17), .long ((g13 20).2.2.2.2.2.1), .long ((g13 19).2.2.2.2.1), .int (1)]) (rest := []) ⟨hx, hb, hml, hown, hts⟩ (c_M_orderLongs l dC dI ad cJ cZ H.size c0 g13 w0 s0 16 17 ((g13 20).2.2.2.2.2.1) ((g13 19).2.2.2.2.1) true (by decide) (by decide)) (cwV 5 hts (gxV gx234 gx235 gx302 gx0 gx236) rfl rfl rfl (by decide +kernel) ⟨(Nat.le_of_ble_eq_true rfl), (Nat.le_of_ble_eq_true rfl)⟩) ⟨blp, va_recv hK hP (ci := 2) (q0 := 0) rfl rfl, fun U hU hW => ⟨rfl, by rw [hU], by rw [hU]; exact hP, va_K.moved hW.alike hK, hD.weaken (fun _ _ _ _ => trivial)⟩⟩ rfl rfl hl.1 rfl (lv_room (Nat.le_of_ble_eq_true rfl)) d_M_refine_260 ⟨Nat.zero_le _, Nat.zero_le _⟩) hD hS hA (fun g260 eg260 H locs hP hD hS => ?_)
      refine K260g g260 (Eq.trans (hj.trans (by unfold f_M_refine_13g; first | with_reducible exact (if_neg e1_76).trans ((if_neg e2_95).trans ((if_neg e3_136).trans ((if_neg e4_162).trans ((if_neg e5_188).trans ((if_neg e6_214).trans (if_pos e7_240)))))) | exact (if_neg e1_76).trans ((if_neg e2_95).trans ((if_neg e3_136).trans ((if_neg e4_162).trans ((if_neg e5_188).trans ((if_neg e6_214).trans (if_pos e7_240)))))))) (congrArg (fun g260 => f_M_refine_260g r0 p1 g260) eg260)) H locs ?_ ?_ hS ls (lv_sub hl [0] rfl)
      · with_reducible exact hP
      · with_reducible exact hD
    by_cases e8_266 : p1 = 7
    · refine lv_tableIn (off := 249) (tgt := 266) hx hb d_M_refine_17 (by rw [e8_266]; decide) (by rw [e8_266]; decide) (by rw [e8_266]; rfl) (by decide) ?_
      refine lv_aload_n hx hb d_M_refine_266 rfl (lv_at hl 0 rfl) ?_
      refine lv_bipush (v := 16) hx hb d_M_refine_267 (by decide) ?_
      refine lv_bipush (v := 17) hx hb d_M_refine_269 (by decide) ?_
      refine lv_aload_n hx hb d_M_refine_271 rfl (lv_at hl 0 rfl) ?_
      refine va_get (D := (dC, dI)) (ci := 2) (v := .ref (ad 6)) (C := R_M) (T := F_M) (N := 10) hx hb hts (fun w h => List.mem_cons_of_mem _ (uw_M w h)) hown hK hP 0 rfl rfl 6 (by decide) (hG (.fieldLink R_M 25 "ValueSieveModel" "greatest" "[J") gx15) (fun _ h9 => h9) rfl d_M_refine_272 ?_
      refine lv_bipush (v := 20) hx hb d_M_refine_275 (by decide) ?_
      refine ml_6 (P := 20) hx hb hK hP rfl (by decide) d_M_refine_277 ?_
      refine lv_aload_n hx hb d_M_refine_278 rfl (lv_at hl 0 rfl) ?_
      refine va_get (D := (dC, dI)) (ci := 2) (v := .ref (ad 5)) (C := R_M) (T := F_M) (N := 10) hx hb hts (fun w h => List.mem_cons_of_mem _ (uw_M w h)) hown hK hP 0 rfl rfl 5 (by decide) (hG (.fieldLink R_M 22 "ValueSieveModel" "least" "[J") gx14) (fun _ h9 => h9) rfl d_M_refine_279 ?_
      refine lv_bipush (v := 19) hx hb d_M_refine_282 (by decide) ?_
      refine ml_5 (P := 19) hx hb hK hP rfl (by decide) d_M_refine_284 ?_
      refine lv_iconst (v := 0) hx hb d_M_refine_285 (by decide) ?_
      refine mm_v (F := f_M_orderLongs g13 16 17 ((g13 20).2.2.2.2.2.1) ((g13 19).2.2.2.2.1) false) (w1 := fun g286 => (mW ad cJ cZ c0 g286 w0 s0)) (va_runV (As := [.int (16), .int (17), .long ((g13 20).2.2.2.2.2.1), .long ((g13 19).2.2.2.2.1), .int (0)]) (rest := []) ⟨hx, hb, hml, hown, hts⟩ (c_M_orderLongs l dC dI ad cJ cZ H.size c0 g13 w0 s0 16 17 ((g13 20).2.2.2.2.2.1) ((g13 19).2.2.2.2.1) false (by decide) (by decide)) (cwV 5 hts (gxV gx234 gx235 gx302 gx0 gx236) rfl rfl rfl (by decide +kernel) ⟨(Nat.le_of_ble_eq_true rfl), (Nat.le_of_ble_eq_true rfl)⟩) ⟨blp, va_recv hK hP (ci := 2) (q0 := 0) rfl rfl, fun U hU hW => ⟨rfl, by rw [hU], by rw [hU]; exact hP, va_K.moved hW.alike hK, hD.weaken (fun _ _ _ _ => trivial)⟩⟩ rfl rfl hl.1 rfl (lv_room (Nat.le_of_ble_eq_true rfl)) d_M_refine_286 ⟨Nat.zero_le _, Nat.zero_le _⟩) hD hS hA (fun g286 eg286 H locs hP hD hS => ?_)
      refine K286g g286 (Eq.trans (hj.trans (by unfold f_M_refine_13g; first | with_reducible exact (if_neg e1_76).trans ((if_neg e2_95).trans ((if_neg e3_136).trans ((if_neg e4_162).trans ((if_neg e5_188).trans ((if_neg e6_214).trans ((if_neg e7_240).trans (if_pos e8_266))))))) | exact (if_neg e1_76).trans ((if_neg e2_95).trans ((if_neg e3_136).trans ((if_neg e4_162).trans ((if_neg e5_188).trans ((if_neg e6_214).trans ((if_neg e7_240).trans (if_pos e8_266))))))))) (congrArg (fun g286 => f_M_refine_286g r0 p1 g286) eg286)) H locs ?_ ?_ hS ls (lv_sub hl [0] rfl)
      · with_reducible exact hP
      · with_reducible exact hD
    by_cases e9_292 : p1 = 8
    · refine lv_tableIn (off := 275) (tgt := 292) hx hb d_M_refine_17 (by rw [e9_292]; decide) (by rw [e9_292]; decide) (by rw [e9_292]; rfl) (by decide) ?_
      refine lv_aload_n hx hb d_M_refine_292 rfl (lv_at hl 0 rfl) ?_
      refine lv_bipush (v := 17) hx hb d_M_refine_293 (by decide) ?_
      refine lv_bipush (v := 16) hx hb d_M_refine_295 (by decide) ?_
      refine lv_aload_n hx hb d_M_refine_297 rfl (lv_at hl 0 rfl) ?_
      refine va_get (D := (dC, dI)) (ci := 2) (v := .ref (ad 6)) (C := R_M) (T := F_M) (N := 10) hx hb hts (fun w h => List.mem_cons_of_mem _ (uw_M w h)) hown hK hP 0 rfl rfl 6 (by decide) (hG (.fieldLink R_M 25 "ValueSieveModel" "greatest" "[J") gx15) (fun _ h9 => h9) rfl d_M_refine_298 ?_
      refine lv_bipush (v := 19) hx hb d_M_refine_301 (by decide) ?_
      refine ml_6 (P := 19) hx hb hK hP rfl (by decide) d_M_refine_303 ?_
      refine lv_aload_n hx hb d_M_refine_304 rfl (lv_at hl 0 rfl) ?_
      refine va_get (D := (dC, dI)) (ci := 2) (v := .ref (ad 5)) (C := R_M) (T := F_M) (N := 10) hx hb hts (fun w h => List.mem_cons_of_mem _ (uw_M w h)) hown hK hP 0 rfl rfl 5 (by decide) (hG (.fieldLink R_M 22 "ValueSieveModel" "least" "[J") gx14) (fun _ h9 => h9) rfl d_M_refine_305 ?_
      refine lv_bipush (v := 20) hx hb d_M_refine_308 (by decide) ?_
      refine ml_5 (P := 20) hx hb hK hP rfl (by decide) d_M_refine_310 ?_
      refine lv_iconst (v := 1) hx hb d_M_refine_311 (by decide) ?_
      refine mm_v (F := f_M_orderLongs g13 17 16 ((g13 19).2.2.2.2.2.1) ((g13 20).2.2.2.2.1) true) (w1 := fun g312 => (mW ad cJ cZ c0 g312 w0 s0)) (va_runV (As := [.int (17), .int (16), .long ((g13 19).2.2.2.2.2.1), .long ((g13 20).2.2.2.2.1), .int (1)]) (rest := []) ⟨hx, hb, hml, hown, hts⟩ (c_M_orderLongs l dC dI ad cJ cZ H.size c0 g13 w0 s0 17 16 ((g13 19).2.2.2.2.2.1) ((g13 20).2.2.2.2.1) true (by decide) (by decide)) (cwV 5 hts (gxV gx234 gx235 gx302 gx0 gx236) rfl rfl rfl (by decide +kernel) ⟨(Nat.le_of_ble_eq_true rfl), (Nat.le_of_ble_eq_true rfl)⟩) ⟨blp, va_recv hK hP (ci := 2) (q0 := 0) rfl rfl, fun U hU hW => ⟨rfl, by rw [hU], by rw [hU]; exact hP, va_K.moved hW.alike hK, hD.weaken (fun _ _ _ _ => trivial)⟩⟩ rfl rfl hl.1 rfl (lv_room (Nat.le_of_ble_eq_true rfl)) d_M_refine_312 ⟨Nat.zero_le _, Nat.zero_le _⟩) hD hS hA (fun g312 eg312 H locs hP hD hS => ?_)
      refine K312g g312 (Eq.trans (hj.trans (by unfold f_M_refine_13g; first | with_reducible exact (if_neg e1_76).trans ((if_neg e2_95).trans ((if_neg e3_136).trans ((if_neg e4_162).trans ((if_neg e5_188).trans ((if_neg e6_214).trans ((if_neg e7_240).trans ((if_neg e8_266).trans (if_pos e9_292)))))))) | exact (if_neg e1_76).trans ((if_neg e2_95).trans ((if_neg e3_136).trans ((if_neg e4_162).trans ((if_neg e5_188).trans ((if_neg e6_214).trans ((if_neg e7_240).trans ((if_neg e8_266).trans (if_pos e9_292)))))))))) (congrArg (fun g312 => f_M_refine_312g r0 p1 g312) eg312)) H locs ?_ ?_ hS ls (lv_sub hl [0] rfl)
      · with_reducible exact hP
      · with_reducible exact hD
    by_cases e10_318 : p1 = 9
    · refine lv_tableIn (off := 301) (tgt := 318) hx hb d_M_refine_17 (by rw [e10_318]; decide) (by rw [e10_318]; decide) (by rw [e10_318]; rfl) (by decide) ?_
      refine lv_aload_n hx hb d_M_refine_318 rfl (lv_at hl 0 rfl) ?_
      refine lv_bipush (v := 17) hx hb d_M_refine_319 (by decide) ?_
      refine lv_bipush (v := 16) hx hb d_M_refine_321 (by decide) ?_
      refine lv_aload_n hx hb d_M_refine_323 rfl (lv_at hl 0 rfl) ?_
      refine va_get (D := (dC, dI)) (ci := 2) (v := .ref (ad 6)) (C := R_M) (T := F_M) (N := 10) hx hb hts (fun w h => List.mem_cons_of_mem _ (uw_M w h)) hown hK hP 0 rfl rfl 6 (by decide) (hG (.fieldLink R_M 25 "ValueSieveModel" "greatest" "[J") gx15) (fun _ h9 => h9) rfl d_M_refine_324 ?_
      refine lv_bipush (v := 19) hx hb d_M_refine_327 (by decide) ?_
      refine ml_6 (P := 19) hx hb hK hP rfl (by decide) d_M_refine_329 ?_
      refine lv_aload_n hx hb d_M_refine_330 rfl (lv_at hl 0 rfl) ?_
      refine va_get (D := (dC, dI)) (ci := 2) (v := .ref (ad 5)) (C := R_M) (T := F_M) (N := 10) hx hb hts (fun w h => List.mem_cons_of_mem _ (uw_M w h)) hown hK hP 0 rfl rfl 5 (by decide) (hG (.fieldLink R_M 22 "ValueSieveModel" "least" "[J") gx14) (fun _ h9 => h9) rfl d_M_refine_331 ?_
      refine lv_bipush (v := 20) hx hb d_M_refine_334 (by decide) ?_
      refine ml_5 (P := 20) hx hb hK hP rfl (by decide) d_M_refine_336 ?_
      refine lv_iconst (v := 0) hx hb d_M_refine_337 (by decide) ?_
      refine mm_v (F := f_M_orderLongs g13 17 16 ((g13 19).2.2.2.2.2.1) ((g13 20).2.2.2.2.1) false) (w1 := fun g338 => (mW ad cJ cZ c0 g338 w0 s0)) (va_runV (As := [.int (17), .int (16), .long ((g13 19).2.2.2.2.2.1), .long ((g13 20).2.2.2.2.1), .int (0)]) (rest := []) ⟨hx, hb, hml, hown, hts⟩ (c_M_orderLongs l dC dI ad cJ cZ H.size c0 g13 w0 s0 17 16 ((g13 19).2.2.2.2.2.1) ((g13 20).2.2.2.2.1) false (by decide) (by decide)) (cwV 5 hts (gxV gx234 gx235 gx302 gx0 gx236) rfl rfl rfl (by decide +kernel) ⟨(Nat.le_of_ble_eq_true rfl), (Nat.le_of_ble_eq_true rfl)⟩) ⟨blp, va_recv hK hP (ci := 2) (q0 := 0) rfl rfl, fun U hU hW => ⟨rfl, by rw [hU], by rw [hU]; exact hP, va_K.moved hW.alike hK, hD.weaken (fun _ _ _ _ => trivial)⟩⟩ rfl rfl hl.1 rfl (lv_room (Nat.le_of_ble_eq_true rfl)) d_M_refine_338 ⟨Nat.zero_le _, Nat.zero_le _⟩) hD hS hA (fun g338 eg338 H locs hP hD hS => ?_)
      refine K338g g338 (Eq.trans (hj.trans (by unfold f_M_refine_13g; first | with_reducible exact (if_neg e1_76).trans ((if_neg e2_95).trans ((if_neg e3_136).trans ((if_neg e4_162).trans ((if_neg e5_188).trans ((if_neg e6_214).trans ((if_neg e7_240).trans ((if_neg e8_266).trans ((if_neg e9_292).trans (if_pos e10_318))))))))) | exact (if_neg e1_76).trans ((if_neg e2_95).trans ((if_neg e3_136).trans ((if_neg e4_162).trans ((if_neg e5_188).trans ((if_neg e6_214).trans ((if_neg e7_240).trans ((if_neg e8_266).trans ((if_neg e9_292).trans (if_pos e10_318))))))))))) (congrArg (fun g338 => f_M_refine_338g r0 p1 g338) eg338)) H locs ?_ ?_ hS ls (lv_sub hl [0] rfl)
      · with_reducible exact hP
      · with_reducible exact hD
    by_cases e11_344 : p1 = 10
    · refine lv_tableIn (off := 327) (tgt := 344) hx hb d_M_refine_17 (by rw [e11_344]; decide) (by rw [e11_344]; decide) (by rw [e11_344]; rfl) (by decide) ?_
      refine lv_aload_n hx hb d_M_refine_344 rfl (lv_at hl 0 rfl) ?_
      refine va_get (D := (dC, dI)) (ci := 2) (v := .ref (ad 7)) (C := R_M) (T := F_M) (N := 10) hx hb hts (fun w h => List.mem_cons_of_mem _ (uw_M w h)) hown hK hP 0 rfl rfl 7 (by decide) (hG (.fieldLink R_M 28 "ValueSieveModel" "empty" "[Z") gx16) (fun _ h9 => h9) rfl d_M_refine_345 ?_
      refine lv_bipush (v := 16) hx hb d_M_refine_348 (by decide) ?_
      refine lv_aload_n hx hb d_M_refine_350 rfl (lv_at hl 0 rfl) ?_
      refine va_get (D := (dC, dI)) (ci := 2) (v := .ref (ad 7)) (C := R_M) (T := F_M) (N := 10) hx hb hts (fun w h => List.mem_cons_of_mem _ (uw_M w h)) hown hK hP 0 rfl rfl 7 (by decide) (hG (.fieldLink R_M 28 "ValueSieveModel" "empty" "[Z") gx16) (fun _ h9 => h9) rfl d_M_refine_351 ?_
      refine lv_bipush (v := 16) hx hb d_M_refine_354 (by decide) ?_
      refine ml_7 (P := 16) hx hb hK hP rfl (by decide) d_M_refine_356 ?_
      refine wz_ne (tgt := 396) hx hb d_M_refine_357 (by decide) (fun e12_396 => ?_) (fun e12_396 => ?_)
      · refine K396 g13 (hj.trans (by unfold f_M_refine_13g; first | with_reducible exact (if_neg e1_76).trans ((if_neg e2_95).trans ((if_neg e3_136).trans ((if_neg e4_162).trans ((if_neg e5_188).trans ((if_neg e6_214).trans ((if_neg e7_240).trans ((if_neg e8_266).trans ((if_neg e9_292).trans ((if_neg e10_318).trans ((if_pos e11_344).trans (if_pos e12_396))))))))))) | exact (if_neg e1_76).trans ((if_neg e2_95).trans ((if_neg e3_136).trans ((if_neg e4_162).trans ((if_neg e5_188).trans ((if_neg e6_214).trans ((if_neg e7_240).trans ((if_neg e8_266).trans ((if_neg e9_292).trans ((if_neg e10_318).trans ((if_pos e11_344).trans (if_pos e12_396))))))))))))) H locs ?_ ?_ hS ls (lv_sub hl [0] rfl)
        · with_reducible exact hP
        · with_reducible exact hD
      · refine lv_aload_n hx hb d_M_refine_360 rfl (lv_at hl 0 rfl) ?_
        refine va_get (D := (dC, dI)) (ci := 2) (v := .ref (ad 1)) (C := R_M) (T := F_M) (N := 10) hx hb hts (fun w h => List.mem_cons_of_mem _ (uw_M w h)) hown hK hP 0 rfl rfl 1 (by decide) (hG (.fieldLink R_M 7 "ValueSieveModel" "bits" "[J") gx10) (fun _ h9 => h9) rfl d_M_refine_361 ?_
        refine lv_bipush (v := 19) hx hb d_M_refine_364 (by decide) ?_
        refine ml_1 (P := 19) hx hb hK hP rfl (by decide) d_M_refine_366 ?_
        refine lv_aload_n hx hb d_M_refine_367 rfl (lv_at hl 0 rfl) ?_
        refine va_get (D := (dC, dI)) (ci := 2) (v := .ref (ad 2)) (C := R_M) (T := F_M) (N := 10) hx hb hts (fun w h => List.mem_cons_of_mem _ (uw_M w h)) hown hK hP 0 rfl rfl 2 (by decide) (hG (.fieldLink R_M 13 "ValueSieveModel" "open" "[J") gx11) (fun _ h9 => h9) rfl d_M_refine_368 ?_
        refine lv_bipush (v := 19) hx hb d_M_refine_371 (by decide) ?_
        refine ml_2 (P := 19) hx hb hK hP rfl (by decide) d_M_refine_373 ?_
        refine lv_lor hx hb d_M_refine_374 ?_
        refine lv_aload_n hx hb d_M_refine_375 rfl (lv_at hl 0 rfl) ?_
        refine va_get (D := (dC, dI)) (ci := 2) (v := .ref (ad 1)) (C := R_M) (T := F_M) (N := 10) hx hb hts (fun w h => List.mem_cons_of_mem _ (uw_M w h)) hown hK hP 0 rfl rfl 1 (by decide) (hG (.fieldLink R_M 7 "ValueSieveModel" "bits" "[J") gx10) (fun _ h9 => h9) rfl d_M_refine_376 ?_
        refine lv_bipush (v := 20) hx hb d_M_refine_379 (by decide) ?_
        refine ml_1 (P := 20) hx hb hK hP rfl (by decide) d_M_refine_381 ?_
        refine lv_aload_n hx hb d_M_refine_382 rfl (lv_at hl 0 rfl) ?_
        refine va_get (D := (dC, dI)) (ci := 2) (v := .ref (ad 2)) (C := R_M) (T := F_M) (N := 10) hx hb hts (fun w h => List.mem_cons_of_mem _ (uw_M w h)) hown hK hP 0 rfl rfl 2 (by decide) (hG (.fieldLink R_M 13 "ValueSieveModel" "open" "[J") gx11) (fun _ h9 => h9) rfl d_M_refine_383 ?_
        refine lv_bipush (v := 20) hx hb d_M_refine_386 (by decide) ?_
        refine ml_2 (P := 20) hx hb hK hP rfl (by decide) d_M_refine_388 ?_
        refine lv_lor hx hb d_M_refine_389 ?_
        refine lv_land hx hb d_M_refine_390 ?_
        refine lv_lconst (v := 0) hx hb d_M_refine_391 (by decide) ?_
        refine wl_ne (tgt := 400) hx hb d_M_refine_392 d_M_refine_393 (by decide) (fun e13_400 => ?_) (fun e13_400 => ?_)
        · refine lv_iconst (v := 0) hx hb d_M_refine_400 (by decide) ?_
          refine K401 false g13 (hj.trans (by unfold f_M_refine_13g; first | with_reducible exact (if_neg e1_76).trans ((if_neg e2_95).trans ((if_neg e3_136).trans ((if_neg e4_162).trans ((if_neg e5_188).trans ((if_neg e6_214).trans ((if_neg e7_240).trans ((if_neg e8_266).trans ((if_neg e9_292).trans ((if_neg e10_318).trans ((if_pos e11_344).trans ((if_neg e12_396).trans (if_neg e13_400)))))))))))) | exact (if_neg e1_76).trans ((if_neg e2_95).trans ((if_neg e3_136).trans ((if_neg e4_162).trans ((if_neg e5_188).trans ((if_neg e6_214).trans ((if_neg e7_240).trans ((if_neg e8_266).trans ((if_neg e9_292).trans ((if_neg e10_318).trans ((if_pos e11_344).trans ((if_neg e12_396).trans (if_neg e13_400)))))))))))))) H locs ?_ ?_ hS ls (lv_sub hl [0] rfl)
          · with_reducible exact hP
          · with_reducible exact hD
        · refine K396 g13 (hj.trans (by unfold f_M_refine_13g; first | with_reducible exact (if_neg e1_76).trans ((if_neg e2_95).trans ((if_neg e3_136).trans ((if_neg e4_162).trans ((if_neg e5_188).trans ((if_neg e6_214).trans ((if_neg e7_240).trans ((if_neg e8_266).trans ((if_neg e9_292).trans ((if_neg e10_318).trans ((if_pos e11_344).trans ((if_neg e12_396).trans (if_pos e13_400)))))))))))) | exact (if_neg e1_76).trans ((if_neg e2_95).trans ((if_neg e3_136).trans ((if_neg e4_162).trans ((if_neg e5_188).trans ((if_neg e6_214).trans ((if_neg e7_240).trans ((if_neg e8_266).trans ((if_neg e9_292).trans ((if_neg e10_318).trans ((if_pos e11_344).trans ((if_neg e12_396).trans (if_pos e13_400)))))))))))))) H locs ?_ ?_ hS ls (lv_sub hl [0] rfl)
          · with_reducible exact hP
          · with_reducible exact hD
    refine lv_tableOut (tgt := 485) hx hb d_M_refine_17 (by have n0 := lv_neT (a := 0) e1_76 (by decide); have n1 := lv_neT (a := 1) e2_95 (by decide); have n2 := lv_neT (a := 2) e3_136 (by decide); have n3 := lv_neT (a := 3) e4_162 (by decide); have n4 := lv_neT (a := 4) e5_188 (by decide); have n5 := lv_neT (a := 5) e6_214 (by decide); have n6 := lv_neT (a := 6) e7_240 (by decide); have n7 := lv_neT (a := 7) e8_266 (by decide); have n8 := lv_neT (a := 8) e9_292 (by decide); have n9 := lv_neT (a := 9) e10_318 (by decide); have n10 := lv_neT (a := 10) e11_344 (by decide); omega) (by decide) ?_
    refine lv_aload_n hx hb d_M_refine_485 rfl (lv_at hl 0 rfl) ?_
    refine va_get (D := (dC, dI)) (ci := 2) (v := .ref (ad 7)) (C := R_M) (T := F_M) (N := 10) hx hb hts (fun w h => List.mem_cons_of_mem _ (uw_M w h)) hown hK hP 0 rfl rfl 7 (by decide) (hG (.fieldLink R_M 28 "ValueSieveModel" "empty" "[Z") gx16) (fun _ h9 => h9) rfl d_M_refine_486 ?_
    refine lv_bipush (v := 16) hx hb d_M_refine_489 (by decide) ?_
    refine lv_aload_n hx hb d_M_refine_491 rfl (lv_at hl 0 rfl) ?_
    refine va_get (D := (dC, dI)) (ci := 2) (v := .ref (ad 7)) (C := R_M) (T := F_M) (N := 10) hx hb hts (fun w h => List.mem_cons_of_mem _ (uw_M w h)) hown hK hP 0 rfl rfl 7 (by decide) (hG (.fieldLink R_M 28 "ValueSieveModel" "empty" "[Z") gx16) (fun _ h9 => h9) rfl d_M_refine_492 ?_
    refine lv_bipush (v := 16) hx hb d_M_refine_495 (by decide) ?_
    refine ml_7 (P := 16) hx hb hK hP rfl (by decide) d_M_refine_497 ?_
    refine wz_ne (tgt := 521) hx hb d_M_refine_498 (by decide) (fun e14_521 => ?_) (fun e14_521 => ?_)
    · refine K521 g13 (hj.trans (by unfold f_M_refine_13g; first | with_reducible exact (if_neg e1_76).trans ((if_neg e2_95).trans ((if_neg e3_136).trans ((if_neg e4_162).trans ((if_neg e5_188).trans ((if_neg e6_214).trans ((if_neg e7_240).trans ((if_neg e8_266).trans ((if_neg e9_292).trans ((if_neg e10_318).trans ((if_neg e11_344).trans (if_pos e14_521))))))))))) | exact (if_neg e1_76).trans ((if_neg e2_95).trans ((if_neg e3_136).trans ((if_neg e4_162).trans ((if_neg e5_188).trans ((if_neg e6_214).trans ((if_neg e7_240).trans ((if_neg e8_266).trans ((if_neg e9_292).trans ((if_neg e10_318).trans ((if_neg e11_344).trans (if_pos e14_521))))))))))))) H locs ?_ ?_ hS ls (lv_sub hl [0] rfl)
      · with_reducible exact hP
      · with_reducible exact hD
    · refine lv_aload_n hx hb d_M_refine_501 rfl (lv_at hl 0 rfl) ?_
      refine va_get (D := (dC, dI)) (ci := 2) (v := .ref (ad 1)) (C := R_M) (T := F_M) (N := 10) hx hb hts (fun w h => List.mem_cons_of_mem _ (uw_M w h)) hown hK hP 0 rfl rfl 1 (by decide) (hG (.fieldLink R_M 7 "ValueSieveModel" "bits" "[J") gx10) (fun _ h9 => h9) rfl d_M_refine_502 ?_
      refine lv_bipush (v := 19) hx hb d_M_refine_505 (by decide) ?_
      refine ml_1 (P := 19) hx hb hK hP rfl (by decide) d_M_refine_507 ?_
      refine lv_aload_n hx hb d_M_refine_508 rfl (lv_at hl 0 rfl) ?_
      refine va_get (D := (dC, dI)) (ci := 2) (v := .ref (ad 1)) (C := R_M) (T := F_M) (N := 10) hx hb hts (fun w h => List.mem_cons_of_mem _ (uw_M w h)) hown hK hP 0 rfl rfl 1 (by decide) (hG (.fieldLink R_M 7 "ValueSieveModel" "bits" "[J") gx10) (fun _ h9 => h9) rfl d_M_refine_509 ?_
      refine lv_bipush (v := 20) hx hb d_M_refine_512 (by decide) ?_
      refine ml_1 (P := 20) hx hb hK hP rfl (by decide) d_M_refine_514 ?_
      refine lv_land hx hb d_M_refine_515 ?_
      refine lv_lconst (v := 0) hx hb d_M_refine_516 (by decide) ?_
      refine wl_eq (tgt := 525) hx hb d_M_refine_517 d_M_refine_518 (by decide) (fun e15_525 => ?_) (fun e15_525 => ?_)
      · refine lv_iconst (v := 0) hx hb d_M_refine_525 (by decide) ?_
        refine K526 false g13 (hj.trans (by unfold f_M_refine_13g; first | with_reducible exact (if_neg e1_76).trans ((if_neg e2_95).trans ((if_neg e3_136).trans ((if_neg e4_162).trans ((if_neg e5_188).trans ((if_neg e6_214).trans ((if_neg e7_240).trans ((if_neg e8_266).trans ((if_neg e9_292).trans ((if_neg e10_318).trans ((if_neg e11_344).trans ((if_neg e14_521).trans (if_pos e15_525)))))))))))) | exact (if_neg e1_76).trans ((if_neg e2_95).trans ((if_neg e3_136).trans ((if_neg e4_162).trans ((if_neg e5_188).trans ((if_neg e6_214).trans ((if_neg e7_240).trans ((if_neg e8_266).trans ((if_neg e9_292).trans ((if_neg e10_318).trans ((if_neg e11_344).trans ((if_neg e14_521).trans (if_pos e15_525)))))))))))))) H locs ?_ ?_ hS ls (lv_sub hl [0] rfl)
        · with_reducible exact hP
        · with_reducible exact hD
      · refine K521 g13 (hj.trans (by unfold f_M_refine_13g; first | with_reducible exact (if_neg e1_76).trans ((if_neg e2_95).trans ((if_neg e3_136).trans ((if_neg e4_162).trans ((if_neg e5_188).trans ((if_neg e6_214).trans ((if_neg e7_240).trans ((if_neg e8_266).trans ((if_neg e9_292).trans ((if_neg e10_318).trans ((if_neg e11_344).trans ((if_neg e14_521).trans (if_neg e15_525)))))))))))) | exact (if_neg e1_76).trans ((if_neg e2_95).trans ((if_neg e3_136).trans ((if_neg e4_162).trans ((if_neg e5_188).trans ((if_neg e6_214).trans ((if_neg e7_240).trans ((if_neg e8_266).trans ((if_neg e9_292).trans ((if_neg e10_318).trans ((if_neg e11_344).trans ((if_neg e14_521).trans (if_neg e15_525)))))))))))))) H locs ?_ ?_ hS ls (lv_sub hl [0] rfl)
        · with_reducible exact hP
        · with_reducible exact hD
  have K5g : ∀ (g5 : (Nat → VV)) (hj : f_M_refine r0 p1 = f_M_refine_5g r0 p1 g5) (H : Heap) (locs : List Loc) (hP : va_P (dC, dI) classes (mW ad cJ cZ c0 g5 w0 s0) H) (hD : va_D A (mW ad cJ cZ c0 g5 w0 s0)) (hS : va_S A s.heap H locs) (ls : Array Slot) (hl : lv_has ls 2 [(0, .ref (ad 0)), (1, .int (p1))]), W p l e (headSpec w_M_refine ({ frames := 6, cells := 0, slots := 0, locals := 183 } : Room)).room s m ([.ref (ad 0), .int (p1)] : List Value).toArray below meth c H locs 0 0 (MQ below (va_Qv (fun _ : Unit => True) (mB (dC, dI) A (mW ad cJ cZ c0 (f_M_refine r0 p1) w0 s0)) A) ([.ref (ad 0), .int (p1)] : List Value).toArray s 0 0 A) (F0 m 8 ls []) := by
    intro g5 hj H locs hP hD hS ls hl
    refine lv_aload_n hx hb d_M_refine_8 rfl (lv_at hl 0 rfl) ?_
    refine lv_bipush (v := 17) hx hb d_M_refine_9 (by decide) ?_
    refine lv_bipush (v := 20) hx hb d_M_refine_11 (by decide) ?_
    refine mm_v (F := f_M_copy g5 17 20) (w1 := fun g13 => (mW ad cJ cZ c0 g13 w0 s0)) (va_runV (As := [.int (17), .int (20)]) (rest := []) ⟨hx, hb, hml, hown, hts⟩ (c_M_copy l dC dI ad cJ cZ H.size c0 g5 w0 s0 17 20 (by decide) (by decide)) (cwV 2 hts (gxV gx48 gx49 gx268 gx0 gx50) rfl rfl rfl (by decide +kernel) ⟨(Nat.le_of_ble_eq_true rfl), (Nat.le_of_ble_eq_true rfl)⟩) ⟨blp, va_recv hK hP (ci := 2) (q0 := 0) rfl rfl, fun U hU hW => ⟨rfl, by rw [hU], by rw [hU]; exact hP, va_K.moved hW.alike hK, hD.weaken (fun _ _ _ _ => trivial)⟩⟩ rfl rfl hl.1 rfl (lv_room (Nat.le_of_ble_eq_true rfl)) d_M_refine_13 ⟨Nat.zero_le _, Nat.zero_le _⟩) hD hS hA (fun g13 eg13 H locs hP hD hS => ?_)
    refine K13g g13 (Eq.trans (hj.trans rfl) (congrArg (fun g13 => f_M_refine_13g r0 p1 g13) eg13)) H locs ?_ ?_ hS ls (lv_sub hl [0, 1] rfl)
    · with_reducible exact hP
    · with_reducible exact hD
  refine lv_aload_n hx hb d_M_refine_0 rfl (lv_at hl 0 rfl) ?_
  refine lv_bipush (v := 16) hx hb d_M_refine_1 (by decide) ?_
  refine lv_bipush (v := 19) hx hb d_M_refine_3 (by decide) ?_
  refine mm_v (F := f_M_copy r0 16 19) (w1 := fun g5 => (mW ad cJ cZ c0 g5 w0 s0)) (va_runV (As := [.int (16), .int (19)]) (rest := []) ⟨hx, hb, hml, hown, hts⟩ (c_M_copy l dC dI ad cJ cZ s.heap.size c0 r0 w0 s0 16 19 (by decide) (by decide)) (cwV 2 hts (gxV gx48 gx49 gx268 gx0 gx50) rfl rfl rfl (by decide +kernel) ⟨(Nat.le_of_ble_eq_true rfl), (Nat.le_of_ble_eq_true rfl)⟩) ⟨blp, va_recv hK hP (ci := 2) (q0 := 0) rfl rfl, fun U hU hW => ⟨rfl, by rw [hU], by rw [hU]; exact hP, va_K.moved hW.alike hK, hD.weaken (fun _ _ _ _ => trivial)⟩⟩ rfl rfl hl.1 rfl (lv_room (Nat.le_of_ble_eq_true rfl)) d_M_refine_5 ⟨Nat.zero_le _, Nat.zero_le _⟩) hD hS hA (fun g5 eg5 H locs hP hD hS => ?_)
  refine K5g g5 (Eq.trans (rfl) (congrArg (fun g5 => f_M_refine_5g r0 p1 g5) eg5)) H locs ?_ ?_ hS ls (lv_sub hl [0, 1] rfl)
  · with_reducible exact hP
  · with_reducible exact hD
-- canBe
theorem d_M_canBe_0 : decode b_M_canBe 0 = .ok (.aload_n 0, 1) := by decide +kernel
theorem d_M_canBe_1 : decode b_M_canBe 1 = .ok (.iload_n 2, 1) := by decide +kernel
theorem d_M_canBe_2 : decode b_M_canBe 2 = .ok (.bipush 16, 2) := by decide +kernel
theorem d_M_canBe_4 : decode b_M_canBe 4 = .ok (.invokevirtual 90, 3) := by decide +kernel
theorem d_M_canBe_7 : decode b_M_canBe 7 = .ok (.aload_n 0, 1) := by decide +kernel
theorem d_M_canBe_8 : decode b_M_canBe 8 = .ok (.iload_n 3, 1) := by decide +kernel
theorem d_M_canBe_9 : decode b_M_canBe 9 = .ok (.bipush 17, 2) := by decide +kernel
theorem d_M_canBe_11 : decode b_M_canBe 11 = .ok (.invokevirtual 90, 3) := by decide +kernel
theorem d_M_canBe_14 : decode b_M_canBe 14 = .ok (.aload_n 0, 1) := by decide +kernel
theorem d_M_canBe_15 : decode b_M_canBe 15 = .ok (.iload_n 1, 1) := by decide +kernel
theorem d_M_canBe_16 : decode b_M_canBe 16 = .ok (.invokevirtual 233, 3) := by decide +kernel
theorem d_M_canBe_19 : decode b_M_canBe 19 = .ok (.aload_n 0, 1) := by decide +kernel
theorem d_M_canBe_20 : decode b_M_canBe 20 = .ok (.getfield 28, 3) := by decide +kernel
theorem d_M_canBe_23 : decode b_M_canBe 23 = .ok (.bipush 16, 2) := by decide +kernel
theorem d_M_canBe_25 : decode b_M_canBe 25 = .ok (.baload, 1) := by decide +kernel
theorem d_M_canBe_26 : decode b_M_canBe 26 = .ok (.ifCond .ne 17, 3) := by decide +kernel
theorem d_M_canBe_29 : decode b_M_canBe 29 = .ok (.aload_n 0, 1) := by decide +kernel
theorem d_M_canBe_30 : decode b_M_canBe 30 = .ok (.getfield 28, 3) := by decide +kernel
theorem d_M_canBe_33 : decode b_M_canBe 33 = .ok (.bipush 17, 2) := by decide +kernel
theorem d_M_canBe_35 : decode b_M_canBe 35 = .ok (.baload, 1) := by decide +kernel
theorem d_M_canBe_36 : decode b_M_canBe 36 = .ok (.ifCond .ne 7, 3) := by decide +kernel
theorem d_M_canBe_39 : decode b_M_canBe 39 = .ok (.iconst 1, 1) := by decide +kernel
theorem d_M_canBe_40 : decode b_M_canBe 40 = .ok (.goto 4, 3) := by decide +kernel
theorem d_M_canBe_43 : decode b_M_canBe 43 = .ok (.iconst 0, 1) := by decide +kernel
theorem d_M_canBe_44 : decode b_M_canBe 44 = .ok (.ireturn, 1) := by decide +kernel
def f_M_canBe_43 (r0 : (Nat → VV)) (p1 : Int32) (p2 : Nat) (p3 : Nat) (g16 : (Nat → VV)) : Bool × (Nat → VV) := (false, g16)
def f_M_canBe_16g (r0 : (Nat → VV)) (p1 : Int32) (p2 : Nat) (p3 : Nat) (g16 : (Nat → VV)) : Bool × (Nat → VV) := (if ((g16 16).2.2.2.2.2.2) = true then f_M_canBe_43 r0 p1 p2 p3 g16 else (if ((g16 17).2.2.2.2.2.2) = true then f_M_canBe_43 r0 p1 p2 p3 g16 else (true, g16)))
def f_M_canBe_11g (r0 : (Nat → VV)) (p1 : Int32) (p2 : Nat) (p3 : Nat) (g11 : (Nat → VV)) : Bool × (Nat → VV) := f_M_canBe_16g r0 p1 p2 p3 (f_M_refine g11 p1)
def f_M_canBe_4g (r0 : (Nat → VV)) (p1 : Int32) (p2 : Nat) (p3 : Nat) (g4 : (Nat → VV)) : Bool × (Nat → VV) := f_M_canBe_11g r0 p1 p2 p3 (f_M_copy g4 p3 17)
def f_M_canBe (r0 : (Nat → VV)) (p1 : Int32) (p2 : Nat) (p3 : Nat) : Bool × (Nat → VV) := f_M_canBe_4g r0 p1 p2 p3 (f_M_copy r0 p2 16)
set_option maxRecDepth 100000 in
set_option maxHeartbeats 4000000 in
theorem c_M_canBe (l : Launch) (dC : Nat → ClassId) (dI : Nat → Nat → Nat) (ad : Nat → Nat) (cJ cZ : ClassId) (sz : Nat) (c0 : Int32) (r0 : (Nat → VV)) (w0 : (Nat → Int64)) (s0 : Int32) (p1 : Int32) (p2 : Nat) (p3 : Nat) (b2 : p2 < 24) (b3 : p3 < 24) : Met l y_M_canBe w_M_canBe ({ frames := 7, cells := 0, slots := 0, locals := 204 } : Room) (va_Pc [.ref (ad 0), .int (p1), .int (nI p2), .int (nI p3)] (nP (dC, dI) (mT cJ cZ) (mW ad cJ cZ c0 r0 w0 s0) sz)) (va_Qi (fun r (_ : Unit) => r = bI (f_M_canBe r0 p1 p2 p3).1) (mB (dC, dI) (va_A (mW ad cJ cZ c0 r0 w0 s0) sz) (mW ad cJ cZ c0 (f_M_canBe r0 p1 p2 p3).2 w0 s0)) (va_A (mW ad cJ cZ c0 r0 w0 s0) sz)) 0 0 (va_A (mW ad cJ cZ c0 r0 w0 s0) sz) := by
  refine Met.ofW (cc := b_M_canBe) (maxL := 4) (ret := (some .boolean)) (by decide) rfl ?_
  intro p e s m args below meth c s₁ B hml hv
  obtain ⟨rfl, hsz, hP, hK, hD0⟩ := hv
  have hx := B.exec
  have hb := B.bytes
  have hr := B.returns
  have hts := atoms_spec (ws := w_M_canBe) B.pre
  have hG : ∀ w ∈ gM, w.before _ s = true := fun w h => hts w (List.mem_cons_of_mem _ h)
  have hown : s.vm.findClass R_M = some m.cls := findClass_of_methodNamed B.named
  have hlocks := B.notSynchronized
  subst hsz
  have hD := hD0.self (sz := s.heap.size)
  generalize hAe : va_A (mW ad cJ cZ c0 r0 w0 s0) s.heap.size = A at hD ⊢
  have hA : ∀ q : Nat, s.heap.size ≤ q → A q := fun q h => by rw [← hAe]; exact Or.inr h
  have hS : va_S A s.heap s.heap [] := va_S.rf
  have hl := lv_entry ([.ref (ad 0), .int (p1), .int (nI p2), .int (nI p3)]) (n := 4) (Nat.le_of_ble_eq_true rfl)
  rw [lg_entry_eq]
  generalize (lg_sl ([.ref (ad 0), .int (p1), .int (nI p2), .int (nI p3)]) ++ List.replicate (4 - (lg_sl ([.ref (ad 0), .int (p1), .int (nI p2), .int (nI p3)])).length) Slot.unset).toArray = ls at hl ⊢
  have hl : lv_has ls 4 [(0, .ref (ad 0)), (1, .int (p1)), (2, .int (nI p2)), (3, .int (nI p3))] := hl
  have K43 : ∀ (g16 : (Nat → VV)) (hj : f_M_canBe r0 p1 p2 p3 = f_M_canBe_43 r0 p1 p2 p3 g16) (H : Heap) (locs : List Loc) (hP : va_P (dC, dI) classes (mW ad cJ cZ c0 g16 w0 s0) H) (hD : va_D A (mW ad cJ cZ c0 g16 w0 s0)) (hS : va_S A s.heap H locs) (ls : Array Slot) (hl : lv_has ls 4 []), W p l e (headSpec w_M_canBe ({ frames := 7, cells := 0, slots := 0, locals := 204 } : Room)).room s m ([.ref (ad 0), .int (p1), .int (nI p2), .int (nI p3)] : List Value).toArray below meth c H locs 0 0 (MQ below (va_Qi (fun r (_ : Unit) => r = bI (f_M_canBe r0 p1 p2 p3).1) (mB (dC, dI) A (mW ad cJ cZ c0 (f_M_canBe r0 p1 p2 p3).2 w0 s0)) A) ([.ref (ad 0), .int (p1), .int (nI p2), .int (nI p3)] : List Value).toArray s 0 0 A) (F0 m 43 ls []) := by
    intro g16 hj H locs hP hD hS ls hl
    refine lv_iconst (v := 0) hx hb d_M_canBe_43 (by decide) ?_
    have fe : f_M_canBe r0 p1 p2 p3 = (false, g16) := hj.trans rfl
    exact W.zret (v := bI false) hx hb hr (bI_n false) (fun t ht hW => ⟨⟨_, (), rfl, by rw [fe], by rw [ht, fe]; exact hP, by rw [fe]; exact hD⟩, hS.F ht⟩) hS.2.2 d_M_canBe_44
  have K16g : ∀ (g16 : (Nat → VV)) (hj : f_M_canBe r0 p1 p2 p3 = f_M_canBe_16g r0 p1 p2 p3 g16) (H : Heap) (locs : List Loc) (hP : va_P (dC, dI) classes (mW ad cJ cZ c0 g16 w0 s0) H) (hD : va_D A (mW ad cJ cZ c0 g16 w0 s0)) (hS : va_S A s.heap H locs) (ls : Array Slot) (hl : lv_has ls 4 [(0, .ref (ad 0))]), W p l e (headSpec w_M_canBe ({ frames := 7, cells := 0, slots := 0, locals := 204 } : Room)).room s m ([.ref (ad 0), .int (p1), .int (nI p2), .int (nI p3)] : List Value).toArray below meth c H locs 0 0 (MQ below (va_Qi (fun r (_ : Unit) => r = bI (f_M_canBe r0 p1 p2 p3).1) (mB (dC, dI) A (mW ad cJ cZ c0 (f_M_canBe r0 p1 p2 p3).2 w0 s0)) A) ([.ref (ad 0), .int (p1), .int (nI p2), .int (nI p3)] : List Value).toArray s 0 0 A) (F0 m 19 ls []) := by
    intro g16 hj H locs hP hD hS ls hl
    refine lv_aload_n hx hb d_M_canBe_19 rfl (lv_at hl 0 rfl) ?_
    refine va_get (D := (dC, dI)) (ci := 2) (v := .ref (ad 7)) (C := R_M) (T := F_M) (N := 10) hx hb hts (fun w h => List.mem_cons_of_mem _ (uw_M w h)) hown hK hP 0 rfl rfl 7 (by decide) (hG (.fieldLink R_M 28 "ValueSieveModel" "empty" "[Z") gx16) (fun _ h9 => h9) rfl d_M_canBe_20 ?_
    refine lv_bipush (v := 16) hx hb d_M_canBe_23 (by decide) ?_
    refine ml_7 (P := 16) hx hb hK hP rfl (by decide) d_M_canBe_25 ?_
    refine wz_ne (tgt := 43) hx hb d_M_canBe_26 (by decide) (fun e1_43 => ?_) (fun e1_43 => ?_)
    · refine K43 g16 (hj.trans (by unfold f_M_canBe_16g; first | with_reducible exact if_pos e1_43 | exact if_pos e1_43)) H locs ?_ ?_ hS ls (lv_sub hl [] rfl)
      · with_reducible exact hP
      · with_reducible exact hD
    · refine lv_aload_n hx hb d_M_canBe_29 rfl (lv_at hl 0 rfl) ?_
      refine va_get (D := (dC, dI)) (ci := 2) (v := .ref (ad 7)) (C := R_M) (T := F_M) (N := 10) hx hb hts (fun w h => List.mem_cons_of_mem _ (uw_M w h)) hown hK hP 0 rfl rfl 7 (by decide) (hG (.fieldLink R_M 28 "ValueSieveModel" "empty" "[Z") gx16) (fun _ h9 => h9) rfl d_M_canBe_30 ?_
      refine lv_bipush (v := 17) hx hb d_M_canBe_33 (by decide) ?_
      refine ml_7 (P := 17) hx hb hK hP rfl (by decide) d_M_canBe_35 ?_
      refine wz_ne (tgt := 43) hx hb d_M_canBe_36 (by decide) (fun e2_43 => ?_) (fun e2_43 => ?_)
      · refine K43 g16 (hj.trans (by unfold f_M_canBe_16g; first | with_reducible exact (if_neg e1_43).trans (if_pos e2_43) | exact (if_neg e1_43).trans (if_pos e2_43))) H locs ?_ ?_ hS ls (lv_sub hl [] rfl)
        · with_reducible exact hP
        · with_reducible exact hD
      · refine lv_iconst (v := 1) hx hb d_M_canBe_39 (by decide) ?_
        refine lv_goto (tgt := 44) hx hb d_M_canBe_40 (by decide) ?_
        have fe : f_M_canBe r0 p1 p2 p3 = (true, g16) := hj.trans (by unfold f_M_canBe_16g; first | with_reducible exact (if_neg e1_43).trans (if_neg e2_43) | exact (if_neg e1_43).trans (if_neg e2_43))
        exact W.zret (v := bI true) hx hb hr (bI_n true) (fun t ht hW => ⟨⟨_, (), rfl, by rw [fe], by rw [ht, fe]; exact hP, by rw [fe]; exact hD⟩, hS.F ht⟩) hS.2.2 d_M_canBe_44
  have K11g : ∀ (g11 : (Nat → VV)) (hj : f_M_canBe r0 p1 p2 p3 = f_M_canBe_11g r0 p1 p2 p3 g11) (H : Heap) (locs : List Loc) (hP : va_P (dC, dI) classes (mW ad cJ cZ c0 g11 w0 s0) H) (hD : va_D A (mW ad cJ cZ c0 g11 w0 s0)) (hS : va_S A s.heap H locs) (ls : Array Slot) (hl : lv_has ls 4 [(0, .ref (ad 0)), (1, .int (p1))]), W p l e (headSpec w_M_canBe ({ frames := 7, cells := 0, slots := 0, locals := 204 } : Room)).room s m ([.ref (ad 0), .int (p1), .int (nI p2), .int (nI p3)] : List Value).toArray below meth c H locs 0 0 (MQ below (va_Qi (fun r (_ : Unit) => r = bI (f_M_canBe r0 p1 p2 p3).1) (mB (dC, dI) A (mW ad cJ cZ c0 (f_M_canBe r0 p1 p2 p3).2 w0 s0)) A) ([.ref (ad 0), .int (p1), .int (nI p2), .int (nI p3)] : List Value).toArray s 0 0 A) (F0 m 14 ls []) := by
    intro g11 hj H locs hP hD hS ls hl
    refine lv_aload_n hx hb d_M_canBe_14 rfl (lv_at hl 0 rfl) ?_
    refine lv_iload_n hx hb d_M_canBe_15 rfl (lv_at hl 1 rfl) ?_
    refine mm_v (F := f_M_refine g11 p1) (w1 := fun g16 => (mW ad cJ cZ c0 g16 w0 s0)) (va_runV (As := [.int (p1)]) (rest := []) ⟨hx, hb, hml, hown, hts⟩ (c_M_refine l dC dI ad cJ cZ H.size c0 g11 w0 s0 p1) (cwV 1 hts (gxV gx222 gx223 gx304 gx0 gx224) rfl rfl rfl (by decide +kernel) ⟨(Nat.le_of_ble_eq_true rfl), (Nat.le_of_ble_eq_true rfl)⟩) ⟨blp, va_recv hK hP (ci := 2) (q0 := 0) rfl rfl, fun U hU hW => ⟨rfl, by rw [hU], by rw [hU]; exact hP, va_K.moved hW.alike hK, hD.weaken (fun _ _ _ _ => trivial)⟩⟩ rfl rfl hl.1 rfl (lv_room (Nat.le_of_ble_eq_true rfl)) d_M_canBe_16 ⟨Nat.zero_le _, Nat.zero_le _⟩) hD hS hA (fun g16 eg16 H locs hP hD hS => ?_)
    refine K16g g16 (Eq.trans (hj.trans rfl) (congrArg (fun g16 => f_M_canBe_16g r0 p1 p2 p3 g16) eg16)) H locs ?_ ?_ hS ls (lv_sub hl [0] rfl)
    · with_reducible exact hP
    · with_reducible exact hD
  have K4g : ∀ (g4 : (Nat → VV)) (hj : f_M_canBe r0 p1 p2 p3 = f_M_canBe_4g r0 p1 p2 p3 g4) (H : Heap) (locs : List Loc) (hP : va_P (dC, dI) classes (mW ad cJ cZ c0 g4 w0 s0) H) (hD : va_D A (mW ad cJ cZ c0 g4 w0 s0)) (hS : va_S A s.heap H locs) (ls : Array Slot) (hl : lv_has ls 4 [(0, .ref (ad 0)), (1, .int (p1)), (3, .int (nI p3))]), W p l e (headSpec w_M_canBe ({ frames := 7, cells := 0, slots := 0, locals := 204 } : Room)).room s m ([.ref (ad 0), .int (p1), .int (nI p2), .int (nI p3)] : List Value).toArray below meth c H locs 0 0 (MQ below (va_Qi (fun r (_ : Unit) => r = bI (f_M_canBe r0 p1 p2 p3).1) (mB (dC, dI) A (mW ad cJ cZ c0 (f_M_canBe r0 p1 p2 p3).2 w0 s0)) A) ([.ref (ad 0), .int (p1), .int (nI p2), .int (nI p3)] : List Value).toArray s 0 0 A) (F0 m 7 ls []) := by
    intro g4 hj H locs hP hD hS ls hl
    refine lv_aload_n hx hb d_M_canBe_7 rfl (lv_at hl 0 rfl) ?_
    refine lv_iload_n hx hb d_M_canBe_8 rfl (lv_at hl 2 rfl) ?_
    refine lv_bipush (v := 17) hx hb d_M_canBe_9 (by decide) ?_
    refine mm_v (F := f_M_copy g4 p3 17) (w1 := fun g11 => (mW ad cJ cZ c0 g11 w0 s0)) (va_runV (As := [.int (nI p3), .int (17)]) (rest := []) ⟨hx, hb, hml, hown, hts⟩ (c_M_copy l dC dI ad cJ cZ H.size c0 g4 w0 s0 p3 17 b3 (by decide)) (cwV 2 hts (gxV gx48 gx49 gx268 gx0 gx50) rfl rfl rfl (by decide +kernel) ⟨(Nat.le_of_ble_eq_true rfl), (Nat.le_of_ble_eq_true rfl)⟩) ⟨blp, va_recv hK hP (ci := 2) (q0 := 0) rfl rfl, fun U hU hW => ⟨rfl, by rw [hU], by rw [hU]; exact hP, va_K.moved hW.alike hK, hD.weaken (fun _ _ _ _ => trivial)⟩⟩ rfl rfl hl.1 rfl (lv_room (Nat.le_of_ble_eq_true rfl)) d_M_canBe_11 ⟨Nat.zero_le _, Nat.zero_le _⟩) hD hS hA (fun g11 eg11 H locs hP hD hS => ?_)
    refine K11g g11 (Eq.trans (hj.trans rfl) (congrArg (fun g11 => f_M_canBe_11g r0 p1 p2 p3 g11) eg11)) H locs ?_ ?_ hS ls (lv_sub hl [0, 1] rfl)
    · with_reducible exact hP
    · with_reducible exact hD
  refine lv_aload_n hx hb d_M_canBe_0 rfl (lv_at hl 0 rfl) ?_
  refine lv_iload_n hx hb d_M_canBe_1 rfl (lv_at hl 2 rfl) ?_
  refine lv_bipush (v := 16) hx hb d_M_canBe_2 (by decide) ?_
  refine mm_v (F := f_M_copy r0 p2 16) (w1 := fun g4 => (mW ad cJ cZ c0 g4 w0 s0)) (va_runV (As := [.int (nI p2), .int (16)]) (rest := []) ⟨hx, hb, hml, hown, hts⟩ (c_M_copy l dC dI ad cJ cZ s.heap.size c0 r0 w0 s0 p2 16 b2 (by decide)) (cwV 2 hts (gxV gx48 gx49 gx268 gx0 gx50) rfl rfl rfl (by decide +kernel) ⟨(Nat.le_of_ble_eq_true rfl), (Nat.le_of_ble_eq_true rfl)⟩) ⟨blp, va_recv hK hP (ci := 2) (q0 := 0) rfl rfl, fun U hU hW => ⟨rfl, by rw [hU], by rw [hU]; exact hP, va_K.moved hW.alike hK, hD.weaken (fun _ _ _ _ => trivial)⟩⟩ rfl rfl hl.1 rfl (lv_room (Nat.le_of_ble_eq_true rfl)) d_M_canBe_4 ⟨Nat.zero_le _, Nat.zero_le _⟩) hD hS hA (fun g4 eg4 H locs hP hD hS => ?_)
  refine K4g g4 (Eq.trans (rfl) (congrArg (fun g4 => f_M_canBe_4g r0 p1 p2 p3 g4) eg4)) H locs ?_ ?_ hS ls (lv_sub hl [0, 1, 3] rfl)
  · with_reducible exact hP
  · with_reducible exact hD
-- noPlace
theorem d_M_noPlace_0 : decode b_M_noPlace 0 = .ok (.aload_n 0, 1) := by decide +kernel
theorem d_M_noPlace_1 : decode b_M_noPlace 1 = .ok (.iload_n 1, 1) := by decide +kernel
theorem d_M_noPlace_2 : decode b_M_noPlace 2 = .ok (.ifCond .lt 29, 3) := by decide +kernel
theorem d_M_noPlace_5 : decode b_M_noPlace 5 = .ok (.iload_n 1, 1) := by decide +kernel
theorem d_M_noPlace_6 : decode b_M_noPlace 6 = .ok (.bipush 15, 2) := by decide +kernel
theorem d_M_noPlace_8 : decode b_M_noPlace 8 = .ok (.if_icmp .gt 23, 3) := by decide +kernel
theorem d_M_noPlace_11 : decode b_M_noPlace 11 = .ok (.iload_n 2, 1) := by decide +kernel
theorem d_M_noPlace_12 : decode b_M_noPlace 12 = .ok (.ifCond .lt 19, 3) := by decide +kernel
theorem d_M_noPlace_15 : decode b_M_noPlace 15 = .ok (.iload_n 2, 1) := by decide +kernel
theorem d_M_noPlace_16 : decode b_M_noPlace 16 = .ok (.bipush 15, 2) := by decide +kernel
theorem d_M_noPlace_18 : decode b_M_noPlace 18 = .ok (.if_icmp .gt 13, 3) := by decide +kernel
theorem d_M_noPlace_21 : decode b_M_noPlace 21 = .ok (.iload_n 3, 1) := by decide +kernel
theorem d_M_noPlace_22 : decode b_M_noPlace 22 = .ok (.ifCond .lt 9, 3) := by decide +kernel
theorem d_M_noPlace_25 : decode b_M_noPlace 25 = .ok (.iload_n 3, 1) := by decide +kernel
theorem d_M_noPlace_26 : decode b_M_noPlace 26 = .ok (.bipush 15, 2) := by decide +kernel
theorem d_M_noPlace_28 : decode b_M_noPlace 28 = .ok (.if_icmp .le 7, 3) := by decide +kernel
theorem d_M_noPlace_31 : decode b_M_noPlace 31 = .ok (.iconst 1, 1) := by decide +kernel
theorem d_M_noPlace_32 : decode b_M_noPlace 32 = .ok (.goto 4, 3) := by decide +kernel
theorem d_M_noPlace_35 : decode b_M_noPlace 35 = .ok (.iconst 0, 1) := by decide +kernel
theorem d_M_noPlace_36 : decode b_M_noPlace 36 = .ok (.putfield 35, 3) := by decide +kernel
theorem d_M_noPlace_39 : decode b_M_noPlace 39 = .ok (.aload_n 0, 1) := by decide +kernel
theorem d_M_noPlace_40 : decode b_M_noPlace 40 = .ok (.getfield 35, 3) := by decide +kernel
theorem d_M_noPlace_43 : decode b_M_noPlace 43 = .ok (.ifCond .le 7, 3) := by decide +kernel
theorem d_M_noPlace_46 : decode b_M_noPlace 46 = .ok (.iconst 1, 1) := by decide +kernel
theorem d_M_noPlace_47 : decode b_M_noPlace 47 = .ok (.goto 4, 3) := by decide +kernel
theorem d_M_noPlace_50 : decode b_M_noPlace 50 = .ok (.iconst 0, 1) := by decide +kernel
theorem d_M_noPlace_51 : decode b_M_noPlace 51 = .ok (.ireturn, 1) := by decide +kernel
def f_M_noPlace_36 (p1 : Int32) (p2 : Int32) (p3 : Int32) (s36_0 : Bool) : Bool × Int32 := (if (bI s36_0) ≤ 0 then (false, bI s36_0) else (true, bI s36_0))
def f_M_noPlace_31 (p1 : Int32) (p2 : Int32) (p3 : Int32) : Bool × Int32 := f_M_noPlace_36 p1 p2 p3 true
def f_M_noPlace (p1 : Int32) (p2 : Int32) (p3 : Int32) : Bool × Int32 := (if p1 < 0 then f_M_noPlace_31 p1 p2 p3 else (if 15 < p1 then f_M_noPlace_31 p1 p2 p3 else (if p2 < 0 then f_M_noPlace_31 p1 p2 p3 else (if 15 < p2 then f_M_noPlace_31 p1 p2 p3 else (if p3 < 0 then f_M_noPlace_31 p1 p2 p3 else (if p3 ≤ 15 then f_M_noPlace_36 p1 p2 p3 false else f_M_noPlace_31 p1 p2 p3))))))
set_option maxRecDepth 100000 in
set_option maxHeartbeats 4000000 in
theorem c_M_noPlace (l : Launch) (dC : Nat → ClassId) (dI : Nat → Nat → Nat) (ad : Nat → Nat) (cJ cZ : ClassId) (sz : Nat) (c0 : Int32) (r0 : (Nat → VV)) (w0 : (Nat → Int64)) (s0 : Int32) (p1 : Int32) (p2 : Int32) (p3 : Int32) : Met l y_M_noPlace w_M_noPlace ({ frames := 0, cells := 0, slots := 0, locals := 0 } : Room) (va_Pc [.ref (ad 0), .int (p1), .int (p2), .int (p3)] (nP (dC, dI) (mT cJ cZ) (mW ad cJ cZ c0 r0 w0 s0) sz)) (va_Qi (fun r (_ : Unit) => r = bI (f_M_noPlace p1 p2 p3).1) (mB (dC, dI) (va_A (mW ad cJ cZ c0 r0 w0 s0) sz) (mW ad cJ cZ (f_M_noPlace p1 p2 p3).2 r0 w0 s0)) (va_A (mW ad cJ cZ c0 r0 w0 s0) sz)) 0 0 (va_A (mW ad cJ cZ c0 r0 w0 s0) sz) := by
  refine Met.ofW (cc := b_M_noPlace) (maxL := 4) (ret := (some .boolean)) (by decide) rfl ?_
  intro p e s m args below meth c s₁ B hml hv
  obtain ⟨rfl, hsz, hP, hK, hD0⟩ := hv
  have hx := B.exec
  have hb := B.bytes
  have hr := B.returns
  have hts := atoms_spec (ws := w_M_noPlace) B.pre
  have hG : ∀ w ∈ gM, w.before _ s = true := fun w h => hts w (List.mem_cons_of_mem _ h)
  have hown : s.vm.findClass R_M = some m.cls := findClass_of_methodNamed B.named
  have hlocks := B.notSynchronized
  subst hsz
  have hD := hD0.self (sz := s.heap.size)
  generalize hAe : va_A (mW ad cJ cZ c0 r0 w0 s0) s.heap.size = A at hD ⊢
  have hA : ∀ q : Nat, s.heap.size ≤ q → A q := fun q h => by rw [← hAe]; exact Or.inr h
  have hS : va_S A s.heap s.heap [] := va_S.rf
  have hl := lv_entry ([.ref (ad 0), .int (p1), .int (p2), .int (p3)]) (n := 4) (Nat.le_of_ble_eq_true rfl)
  rw [lg_entry_eq]
  generalize (lg_sl ([.ref (ad 0), .int (p1), .int (p2), .int (p3)]) ++ List.replicate (4 - (lg_sl ([.ref (ad 0), .int (p1), .int (p2), .int (p3)])).length) Slot.unset).toArray = ls at hl ⊢
  have hl : lv_has ls 4 [(0, .ref (ad 0)), (1, .int (p1)), (2, .int (p2)), (3, .int (p3))] := hl
  have K36 : ∀ (s36_0 : Bool) (hj : f_M_noPlace p1 p2 p3 = f_M_noPlace_36 p1 p2 p3 s36_0) (H : Heap) (locs : List Loc) (hP : va_P (dC, dI) classes (mW ad cJ cZ c0 r0 w0 s0) H) (hD : va_D A (mW ad cJ cZ c0 r0 w0 s0)) (hS : va_S A s.heap H locs) (ls : Array Slot) (hl : lv_has ls 4 [(0, .ref (ad 0))]), W p l e (headSpec w_M_noPlace ({ frames := 0, cells := 0, slots := 0, locals := 0 } : Room)).room s m ([.ref (ad 0), .int (p1), .int (p2), .int (p3)] : List Value).toArray below meth c H locs 0 0 (MQ below (va_Qi (fun r (_ : Unit) => r = bI (f_M_noPlace p1 p2 p3).1) (mB (dC, dI) A (mW ad cJ cZ (f_M_noPlace p1 p2 p3).2 r0 w0 s0)) A) ([.ref (ad 0), .int (p1), .int (p2), .int (p3)] : List Value).toArray s 0 0 A) (F0 m 36 ls [.int (bI s36_0), .ref (ad 0)]) := by
    intro s36_0 hj H locs hP hD hS ls hl
    refine mp_c hx hb hts (fun w h => List.mem_cons_of_mem _ (uw_M w h)) hown hK hP hD hS (hG (.fieldLink R_M 35 "ValueSieveModel" "code" "I") gx9) d_M_noPlace_36 (fun H locs hP hD hS => ?_)
    refine lv_aload_n hx hb d_M_noPlace_39 rfl (lv_at hl 0 rfl) ?_
    refine va_get (D := (dC, dI)) (ci := 2) (v := .int (bI s36_0)) (C := R_M) (T := F_M) (N := 10) hx hb hts (fun w h => List.mem_cons_of_mem _ (uw_M w h)) hown hK hP 0 rfl rfl 0 (by decide) (hG (.fieldLink R_M 35 "ValueSieveModel" "code" "I") gx9) (fun _ h9 => h9) rfl d_M_noPlace_40 ?_
    refine lv_if_le (tgt := 50) hx hb d_M_noPlace_43 (by decide) (fun e1_50 => ?_) (fun e1_50 => ?_)
    · refine lv_iconst (v := 0) hx hb d_M_noPlace_50 (by decide) ?_
      have fe : f_M_noPlace p1 p2 p3 = (false, bI s36_0) := hj.trans (by unfold f_M_noPlace_36; first | with_reducible exact if_pos e1_50 | exact if_pos e1_50)
      exact W.zret (v := bI false) hx hb hr (bI_n false) (fun t ht hW => ⟨⟨_, (), rfl, by rw [fe], by rw [ht, fe]; exact hP, by rw [fe]; exact hD⟩, hS.F ht⟩) hS.2.2 d_M_noPlace_51
    · refine lv_iconst (v := 1) hx hb d_M_noPlace_46 (by decide) ?_
      refine lv_goto (tgt := 51) hx hb d_M_noPlace_47 (by decide) ?_
      have fe : f_M_noPlace p1 p2 p3 = (true, bI s36_0) := hj.trans (by unfold f_M_noPlace_36; first | with_reducible exact if_neg e1_50 | exact if_neg e1_50)
      exact W.zret (v := bI true) hx hb hr (bI_n true) (fun t ht hW => ⟨⟨_, (), rfl, by rw [fe], by rw [ht, fe]; exact hP, by rw [fe]; exact hD⟩, hS.F ht⟩) hS.2.2 d_M_noPlace_51
  have K31 : ∀ (hj : f_M_noPlace p1 p2 p3 = f_M_noPlace_31 p1 p2 p3) (H : Heap) (locs : List Loc) (hP : va_P (dC, dI) classes (mW ad cJ cZ c0 r0 w0 s0) H) (hD : va_D A (mW ad cJ cZ c0 r0 w0 s0)) (hS : va_S A s.heap H locs) (ls : Array Slot) (hl : lv_has ls 4 [(0, .ref (ad 0))]), W p l e (headSpec w_M_noPlace ({ frames := 0, cells := 0, slots := 0, locals := 0 } : Room)).room s m ([.ref (ad 0), .int (p1), .int (p2), .int (p3)] : List Value).toArray below meth c H locs 0 0 (MQ below (va_Qi (fun r (_ : Unit) => r = bI (f_M_noPlace p1 p2 p3).1) (mB (dC, dI) A (mW ad cJ cZ (f_M_noPlace p1 p2 p3).2 r0 w0 s0)) A) ([.ref (ad 0), .int (p1), .int (p2), .int (p3)] : List Value).toArray s 0 0 A) (F0 m 31 ls [.ref (ad 0)]) := by
    intro hj H locs hP hD hS ls hl
    refine lv_iconst (v := 1) hx hb d_M_noPlace_31 (by decide) ?_
    refine lv_goto (tgt := 36) hx hb d_M_noPlace_32 (by decide) ?_
    refine K36 true (hj.trans rfl) H locs ?_ ?_ hS ls (lv_sub hl [0] rfl)
    · with_reducible exact hP
    · with_reducible exact hD
  refine lv_aload_n hx hb d_M_noPlace_0 rfl (lv_at hl 0 rfl) ?_
  refine lv_iload_n hx hb d_M_noPlace_1 rfl (lv_at hl 1 rfl) ?_
  refine lv_if_lt (tgt := 31) hx hb d_M_noPlace_2 (by decide) (fun e1_31 => ?_) (fun e1_31 => ?_)
  · refine K31 (by unfold f_M_noPlace; first | with_reducible exact if_pos e1_31 | exact if_pos e1_31) s.heap [] ?_ ?_ hS ls (lv_sub hl [0] rfl)
    · with_reducible exact hP
    · with_reducible exact hD
  · refine lv_iload_n hx hb d_M_noPlace_5 rfl (lv_at hl 1 rfl) ?_
    refine lv_bipush (v := 15) hx hb d_M_noPlace_6 (by decide) ?_
    refine lv_icmp_gt (tgt := 31) hx hb d_M_noPlace_8 (by decide) (fun e2_31 => ?_) (fun e2_31 => ?_)
    · refine K31 (by unfold f_M_noPlace; first | with_reducible exact (if_neg e1_31).trans (if_pos e2_31) | exact (if_neg e1_31).trans (if_pos e2_31)) s.heap [] ?_ ?_ hS ls (lv_sub hl [0] rfl)
      · with_reducible exact hP
      · with_reducible exact hD
    · refine lv_iload_n hx hb d_M_noPlace_11 rfl (lv_at hl 2 rfl) ?_
      refine lv_if_lt (tgt := 31) hx hb d_M_noPlace_12 (by decide) (fun e3_31 => ?_) (fun e3_31 => ?_)
      · refine K31 (by unfold f_M_noPlace; first | with_reducible exact (if_neg e1_31).trans ((if_neg e2_31).trans (if_pos e3_31)) | exact (if_neg e1_31).trans ((if_neg e2_31).trans (if_pos e3_31))) s.heap [] ?_ ?_ hS ls (lv_sub hl [0] rfl)
        · with_reducible exact hP
        · with_reducible exact hD
      · refine lv_iload_n hx hb d_M_noPlace_15 rfl (lv_at hl 2 rfl) ?_
        refine lv_bipush (v := 15) hx hb d_M_noPlace_16 (by decide) ?_
        refine lv_icmp_gt (tgt := 31) hx hb d_M_noPlace_18 (by decide) (fun e4_31 => ?_) (fun e4_31 => ?_)
        · refine K31 (by unfold f_M_noPlace; first | with_reducible exact (if_neg e1_31).trans ((if_neg e2_31).trans ((if_neg e3_31).trans (if_pos e4_31))) | exact (if_neg e1_31).trans ((if_neg e2_31).trans ((if_neg e3_31).trans (if_pos e4_31)))) s.heap [] ?_ ?_ hS ls (lv_sub hl [0] rfl)
          · with_reducible exact hP
          · with_reducible exact hD
        · refine lv_iload_n hx hb d_M_noPlace_21 rfl (lv_at hl 3 rfl) ?_
          refine lv_if_lt (tgt := 31) hx hb d_M_noPlace_22 (by decide) (fun e5_31 => ?_) (fun e5_31 => ?_)
          · refine K31 (by unfold f_M_noPlace; first | with_reducible exact (if_neg e1_31).trans ((if_neg e2_31).trans ((if_neg e3_31).trans ((if_neg e4_31).trans (if_pos e5_31)))) | exact (if_neg e1_31).trans ((if_neg e2_31).trans ((if_neg e3_31).trans ((if_neg e4_31).trans (if_pos e5_31))))) s.heap [] ?_ ?_ hS ls (lv_sub hl [0] rfl)
            · with_reducible exact hP
            · with_reducible exact hD
          · refine lv_iload_n hx hb d_M_noPlace_25 rfl (lv_at hl 3 rfl) ?_
            refine lv_bipush (v := 15) hx hb d_M_noPlace_26 (by decide) ?_
            refine lv_icmp_le (tgt := 35) hx hb d_M_noPlace_28 (by decide) (fun e6_35 => ?_) (fun e6_35 => ?_)
            · refine lv_iconst (v := 0) hx hb d_M_noPlace_35 (by decide) ?_
              refine K36 false (by unfold f_M_noPlace; first | with_reducible exact (if_neg e1_31).trans ((if_neg e2_31).trans ((if_neg e3_31).trans ((if_neg e4_31).trans ((if_neg e5_31).trans (if_pos e6_35))))) | exact (if_neg e1_31).trans ((if_neg e2_31).trans ((if_neg e3_31).trans ((if_neg e4_31).trans ((if_neg e5_31).trans (if_pos e6_35)))))) s.heap [] ?_ ?_ hS ls (lv_sub hl [0] rfl)
              · with_reducible exact hP
              · with_reducible exact hD
            · refine K31 (by unfold f_M_noPlace; first | with_reducible exact (if_neg e1_31).trans ((if_neg e2_31).trans ((if_neg e3_31).trans ((if_neg e4_31).trans ((if_neg e5_31).trans (if_neg e6_35))))) | exact (if_neg e1_31).trans ((if_neg e2_31).trans ((if_neg e3_31).trans ((if_neg e4_31).trans ((if_neg e5_31).trans (if_neg e6_35)))))) s.heap [] ?_ ?_ hS ls (lv_sub hl [0] rfl)
              · with_reducible exact hP
              · with_reducible exact hD
def npF (b : Bool) (x y z : Int32) : Prop := b = true ∨ ((x = nI x.toNatClampNeg ∧ x.toNatClampNeg < 16) ∧ (y = nI y.toNatClampNeg ∧ y.toNatClampNeg < 16) ∧ (z = nI z.toNatClampNeg ∧ z.toNatClampNeg < 16))
theorem npF_of {b : Bool} {x y z : Int32} (h : npF b x y z) (e : ¬ b = true) : (x = nI x.toNatClampNeg ∧ x.toNatClampNeg < 16) ∧ (y = nI y.toNatClampNeg ∧ y.toNatClampNeg < 16) ∧ (z = nI z.toNatClampNeg ∧ z.toNatClampNeg < 16) := h.elim (fun q => absurd q e) id
theorem pl_of {x : Int32} (h0 : ¬ x < 0) (h1 : ¬ 15 < x) : x = nI x.toNatClampNeg ∧ x.toNatClampNeg < 16 := by
  obtain ⟨j, hj, rfl⟩ := nI_of h0
  rw [nI_clamp hj]
  refine ⟨rfl, ?_⟩
  rw [Int32.lt_iff_toInt_lt, nI_toInt hj, show (15 : Int32).toInt = 15 by decide] at h1
  omega
theorem np_ok {x y z : Int32} {g : Bool × Int32} (h : f_M_noPlace x y z = g) : npF g.1 x y z := by
  subst h
  unfold f_M_noPlace f_M_noPlace_31 f_M_noPlace_36
  by_cases a1 : x < 0
  · rw [if_pos a1]; exact Or.inl rfl
  rw [if_neg a1]
  by_cases a2 : 15 < x
  · rw [if_pos a2]; exact Or.inl rfl
  rw [if_neg a2]
  by_cases a3 : y < 0
  · rw [if_pos a3]; exact Or.inl rfl
  rw [if_neg a3]
  by_cases a4 : 15 < y
  · rw [if_pos a4]; exact Or.inl rfl
  rw [if_neg a4]
  by_cases a5 : z < 0
  · rw [if_pos a5]; exact Or.inl rfl
  rw [if_neg a5]
  by_cases a6 : z ≤ 15
  · rw [if_pos a6]
    refine Or.inr ⟨pl_of a1 a2, pl_of a3 a4, pl_of a5 ?_⟩
    rw [Int32.le_iff_toInt_le] at a6
    rw [Int32.lt_iff_toInt_lt]
    omega
  · rw [if_neg a6]; exact Or.inl rfl
-- noComparison
theorem d_M_noComparison_0 : decode b_M_noComparison 0 = .ok (.aload_n 0, 1) := by decide +kernel
theorem d_M_noComparison_1 : decode b_M_noComparison 1 = .ok (.iload_n 2, 1) := by decide +kernel
theorem d_M_noComparison_2 : decode b_M_noComparison 2 = .ok (.iload_n 3, 1) := by decide +kernel
theorem d_M_noComparison_3 : decode b_M_noComparison 3 = .ok (.iconst 0, 1) := by decide +kernel
theorem d_M_noComparison_4 : decode b_M_noComparison 4 = .ok (.invokevirtual 98, 3) := by decide +kernel
theorem d_M_noComparison_7 : decode b_M_noComparison 7 = .ok (.ifCond .eq 5, 3) := by decide +kernel
theorem d_M_noComparison_10 : decode b_M_noComparison 10 = .ok (.iconst 1, 1) := by decide +kernel
theorem d_M_noComparison_11 : decode b_M_noComparison 11 = .ok (.ireturn, 1) := by decide +kernel
theorem d_M_noComparison_12 : decode b_M_noComparison 12 = .ok (.aload_n 0, 1) := by decide +kernel
theorem d_M_noComparison_13 : decode b_M_noComparison 13 = .ok (.iload_n 1, 1) := by decide +kernel
theorem d_M_noComparison_14 : decode b_M_noComparison 14 = .ok (.ifCond .lt 14, 3) := by decide +kernel
theorem d_M_noComparison_17 : decode b_M_noComparison 17 = .ok (.iload_n 1, 1) := by decide +kernel
theorem d_M_noComparison_18 : decode b_M_noComparison 18 = .ok (.bipush 11, 2) := by decide +kernel
theorem d_M_noComparison_20 : decode b_M_noComparison 20 = .ok (.if_icmp .gt 8, 3) := by decide +kernel
theorem d_M_noComparison_23 : decode b_M_noComparison 23 = .ok (.iload_n 2, 1) := by decide +kernel
theorem d_M_noComparison_24 : decode b_M_noComparison 24 = .ok (.iload_n 3, 1) := by decide +kernel
theorem d_M_noComparison_25 : decode b_M_noComparison 25 = .ok (.if_icmp .ne 7, 3) := by decide +kernel
theorem d_M_noComparison_28 : decode b_M_noComparison 28 = .ok (.iconst 2, 1) := by decide +kernel
theorem d_M_noComparison_29 : decode b_M_noComparison 29 = .ok (.goto 4, 3) := by decide +kernel
theorem d_M_noComparison_32 : decode b_M_noComparison 32 = .ok (.iconst 0, 1) := by decide +kernel
theorem d_M_noComparison_33 : decode b_M_noComparison 33 = .ok (.putfield 35, 3) := by decide +kernel
theorem d_M_noComparison_36 : decode b_M_noComparison 36 = .ok (.aload_n 0, 1) := by decide +kernel
theorem d_M_noComparison_37 : decode b_M_noComparison 37 = .ok (.getfield 35, 3) := by decide +kernel
theorem d_M_noComparison_40 : decode b_M_noComparison 40 = .ok (.ifCond .le 7, 3) := by decide +kernel
theorem d_M_noComparison_43 : decode b_M_noComparison 43 = .ok (.iconst 1, 1) := by decide +kernel
theorem d_M_noComparison_44 : decode b_M_noComparison 44 = .ok (.goto 4, 3) := by decide +kernel
theorem d_M_noComparison_47 : decode b_M_noComparison 47 = .ok (.iconst 0, 1) := by decide +kernel
theorem d_M_noComparison_48 : decode b_M_noComparison 48 = .ok (.ireturn, 1) := by decide +kernel
def f_M_noComparison_33 (p1 : Int32) (p2 : Int32) (p3 : Int32) (s33_0 : Int32) (c33 : Int32) : Bool × Int32 := (if s33_0 ≤ 0 then (false, s33_0) else (true, s33_0))
def f_M_noComparison_28 (p1 : Int32) (p2 : Int32) (p3 : Int32) (c28 : Int32) : Bool × Int32 := f_M_noComparison_33 p1 p2 p3 2 c28
def f_M_noComparison_4g (p1 : Int32) (p2 : Int32) (p3 : Int32) (g4 : Bool × Int32) : Bool × Int32 := (if g4.1 = true then (true, g4.2) else (if p1 < 0 then f_M_noComparison_28 p1 p2 p3 g4.2 else (if 11 < p1 then f_M_noComparison_28 p1 p2 p3 g4.2 else (if (nI p2.toNatClampNeg) = (nI p3.toNatClampNeg) then f_M_noComparison_28 p1 p2 p3 g4.2 else f_M_noComparison_33 p1 p2 p3 0 g4.2))))
def f_M_noComparison (p1 : Int32) (p2 : Int32) (p3 : Int32) : Bool × Int32 := f_M_noComparison_4g p1 p2 p3 (f_M_noPlace p2 p3 0)
set_option maxRecDepth 100000 in
set_option maxHeartbeats 4000000 in
theorem c_M_noComparison (l : Launch) (dC : Nat → ClassId) (dI : Nat → Nat → Nat) (ad : Nat → Nat) (cJ cZ : ClassId) (sz : Nat) (c0 : Int32) (r0 : (Nat → VV)) (w0 : (Nat → Int64)) (s0 : Int32) (p1 : Int32) (p2 : Int32) (p3 : Int32) : Met l y_M_noComparison w_M_noComparison ({ frames := 1, cells := 0, slots := 0, locals := 23 } : Room) (va_Pc [.ref (ad 0), .int (p1), .int (p2), .int (p3)] (nP (dC, dI) (mT cJ cZ) (mW ad cJ cZ c0 r0 w0 s0) sz)) (va_Qi (fun r (_ : Unit) => r = bI (f_M_noComparison p1 p2 p3).1) (mB (dC, dI) (va_A (mW ad cJ cZ c0 r0 w0 s0) sz) (mW ad cJ cZ (f_M_noComparison p1 p2 p3).2 r0 w0 s0)) (va_A (mW ad cJ cZ c0 r0 w0 s0) sz)) 0 0 (va_A (mW ad cJ cZ c0 r0 w0 s0) sz) := by
  refine Met.ofW (cc := b_M_noComparison) (maxL := 4) (ret := (some .boolean)) (by decide) rfl ?_
  intro p e s m args below meth c s₁ B hml hv
  obtain ⟨rfl, hsz, hP, hK, hD0⟩ := hv
  have hx := B.exec
  have hb := B.bytes
  have hr := B.returns
  have hts := atoms_spec (ws := w_M_noComparison) B.pre
  have hG : ∀ w ∈ gM, w.before _ s = true := fun w h => hts w (List.mem_cons_of_mem _ h)
  have hown : s.vm.findClass R_M = some m.cls := findClass_of_methodNamed B.named
  have hlocks := B.notSynchronized
  subst hsz
  have hD := hD0.self (sz := s.heap.size)
  generalize hAe : va_A (mW ad cJ cZ c0 r0 w0 s0) s.heap.size = A at hD ⊢
  have hA : ∀ q : Nat, s.heap.size ≤ q → A q := fun q h => by rw [← hAe]; exact Or.inr h
  have hS : va_S A s.heap s.heap [] := va_S.rf
  have hl := lv_entry ([.ref (ad 0), .int (p1), .int (p2), .int (p3)]) (n := 4) (Nat.le_of_ble_eq_true rfl)
  rw [lg_entry_eq]
  generalize (lg_sl ([.ref (ad 0), .int (p1), .int (p2), .int (p3)]) ++ List.replicate (4 - (lg_sl ([.ref (ad 0), .int (p1), .int (p2), .int (p3)])).length) Slot.unset).toArray = ls at hl ⊢
  have hl : lv_has ls 4 [(0, .ref (ad 0)), (1, .int (p1)), (2, .int (p2)), (3, .int (p3))] := hl
  have K33 : ∀ (s33_0 : Int32) (c33 : Int32) (hj : f_M_noComparison p1 p2 p3 = f_M_noComparison_33 p1 p2 p3 s33_0 c33) (H : Heap) (locs : List Loc) (hP : va_P (dC, dI) classes (mW ad cJ cZ c33 r0 w0 s0) H) (hD : va_D A (mW ad cJ cZ c33 r0 w0 s0)) (hS : va_S A s.heap H locs) (ls : Array Slot) (hl : lv_has ls 4 [(0, .ref (ad 0))]), W p l e (headSpec w_M_noComparison ({ frames := 1, cells := 0, slots := 0, locals := 23 } : Room)).room s m ([.ref (ad 0), .int (p1), .int (p2), .int (p3)] : List Value).toArray below meth c H locs 0 0 (MQ below (va_Qi (fun r (_ : Unit) => r = bI (f_M_noComparison p1 p2 p3).1) (mB (dC, dI) A (mW ad cJ cZ (f_M_noComparison p1 p2 p3).2 r0 w0 s0)) A) ([.ref (ad 0), .int (p1), .int (p2), .int (p3)] : List Value).toArray s 0 0 A) (F0 m 33 ls [.int (s33_0), .ref (ad 0)]) := by
    intro s33_0 c33 hj H locs hP hD hS ls hl
    refine mp_c hx hb hts (fun w h => List.mem_cons_of_mem _ (uw_M w h)) hown hK hP hD hS (hG (.fieldLink R_M 35 "ValueSieveModel" "code" "I") gx9) d_M_noComparison_33 (fun H locs hP hD hS => ?_)
    refine lv_aload_n hx hb d_M_noComparison_36 rfl (lv_at hl 0 rfl) ?_
    refine va_get (D := (dC, dI)) (ci := 2) (v := .int (s33_0)) (C := R_M) (T := F_M) (N := 10) hx hb hts (fun w h => List.mem_cons_of_mem _ (uw_M w h)) hown hK hP 0 rfl rfl 0 (by decide) (hG (.fieldLink R_M 35 "ValueSieveModel" "code" "I") gx9) (fun _ h9 => h9) rfl d_M_noComparison_37 ?_
    refine lv_if_le (tgt := 47) hx hb d_M_noComparison_40 (by decide) (fun e1_47 => ?_) (fun e1_47 => ?_)
    · refine lv_iconst (v := 0) hx hb d_M_noComparison_47 (by decide) ?_
      have fe : f_M_noComparison p1 p2 p3 = (false, s33_0) := hj.trans (by unfold f_M_noComparison_33; first | with_reducible exact if_pos e1_47 | exact if_pos e1_47)
      exact W.zret (v := bI false) hx hb hr (bI_n false) (fun t ht hW => ⟨⟨_, (), rfl, by rw [fe], by rw [ht, fe]; exact hP, by rw [fe]; exact hD⟩, hS.F ht⟩) hS.2.2 d_M_noComparison_48
    · refine lv_iconst (v := 1) hx hb d_M_noComparison_43 (by decide) ?_
      refine lv_goto (tgt := 48) hx hb d_M_noComparison_44 (by decide) ?_
      have fe : f_M_noComparison p1 p2 p3 = (true, s33_0) := hj.trans (by unfold f_M_noComparison_33; first | with_reducible exact if_neg e1_47 | exact if_neg e1_47)
      exact W.zret (v := bI true) hx hb hr (bI_n true) (fun t ht hW => ⟨⟨_, (), rfl, by rw [fe], by rw [ht, fe]; exact hP, by rw [fe]; exact hD⟩, hS.F ht⟩) hS.2.2 d_M_noComparison_48
  have K28 : ∀ (c28 : Int32) (hj : f_M_noComparison p1 p2 p3 = f_M_noComparison_28 p1 p2 p3 c28) (H : Heap) (locs : List Loc) (hP : va_P (dC, dI) classes (mW ad cJ cZ c28 r0 w0 s0) H) (hD : va_D A (mW ad cJ cZ c28 r0 w0 s0)) (hS : va_S A s.heap H locs) (ls : Array Slot) (hl : lv_has ls 4 [(0, .ref (ad 0))]), W p l e (headSpec w_M_noComparison ({ frames := 1, cells := 0, slots := 0, locals := 23 } : Room)).room s m ([.ref (ad 0), .int (p1), .int (p2), .int (p3)] : List Value).toArray below meth c H locs 0 0 (MQ below (va_Qi (fun r (_ : Unit) => r = bI (f_M_noComparison p1 p2 p3).1) (mB (dC, dI) A (mW ad cJ cZ (f_M_noComparison p1 p2 p3).2 r0 w0 s0)) A) ([.ref (ad 0), .int (p1), .int (p2), .int (p3)] : List Value).toArray s 0 0 A) (F0 m 28 ls [.ref (ad 0)]) := by
    intro c28 hj H locs hP hD hS ls hl
    refine lv_iconst (v := 2) hx hb d_M_noComparison_28 (by decide) ?_
    refine lv_goto (tgt := 33) hx hb d_M_noComparison_29 (by decide) ?_
    refine K33 2 c28 (hj.trans rfl) H locs ?_ ?_ hS ls (lv_sub hl [0] rfl)
    · with_reducible exact hP
    · with_reducible exact hD
  have K4g : ∀ (g4 : Bool × Int32) (hj : f_M_noComparison p1 p2 p3 = f_M_noComparison_4g p1 p2 p3 g4) (hf0 : npF g4.1 p2 p3 0) (H : Heap) (locs : List Loc) (hP : va_P (dC, dI) classes (mW ad cJ cZ g4.2 r0 w0 s0) H) (hD : va_D A (mW ad cJ cZ g4.2 r0 w0 s0)) (hS : va_S A s.heap H locs) (ls : Array Slot) (hl : lv_has ls 4 [(0, .ref (ad 0)), (1, .int (p1)), (2, .int (p2)), (3, .int (p3))]), W p l e (headSpec w_M_noComparison ({ frames := 1, cells := 0, slots := 0, locals := 23 } : Room)).room s m ([.ref (ad 0), .int (p1), .int (p2), .int (p3)] : List Value).toArray below meth c H locs 0 0 (MQ below (va_Qi (fun r (_ : Unit) => r = bI (f_M_noComparison p1 p2 p3).1) (mB (dC, dI) A (mW ad cJ cZ (f_M_noComparison p1 p2 p3).2 r0 w0 s0)) A) ([.ref (ad 0), .int (p1), .int (p2), .int (p3)] : List Value).toArray s 0 0 A) (F0 m 7 ls [.int (bI g4.1)]) := by
    intro g4 hj hf0 H locs hP hD hS ls hl
    refine wz_eq (tgt := 12) hx hb d_M_noComparison_7 (by decide) (fun e1_12 => ?_) (fun e1_12 => ?_)
    · obtain ⟨⟨i1, j1⟩, ⟨i2, j2⟩, ⟨i3, j3⟩⟩ := npF_of hf0 e1_12
      refine lv_aload_n hx hb d_M_noComparison_12 rfl (lv_at hl 0 rfl) ?_
      refine lv_iload_n hx hb d_M_noComparison_13 rfl (lv_at hl 1 rfl) ?_
      refine lv_if_lt (tgt := 28) hx hb d_M_noComparison_14 (by decide) (fun e2_28 => ?_) (fun e2_28 => ?_)
      · refine K28 g4.2 (hj.trans (by unfold f_M_noComparison_4g; first | with_reducible exact (if_neg e1_12).trans (if_pos e2_28) | exact (if_neg e1_12).trans (if_pos e2_28))) H locs ?_ ?_ hS ls (lv_sub hl [0] rfl)
        · with_reducible exact hP
        · with_reducible exact hD
      · refine lv_iload_n hx hb d_M_noComparison_17 rfl (lv_at hl 1 rfl) ?_
        refine lv_bipush (v := 11) hx hb d_M_noComparison_18 (by decide) ?_
        refine lv_icmp_gt (tgt := 28) hx hb d_M_noComparison_20 (by decide) (fun e3_28 => ?_) (fun e3_28 => ?_)
        · refine K28 g4.2 (hj.trans (by unfold f_M_noComparison_4g; first | with_reducible exact (if_neg e1_12).trans ((if_neg e2_28).trans (if_pos e3_28)) | exact (if_neg e1_12).trans ((if_neg e2_28).trans (if_pos e3_28)))) H locs ?_ ?_ hS ls (lv_sub hl [0] rfl)
          · with_reducible exact hP
          · with_reducible exact hD
        · refine lv_iload_n hx hb d_M_noComparison_23 rfl (lv_at hl 2 rfl) ?_
          refine top_i i1 ?_
          refine lv_iload_n hx hb d_M_noComparison_24 rfl (lv_at hl 3 rfl) ?_
          refine top_i i2 ?_
          refine lv_icmp_ne (tgt := 32) hx hb d_M_noComparison_25 (by decide) (fun e4_32 => ?_) (fun e4_32 => ?_)
          · refine lv_iconst (v := 0) hx hb d_M_noComparison_32 (by decide) ?_
            refine K33 0 g4.2 (hj.trans (by unfold f_M_noComparison_4g; first | with_reducible exact (if_neg e1_12).trans ((if_neg e2_28).trans ((if_neg e3_28).trans (if_neg e4_32))) | exact (if_neg e1_12).trans ((if_neg e2_28).trans ((if_neg e3_28).trans (if_neg e4_32))))) H locs ?_ ?_ hS ls (lv_sub hl [0] rfl)
            · with_reducible exact hP
            · with_reducible exact hD
          · refine K28 g4.2 (hj.trans (by unfold f_M_noComparison_4g; first | with_reducible exact (if_neg e1_12).trans ((if_neg e2_28).trans ((if_neg e3_28).trans (if_pos e4_32))) | exact (if_neg e1_12).trans ((if_neg e2_28).trans ((if_neg e3_28).trans (if_pos e4_32))))) H locs ?_ ?_ hS ls (lv_sub hl [0] rfl)
            · with_reducible exact hP
            · with_reducible exact hD
    · refine lv_iconst (v := 1) hx hb d_M_noComparison_10 (by decide) ?_
      have fe : f_M_noComparison p1 p2 p3 = (true, g4.2) := hj.trans (by unfold f_M_noComparison_4g; first | with_reducible exact if_pos e1_12 | exact if_pos e1_12)
      exact W.zret (v := bI true) hx hb hr (bI_n true) (fun t ht hW => ⟨⟨_, (), rfl, by rw [fe], by rw [ht, fe]; exact hP, by rw [fe]; exact hD⟩, hS.F ht⟩) hS.2.2 d_M_noComparison_11
  refine lv_aload_n hx hb d_M_noComparison_0 rfl (lv_at hl 0 rfl) ?_
  refine lv_iload_n hx hb d_M_noComparison_1 rfl (lv_at hl 2 rfl) ?_
  refine lv_iload_n hx hb d_M_noComparison_2 rfl (lv_at hl 3 rfl) ?_
  refine lv_iconst (v := 0) hx hb d_M_noComparison_3 (by decide) ?_
  refine mm_z (F := f_M_noPlace p2 p3 0) (w1 := fun g4 => (mW ad cJ cZ g4.2 r0 w0 s0)) (va_runV (As := [.int (p2), .int (p3), .int (0)]) (rest := []) ⟨hx, hb, hml, hown, hts⟩ (c_M_noPlace l dC dI ad cJ cZ s.heap.size c0 r0 w0 s0 p2 p3 0) (cwV 3 hts (gxV gx36 gx37 gx276 gx0 gx38) rfl rfl rfl (by decide +kernel) ⟨(Nat.le_of_ble_eq_true rfl), (Nat.le_of_ble_eq_true rfl)⟩) ⟨blp, va_recv hK hP (ci := 2) (q0 := 0) rfl rfl, fun U hU hW => ⟨rfl, by rw [hU], by rw [hU]; exact hP, va_K.moved hW.alike hK, hD.weaken (fun _ _ _ _ => trivial)⟩⟩ rfl rfl hl.1 rfl (lv_room (Nat.le_of_ble_eq_true rfl)) d_M_noComparison_4 ⟨Nat.zero_le _, Nat.zero_le _⟩) hD hS hA (fun g4 eg4 H locs hP hD hS => ?_)
  have hpg4 := np_ok eg4
  refine K4g g4 (Eq.trans (rfl) (congrArg (fun g4 => f_M_noComparison_4g p1 p2 p3 g4) eg4)) hpg4 H locs ?_ ?_ hS ls (lv_sub hl [0, 1, 2, 3] rfl)
  · with_reducible exact hP
  · with_reducible exact hD
theorem nc_ok {x y z : Int32} {g : Bool × Int32} (h : f_M_noComparison x y z = g) : npF g.1 0 y z := by
  subst h
  have h1 := np_ok (x := y) (y := z) (z := 0) rfl
  have h0 : (0 : Int32) = nI (0 : Int32).toNatClampNeg ∧ (0 : Int32).toNatClampNeg < 16 := ⟨rfl, by decide⟩
  unfold f_M_noComparison f_M_noComparison_4g
  by_cases a1 : (f_M_noPlace y z 0).1 = true
  · rw [if_pos a1]; exact Or.inl rfl
  rw [if_neg a1]
  obtain ⟨q1, q2, -⟩ := npF_of h1 a1
  exact Or.inr ⟨h0, q1, q2⟩
-- look
theorem d_M_look_0 : decode b_M_look 0 = .ok (.aload_n 0, 1) := by decide +kernel
theorem d_M_look_1 : decode b_M_look 1 = .ok (.aload_n 0, 1) := by decide +kernel
theorem d_M_look_2 : decode b_M_look 2 = .ok (.iload_n 1, 1) := by decide +kernel
theorem d_M_look_3 : decode b_M_look 3 = .ok (.aload_n 0, 1) := by decide +kernel
theorem d_M_look_4 : decode b_M_look 4 = .ok (.getfield 32, 3) := by decide +kernel
theorem d_M_look_7 : decode b_M_look 7 = .ok (.iload_n 1, 1) := by decide +kernel
theorem d_M_look_8 : decode b_M_look 8 = .ok (.laload, 1) := by decide +kernel
theorem d_M_look_9 : decode b_M_look 9 = .ok (.invokevirtual 83, 3) := by decide +kernel
theorem d_M_look_12 : decode b_M_look 12 = .ok (.ifCond .eq 10, 3) := by decide +kernel
theorem d_M_look_15 : decode b_M_look 15 = .ok (.aload_n 0, 1) := by decide +kernel
theorem d_M_look_16 : decode b_M_look 16 = .ok (.getfield 87, 3) := by decide +kernel
theorem d_M_look_19 : decode b_M_look 19 = .ok (.goto 9, 3) := by decide +kernel
theorem d_M_look_22 : decode b_M_look 22 = .ok (.aload_n 0, 1) := by decide +kernel
theorem d_M_look_23 : decode b_M_look 23 = .ok (.getfield 87, 3) := by decide +kernel
theorem d_M_look_26 : decode b_M_look 26 = .ok (.iconst 1, 1) := by decide +kernel
theorem d_M_look_27 : decode b_M_look 27 = .ok (.iadd, 1) := by decide +kernel
theorem d_M_look_28 : decode b_M_look 28 = .ok (.putfield 87, 3) := by decide +kernel
theorem d_M_look_31 : decode b_M_look 31 = .ok (.return_, 1) := by decide +kernel
def f_M_look_28 (r0 : (Nat → VV)) (w0 : (Nat → Int64)) (s0 : Int32) (p1 : Nat) (s28_0 : Int32) : Int32 := s28_0
def f_M_look (r0 : (Nat → VV)) (w0 : (Nat → Int64)) (s0 : Int32) (p1 : Nat) : Int32 := (if (f_M_isNumber r0 p1 (w0 p1)) = true then f_M_look_28 r0 w0 s0 p1 s0 else f_M_look_28 r0 w0 s0 p1 (s0 + (1 : Int32)))
set_option maxRecDepth 100000 in
set_option maxHeartbeats 4000000 in
theorem c_M_look (l : Launch) (dC : Nat → ClassId) (dI : Nat → Nat → Nat) (ad : Nat → Nat) (cJ cZ : ClassId) (sz : Nat) (c0 : Int32) (r0 : (Nat → VV)) (w0 : (Nat → Int64)) (s0 : Int32) (p1 : Nat) (b1 : p1 < 16) : Met l y_M_look w_M_look ({ frames := 2, cells := 0, slots := 0, locals := 46 } : Room) (va_Pc [.ref (ad 0), .int (nI p1)] (nP (dC, dI) (mT cJ cZ) (mW ad cJ cZ c0 r0 w0 s0) sz)) (va_Qv (fun _ : Unit => True) (mB (dC, dI) (va_A (mW ad cJ cZ c0 r0 w0 s0) sz) (mW ad cJ cZ c0 r0 w0 (f_M_look r0 w0 s0 p1))) (va_A (mW ad cJ cZ c0 r0 w0 s0) sz)) 0 0 (va_A (mW ad cJ cZ c0 r0 w0 s0) sz) := by
  refine Met.ofW (cc := b_M_look) (maxL := 2) (ret := none) (by decide) rfl ?_
  intro p e s m args below meth c s₁ B hml hv
  obtain ⟨rfl, hsz, hP, hK, hD0⟩ := hv
  have hx := B.exec
  have hb := B.bytes
  have hr := B.returns
  have hts := atoms_spec (ws := w_M_look) B.pre
  have hG : ∀ w ∈ gM, w.before _ s = true := fun w h => hts w (List.mem_cons_of_mem _ h)
  have hown : s.vm.findClass R_M = some m.cls := findClass_of_methodNamed B.named
  have hlocks := B.notSynchronized
  subst hsz
  have hD := hD0.self (sz := s.heap.size)
  generalize hAe : va_A (mW ad cJ cZ c0 r0 w0 s0) s.heap.size = A at hD ⊢
  have hA : ∀ q : Nat, s.heap.size ≤ q → A q := fun q h => by rw [← hAe]; exact Or.inr h
  have hS : va_S A s.heap s.heap [] := va_S.rf
  have hl := lv_entry ([.ref (ad 0), .int (nI p1)]) (n := 2) (Nat.le_of_ble_eq_true rfl)
  rw [lg_entry_eq]
  generalize (lg_sl ([.ref (ad 0), .int (nI p1)]) ++ List.replicate (2 - (lg_sl ([.ref (ad 0), .int (nI p1)])).length) Slot.unset).toArray = ls at hl ⊢
  have hl : lv_has ls 2 [(0, .ref (ad 0)), (1, .int (nI p1))] := hl
  have K28 : ∀ (s28_0 : Int32) (hj : f_M_look r0 w0 s0 p1 = f_M_look_28 r0 w0 s0 p1 s28_0) (H : Heap) (locs : List Loc) (hP : va_P (dC, dI) classes (mW ad cJ cZ c0 r0 w0 s0) H) (hD : va_D A (mW ad cJ cZ c0 r0 w0 s0)) (hS : va_S A s.heap H locs) (ls : Array Slot) (hl : lv_has ls 2 []), W p l e (headSpec w_M_look ({ frames := 2, cells := 0, slots := 0, locals := 46 } : Room)).room s m ([.ref (ad 0), .int (nI p1)] : List Value).toArray below meth c H locs 0 0 (MQ below (va_Qv (fun _ : Unit => True) (mB (dC, dI) A (mW ad cJ cZ c0 r0 w0 (f_M_look r0 w0 s0 p1))) A) ([.ref (ad 0), .int (nI p1)] : List Value).toArray s 0 0 A) (F0 m 28 ls [.int (s28_0), .ref (ad 0)]) := by
    intro s28_0 hj H locs hP hD hS ls hl
    refine mp_s hx hb hts (fun w h => List.mem_cons_of_mem _ (uw_M w h)) hown hK hP hD hS (hG (.fieldLink R_M 87 "ValueSieveModel" "strays" "I") gx18) d_M_look_28 (fun H locs hP hD hS => ?_)
    have fe : f_M_look r0 w0 s0 p1 = s28_0 := hj.trans rfl
    exact W.vret hx hb hr (fun t ht hW => ⟨⟨(), rfl, trivial, by rw [ht, fe]; exact hP, by rw [fe]; exact hD⟩, hS.F ht⟩) hS.2.2 d_M_look_31
  refine lv_aload_n hx hb d_M_look_0 rfl (lv_at hl 0 rfl) ?_
  refine lv_aload_n hx hb d_M_look_1 rfl (lv_at hl 0 rfl) ?_
  refine lv_iload_n hx hb d_M_look_2 rfl (lv_at hl 1 rfl) ?_
  refine lv_aload_n hx hb d_M_look_3 rfl (lv_at hl 0 rfl) ?_
  refine va_get (D := (dC, dI)) (ci := 2) (v := .ref (ad 8)) (C := R_M) (T := F_M) (N := 10) hx hb hts (fun w h => List.mem_cons_of_mem _ (uw_M w h)) hown hK hP 0 rfl rfl 8 (by decide) (hG (.fieldLink R_M 32 "ValueSieveModel" "witness" "[J") gx17) (fun _ h9 => h9) rfl d_M_look_4 ?_
  refine lv_iload_n hx hb d_M_look_7 rfl (lv_at hl 1 rfl) ?_
  refine ml_8 (P := p1) hx hb hK hP rfl b1 d_M_look_8 ?_
  refine rc_i (W.runV (As := [.int (nI p1), .long (w0 p1)]) (rest := [.ref (ad 0)]) ⟨hx, hb, hml, hown, hts⟩ (c_M_isNumber l dC dI ad cJ cZ c0 r0 w0 s0 p1 (w0 p1) (Nat.lt_of_lt_of_le b1 (by decide))) (cwV 2 hts (gxV gx54 gx55 gx269 gx0 gx56) rfl rfl rfl (by decide +kernel) ⟨(Nat.le_of_ble_eq_true rfl), (Nat.le_of_ble_eq_true rfl)⟩) ⟨bln, va_recv hK hP (ci := 2) (q0 := 0) rfl rfl, fun U hU hW => ⟨rfl, by rw [hU]; exact hP, va_K.moved hW.alike hK⟩⟩ rfl rfl hl.1 rfl (lv_room (Nat.le_of_ble_eq_true rfl)) d_M_look_9 ⟨Nat.zero_le _, Nat.zero_le _⟩) ?_
  refine wz_eq (tgt := 22) hx hb d_M_look_12 (by decide) (fun e1_22 => ?_) (fun e1_22 => ?_)
  · refine lv_aload_n hx hb d_M_look_22 rfl (lv_at hl 0 rfl) ?_
    refine va_get (D := (dC, dI)) (ci := 2) (v := .int (s0)) (C := R_M) (T := F_M) (N := 10) hx hb hts (fun w h => List.mem_cons_of_mem _ (uw_M w h)) hown hK hP 0 rfl rfl 9 (by decide) (hG (.fieldLink R_M 87 "ValueSieveModel" "strays" "I") gx18) (fun _ h9 => h9) rfl d_M_look_23 ?_
    refine lv_iconst (v := 1) hx hb d_M_look_26 (by decide) ?_
    refine lv_iadd hx hb d_M_look_27 ?_
    refine K28 (s0 + (1 : Int32)) (by unfold f_M_look; first | with_reducible exact if_neg e1_22 | exact if_neg e1_22) s.heap [] ?_ ?_ hS ls (lv_sub hl [] rfl)
    · with_reducible exact hP
    · with_reducible exact hD
  · refine lv_aload_n hx hb d_M_look_15 rfl (lv_at hl 0 rfl) ?_
    refine va_get (D := (dC, dI)) (ci := 2) (v := .int (s0)) (C := R_M) (T := F_M) (N := 10) hx hb hts (fun w h => List.mem_cons_of_mem _ (uw_M w h)) hown hK hP 0 rfl rfl 9 (by decide) (hG (.fieldLink R_M 87 "ValueSieveModel" "strays" "I") gx18) (fun _ h9 => h9) rfl d_M_look_16 ?_
    refine lv_goto (tgt := 28) hx hb d_M_look_19 (by decide) ?_
    refine K28 s0 (by unfold f_M_look; first | with_reducible exact if_pos e1_22 | exact if_pos e1_22) s.heap [] ?_ ?_ hS ls (lv_sub hl [] rfl)
    · with_reducible exact hP
    · with_reducible exact hD
-- put
theorem d_M_put_0 : decode b_M_put 0 = .ok (.aload_n 0, 1) := by decide +kernel
theorem d_M_put_1 : decode b_M_put 1 = .ok (.iload_n 2, 1) := by decide +kernel
theorem d_M_put_2 : decode b_M_put 2 = .ok (.iload_n 1, 1) := by decide +kernel
theorem d_M_put_3 : decode b_M_put 3 = .ok (.invokevirtual 90, 3) := by decide +kernel
theorem d_M_put_6 : decode b_M_put 6 = .ok (.aload_n 0, 1) := by decide +kernel
theorem d_M_put_7 : decode b_M_put 7 = .ok (.getfield 32, 3) := by decide +kernel
theorem d_M_put_10 : decode b_M_put 10 = .ok (.iload_n 1, 1) := by decide +kernel
theorem d_M_put_11 : decode b_M_put 11 = .ok (.lload_n 3, 1) := by decide +kernel
theorem d_M_put_12 : decode b_M_put 12 = .ok (.lastore, 1) := by decide +kernel
theorem d_M_put_13 : decode b_M_put 13 = .ok (.aload_n 0, 1) := by decide +kernel
theorem d_M_put_14 : decode b_M_put 14 = .ok (.iload_n 1, 1) := by decide +kernel
theorem d_M_put_15 : decode b_M_put 15 = .ok (.invokevirtual 94, 3) := by decide +kernel
theorem d_M_put_18 : decode b_M_put 18 = .ok (.return_, 1) := by decide +kernel
def f_M_put_15g (r0 : (Nat → VV)) (w0 : (Nat → Int64)) (s0 : Int32) (p1 : Nat) (p2 : Nat) (p3 : Int64) (g3 : (Nat → VV)) (w12n : (Nat → Int64)) (g15 : Int32) : (Nat → VV) × (Nat → Int64) × Int32 := (g3, w12n, g15)
def f_M_put_12u (r0 : (Nat → VV)) (w0 : (Nat → Int64)) (s0 : Int32) (p1 : Nat) (p2 : Nat) (p3 : Int64) (g3 : (Nat → VV)) (w12n : (Nat → Int64)) : (Nat → VV) × (Nat → Int64) × Int32 := f_M_put_15g r0 w0 s0 p1 p2 p3 g3 w12n (f_M_look g3 w12n s0 p1)
def f_M_put_3g (r0 : (Nat → VV)) (w0 : (Nat → Int64)) (s0 : Int32) (p1 : Nat) (p2 : Nat) (p3 : Int64) (g3 : (Nat → VV)) : (Nat → VV) × (Nat → Int64) × Int32 := f_M_put_12u r0 w0 s0 p1 p2 p3 g3 (u8 w0 p1 p3)
def f_M_put (r0 : (Nat → VV)) (w0 : (Nat → Int64)) (s0 : Int32) (p1 : Nat) (p2 : Nat) (p3 : Int64) : (Nat → VV) × (Nat → Int64) × Int32 := f_M_put_3g r0 w0 s0 p1 p2 p3 (f_M_copy r0 p2 p1)
set_option maxRecDepth 100000 in
set_option maxHeartbeats 4000000 in
theorem c_M_put (l : Launch) (dC : Nat → ClassId) (dI : Nat → Nat → Nat) (ad : Nat → Nat) (cJ cZ : ClassId) (sz : Nat) (c0 : Int32) (r0 : (Nat → VV)) (w0 : (Nat → Int64)) (s0 : Int32) (p1 : Nat) (p2 : Nat) (p3 : Int64) (b1 : p1 < 16) (b2 : p2 < 24) : Met l y_M_put w_M_put ({ frames := 3, cells := 0, slots := 0, locals := 67 } : Room) (va_Pc [.ref (ad 0), .int (nI p1), .int (nI p2), .long (p3)] (nP (dC, dI) (mT cJ cZ) (mW ad cJ cZ c0 r0 w0 s0) sz)) (va_Qv (fun _ : Unit => True) (mB (dC, dI) (va_A (mW ad cJ cZ c0 r0 w0 s0) sz) (mW ad cJ cZ c0 (f_M_put r0 w0 s0 p1 p2 p3).1 (f_M_put r0 w0 s0 p1 p2 p3).2.1 (f_M_put r0 w0 s0 p1 p2 p3).2.2)) (va_A (mW ad cJ cZ c0 r0 w0 s0) sz)) 0 0 (va_A (mW ad cJ cZ c0 r0 w0 s0) sz) := by
  refine Met.ofW (cc := b_M_put) (maxL := 5) (ret := none) (by decide) rfl ?_
  intro p e s m args below meth c s₁ B hml hv
  obtain ⟨rfl, hsz, hP, hK, hD0⟩ := hv
  have hx := B.exec
  have hb := B.bytes
  have hr := B.returns
  have hts := atoms_spec (ws := w_M_put) B.pre
  have hG : ∀ w ∈ gM, w.before _ s = true := fun w h => hts w (List.mem_cons_of_mem _ h)
  have hown : s.vm.findClass R_M = some m.cls := findClass_of_methodNamed B.named
  have hlocks := B.notSynchronized
  subst hsz
  have hD := hD0.self (sz := s.heap.size)
  generalize hAe : va_A (mW ad cJ cZ c0 r0 w0 s0) s.heap.size = A at hD ⊢
  have hA : ∀ q : Nat, s.heap.size ≤ q → A q := fun q h => by rw [← hAe]; exact Or.inr h
  have hS : va_S A s.heap s.heap [] := va_S.rf
  have hl := lv_entry ([.ref (ad 0), .int (nI p1), .int (nI p2), .long (p3)]) (n := 5) (Nat.le_of_ble_eq_true rfl)
  rw [lg_entry_eq]
  generalize (lg_sl ([.ref (ad 0), .int (nI p1), .int (nI p2), .long (p3)]) ++ List.replicate (5 - (lg_sl ([.ref (ad 0), .int (nI p1), .int (nI p2), .long (p3)])).length) Slot.unset).toArray = ls at hl ⊢
  have hl : lv_has ls 5 [(0, .ref (ad 0)), (1, .int (nI p1)), (2, .int (nI p2)), (3, .long (p3))] := hl
  have K15g : ∀ (g3 : (Nat → VV)) (w12n : (Nat → Int64)) (g15 : Int32) (hj : f_M_put r0 w0 s0 p1 p2 p3 = f_M_put_15g r0 w0 s0 p1 p2 p3 g3 w12n g15) (H : Heap) (locs : List Loc) (hP : va_P (dC, dI) classes (mW ad cJ cZ c0 g3 w12n g15) H) (hD : va_D A (mW ad cJ cZ c0 g3 w12n g15)) (hS : va_S A s.heap H locs) (ls : Array Slot) (hl : lv_has ls 5 []), W p l e (headSpec w_M_put ({ frames := 3, cells := 0, slots := 0, locals := 67 } : Room)).room s m ([.ref (ad 0), .int (nI p1), .int (nI p2), .long (p3)] : List Value).toArray below meth c H locs 0 0 (MQ below (va_Qv (fun _ : Unit => True) (mB (dC, dI) A (mW ad cJ cZ c0 (f_M_put r0 w0 s0 p1 p2 p3).1 (f_M_put r0 w0 s0 p1 p2 p3).2.1 (f_M_put r0 w0 s0 p1 p2 p3).2.2)) A) ([.ref (ad 0), .int (nI p1), .int (nI p2), .long (p3)] : List Value).toArray s 0 0 A) (F0 m 18 ls []) := by
    intro g3 w12n g15 hj H locs hP hD hS ls hl
    have fe : f_M_put r0 w0 s0 p1 p2 p3 = (g3, w12n, g15) := hj.trans rfl
    exact W.vret hx hb hr (fun t ht hW => ⟨⟨(), rfl, trivial, by rw [ht, fe]; exact hP, by rw [fe]; exact hD⟩, hS.F ht⟩) hS.2.2 d_M_put_18
  have K12u : ∀ (g3 : (Nat → VV)) (w12n : (Nat → Int64)) (hj : f_M_put r0 w0 s0 p1 p2 p3 = f_M_put_12u r0 w0 s0 p1 p2 p3 g3 w12n) (H : Heap) (locs : List Loc) (hP : va_P (dC, dI) classes (mW ad cJ cZ c0 g3 w12n s0) H) (hD : va_D A (mW ad cJ cZ c0 g3 w12n s0)) (hS : va_S A s.heap H locs) (ls : Array Slot) (hl : lv_has ls 5 [(0, .ref (ad 0)), (1, .int (nI p1))]), W p l e (headSpec w_M_put ({ frames := 3, cells := 0, slots := 0, locals := 67 } : Room)).room s m ([.ref (ad 0), .int (nI p1), .int (nI p2), .long (p3)] : List Value).toArray below meth c H locs 0 0 (MQ below (va_Qv (fun _ : Unit => True) (mB (dC, dI) A (mW ad cJ cZ c0 (f_M_put r0 w0 s0 p1 p2 p3).1 (f_M_put r0 w0 s0 p1 p2 p3).2.1 (f_M_put r0 w0 s0 p1 p2 p3).2.2)) A) ([.ref (ad 0), .int (nI p1), .int (nI p2), .long (p3)] : List Value).toArray s 0 0 A) (F0 m 13 ls []) := by
    intro g3 w12n hj H locs hP hD hS ls hl
    refine lv_aload_n hx hb d_M_put_13 rfl (lv_at hl 0 rfl) ?_
    refine lv_iload_n hx hb d_M_put_14 rfl (lv_at hl 1 rfl) ?_
    refine mm_v (F := f_M_look g3 w12n s0 p1) (w1 := fun g15 => (mW ad cJ cZ c0 g3 w12n g15)) (va_runV (As := [.int (nI p1)]) (rest := []) ⟨hx, hb, hml, hown, hts⟩ (c_M_look l dC dI ad cJ cZ H.size c0 g3 w12n s0 p1 b1) (cwV 1 hts (gxV gx51 gx52 gx277 gx0 gx53) rfl rfl rfl (by decide +kernel) ⟨(Nat.le_of_ble_eq_true rfl), (Nat.le_of_ble_eq_true rfl)⟩) ⟨blp, va_recv hK hP (ci := 2) (q0 := 0) rfl rfl, fun U hU hW => ⟨rfl, by rw [hU], by rw [hU]; exact hP, va_K.moved hW.alike hK, hD.weaken (fun _ _ _ _ => trivial)⟩⟩ rfl rfl hl.1 rfl (lv_room (Nat.le_of_ble_eq_true rfl)) d_M_put_15 ⟨Nat.zero_le _, Nat.zero_le _⟩) hD hS hA (fun g15 eg15 H locs hP hD hS => ?_)
    refine K15g g3 w12n g15 (Eq.trans (hj.trans rfl) (congrArg (fun g15 => f_M_put_15g r0 w0 s0 p1 p2 p3 g3 w12n g15) eg15)) H locs ?_ ?_ hS ls (lv_sub hl [] rfl)
    · with_reducible exact hP
    · with_reducible exact hD
  have K3g : ∀ (g3 : (Nat → VV)) (hj : f_M_put r0 w0 s0 p1 p2 p3 = f_M_put_3g r0 w0 s0 p1 p2 p3 g3) (H : Heap) (locs : List Loc) (hP : va_P (dC, dI) classes (mW ad cJ cZ c0 g3 w0 s0) H) (hD : va_D A (mW ad cJ cZ c0 g3 w0 s0)) (hS : va_S A s.heap H locs) (ls : Array Slot) (hl : lv_has ls 5 [(0, .ref (ad 0)), (1, .int (nI p1)), (3, .long (p3))]), W p l e (headSpec w_M_put ({ frames := 3, cells := 0, slots := 0, locals := 67 } : Room)).room s m ([.ref (ad 0), .int (nI p1), .int (nI p2), .long (p3)] : List Value).toArray below meth c H locs 0 0 (MQ below (va_Qv (fun _ : Unit => True) (mB (dC, dI) A (mW ad cJ cZ c0 (f_M_put r0 w0 s0 p1 p2 p3).1 (f_M_put r0 w0 s0 p1 p2 p3).2.1 (f_M_put r0 w0 s0 p1 p2 p3).2.2)) A) ([.ref (ad 0), .int (nI p1), .int (nI p2), .long (p3)] : List Value).toArray s 0 0 A) (F0 m 6 ls []) := by
    intro g3 hj H locs hP hD hS ls hl
    refine lv_aload_n hx hb d_M_put_6 rfl (lv_at hl 0 rfl) ?_
    refine va_get (D := (dC, dI)) (ci := 2) (v := .ref (ad 8)) (C := R_M) (T := F_M) (N := 10) hx hb hts (fun w h => List.mem_cons_of_mem _ (uw_M w h)) hown hK hP 0 rfl rfl 8 (by decide) (hG (.fieldLink R_M 32 "ValueSieveModel" "witness" "[J") gx17) (fun _ h9 => h9) rfl d_M_put_7 ?_
    refine lv_iload_n hx hb d_M_put_10 rfl (lv_at hl 1 rfl) ?_
    refine lv_lload_n hx hb d_M_put_11 rfl (lv_at hl 2 rfl) ?_
    refine ms_8 (P := p1) (x := p3) hx hb hK hP hD hS rfl b1 d_M_put_12 (fun H locs hP hD hS => ?_)
    obtain ⟨w12n, ew12n⟩ : ∃ z, z = u8 w0 p1 p3 := ⟨_, rfl⟩
    rw [← ew12n] at hP hD
    refine K12u g3 w12n (Eq.trans (hj.trans rfl) (congrArg (fun w12n => f_M_put_12u r0 w0 s0 p1 p2 p3 g3 w12n) ew12n.symm)) H locs ?_ ?_ hS ls (lv_sub hl [0, 1] rfl)
    · with_reducible exact hP
    · with_reducible exact hD
  refine lv_aload_n hx hb d_M_put_0 rfl (lv_at hl 0 rfl) ?_
  refine lv_iload_n hx hb d_M_put_1 rfl (lv_at hl 2 rfl) ?_
  refine lv_iload_n hx hb d_M_put_2 rfl (lv_at hl 1 rfl) ?_
  refine mm_v (F := f_M_copy r0 p2 p1) (w1 := fun g3 => (mW ad cJ cZ c0 g3 w0 s0)) (va_runV (As := [.int (nI p2), .int (nI p1)]) (rest := []) ⟨hx, hb, hml, hown, hts⟩ (c_M_copy l dC dI ad cJ cZ s.heap.size c0 r0 w0 s0 p2 p1 b2 (Nat.lt_of_lt_of_le b1 (by decide))) (cwV 2 hts (gxV gx48 gx49 gx268 gx0 gx50) rfl rfl rfl (by decide +kernel) ⟨(Nat.le_of_ble_eq_true rfl), (Nat.le_of_ble_eq_true rfl)⟩) ⟨blp, va_recv hK hP (ci := 2) (q0 := 0) rfl rfl, fun U hU hW => ⟨rfl, by rw [hU], by rw [hU]; exact hP, va_K.moved hW.alike hK, hD.weaken (fun _ _ _ _ => trivial)⟩⟩ rfl rfl hl.1 rfl (lv_room (Nat.le_of_ble_eq_true rfl)) d_M_put_3 ⟨Nat.zero_le _, Nat.zero_le _⟩) hD hS hA (fun g3 eg3 H locs hP hD hS => ?_)
  refine K3g g3 (Eq.trans (rfl) (congrArg (fun g3 => f_M_put_3g r0 w0 s0 p1 p2 p3 g3) eg3)) H locs ?_ ?_ hS ls (lv_sub hl [0, 1, 3] rfl)
  · with_reducible exact hP
  · with_reducible exact hD
